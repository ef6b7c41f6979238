section
-- ===== PART A: goes FIRST, ahead of the names: the tables' words, and 'selects' of the private methods out of them =====
/-- a private method of a class that the tables say can be made, by its rows of tables_1 -/
def lw_okq (q : MethodName × Nat) : Prop := (q.1.cls ≠ "java/lang/invoke/MethodHandle" ∧ q.1.cls ≠ "java/lang/invoke/VarHandle") ∧ Cond.instantiable q.1.cls q.2 ∈ tables_1 ∧ Cond.privateMethod q.1 ∈ tables_1 ∧ Cond.instanceMethod q.1 ∈ tables_1
theorem lw_p0 : lw_okq (⟨"DrawerSlips$History", "prepare", "(LDrawerSlips$Archive;)V"⟩, 3) := ⟨⟨by decide +kernel, by decide +kernel⟩, List.mem_of_getElem? (i := 142) (by decide +kernel), List.mem_of_getElem? (i := 244) (by decide +kernel), List.mem_of_getElem? (i := 245) (by decide +kernel)⟩
theorem lw_p1 : lw_okq (⟨"DrawerSlips$History", "stateAt", "(I)LDrawerSlips$Archive;"⟩, 3) := ⟨⟨by decide +kernel, by decide +kernel⟩, List.mem_of_getElem? (i := 142) (by decide +kernel), List.mem_of_getElem? (i := 248) (by decide +kernel), List.mem_of_getElem? (i := 249) (by decide +kernel)⟩
theorem lw_p2 : lw_okq (⟨"DrawerSlips$Archive", "copyFrom", "(LDrawerSlips$Archive;)V"⟩, 14) := ⟨⟨by decide +kernel, by decide +kernel⟩, List.mem_of_getElem? (i := 20) (by decide +kernel), List.mem_of_getElem? (i := 252) (by decide +kernel), List.mem_of_getElem? (i := 253) (by decide +kernel)⟩
theorem lw_p3 : lw_okq (⟨"DrawerSlips$Slip", "copyFrom", "(LDrawerSlips$Slip;)V"⟩, 8) := ⟨⟨by decide +kernel, by decide +kernel⟩, List.mem_of_getElem? (i := 52) (by decide +kernel), List.mem_of_getElem? (i := 256) (by decide +kernel), List.mem_of_getElem? (i := 257) (by decide +kernel)⟩
theorem lw_p4 : lw_okq (⟨"DrawerSlips$Lately", "copyFrom", "(LDrawerSlips$Lately;)V"⟩, 4) := ⟨⟨by decide +kernel, by decide +kernel⟩, List.mem_of_getElem? (i := 28) (by decide +kernel), List.mem_of_getElem? (i := 260) (by decide +kernel), List.mem_of_getElem? (i := 261) (by decide +kernel)⟩
theorem lw_p5 : lw_okq (⟨"DrawerSlips$Archive", "adjust", "(II)I"⟩, 14) := ⟨⟨by decide +kernel, by decide +kernel⟩, List.mem_of_getElem? (i := 20) (by decide +kernel), List.mem_of_getElem? (i := 265) (by decide +kernel), List.mem_of_getElem? (i := 266) (by decide +kernel)⟩
theorem lw_p6 : lw_okq (⟨"DrawerSlips", "settled", "(I)I"⟩, 7) := ⟨⟨by decide +kernel, by decide +kernel⟩, List.mem_of_getElem? (i := 12) (by decide +kernel), List.mem_of_getElem? (i := 279) (by decide +kernel), List.mem_of_getElem? (i := 280) (by decide +kernel)⟩
theorem lw_p7 : lw_okq (⟨"DrawerSlips$History", "keep", "()V"⟩, 3) := ⟨⟨by decide +kernel, by decide +kernel⟩, List.mem_of_getElem? (i := 142) (by decide +kernel), List.mem_of_getElem? (i := 283) (by decide +kernel), List.mem_of_getElem? (i := 284) (by decide +kernel)⟩
theorem lw_p8 : lw_okq (⟨"DrawerSlips$Archive", "accept", "(III)I"⟩, 14) := ⟨⟨by decide +kernel, by decide +kernel⟩, List.mem_of_getElem? (i := 20) (by decide +kernel), List.mem_of_getElem? (i := 294) (by decide +kernel), List.mem_of_getElem? (i := 295) (by decide +kernel)⟩
theorem lw_p9 : lw_okq (⟨"DrawerSlips$Archive", "hostFor", "(III)LDrawerSlips$Slip;"⟩, 14) := ⟨⟨by decide +kernel, by decide +kernel⟩, List.mem_of_getElem? (i := 20) (by decide +kernel), List.mem_of_getElem? (i := 301) (by decide +kernel), List.mem_of_getElem? (i := 302) (by decide +kernel)⟩
theorem lw_p10 : lw_okq (⟨"DrawerSlips$Slip", "isOfSort", "(I)Z"⟩, 8) := ⟨⟨by decide +kernel, by decide +kernel⟩, List.mem_of_getElem? (i := 52) (by decide +kernel), List.mem_of_getElem? (i := 305) (by decide +kernel), List.mem_of_getElem? (i := 306) (by decide +kernel)⟩
theorem lw_p11 : lw_okq (⟨"DrawerSlips$Slip", "last", "()I"⟩, 8) := ⟨⟨by decide +kernel, by decide +kernel⟩, List.mem_of_getElem? (i := 52) (by decide +kernel), List.mem_of_getElem? (i := 309) (by decide +kernel), List.mem_of_getElem? (i := 310) (by decide +kernel)⟩
theorem lw_p12 : lw_okq (⟨"DrawerSlips$Archive", "freePlace", "()LDrawerSlips$Slip;"⟩, 14) := ⟨⟨by decide +kernel, by decide +kernel⟩, List.mem_of_getElem? (i := 20) (by decide +kernel), List.mem_of_getElem? (i := 313) (by decide +kernel), List.mem_of_getElem? (i := 314) (by decide +kernel)⟩
theorem lw_p13 : lw_okq (⟨"DrawerSlips$Archive", "countWaiting", "(II)V"⟩, 14) := ⟨⟨by decide +kernel, by decide +kernel⟩, List.mem_of_getElem? (i := 20) (by decide +kernel), List.mem_of_getElem? (i := 317) (by decide +kernel), List.mem_of_getElem? (i := 318) (by decide +kernel)⟩
theorem lw_p14 : lw_okq (⟨"DrawerSlips$Archive", "tearUp", "(I)I"⟩, 14) := ⟨⟨by decide +kernel, by decide +kernel⟩, List.mem_of_getElem? (i := 20) (by decide +kernel), List.mem_of_getElem? (i := 325) (by decide +kernel), List.mem_of_getElem? (i := 326) (by decide +kernel)⟩
theorem lw_p15 : lw_okq (⟨"DrawerSlips$Archive", "find", "(I)LDrawerSlips$Slip;"⟩, 14) := ⟨⟨by decide +kernel, by decide +kernel⟩, List.mem_of_getElem? (i := 20) (by decide +kernel), List.mem_of_getElem? (i := 329) (by decide +kernel), List.mem_of_getElem? (i := 330) (by decide +kernel)⟩
def lw_privs_1 : List (MethodName × Nat) := [(⟨"DrawerSlips$History", "prepare", "(LDrawerSlips$Archive;)V"⟩, 3), (⟨"DrawerSlips$History", "stateAt", "(I)LDrawerSlips$Archive;"⟩, 3), (⟨"DrawerSlips$Archive", "copyFrom", "(LDrawerSlips$Archive;)V"⟩, 14), (⟨"DrawerSlips$Slip", "copyFrom", "(LDrawerSlips$Slip;)V"⟩, 8), (⟨"DrawerSlips$Lately", "copyFrom", "(LDrawerSlips$Lately;)V"⟩, 4), (⟨"DrawerSlips$Archive", "adjust", "(II)I"⟩, 14), (⟨"DrawerSlips", "settled", "(I)I"⟩, 7), (⟨"DrawerSlips$History", "keep", "()V"⟩, 3), (⟨"DrawerSlips$Archive", "accept", "(III)I"⟩, 14), (⟨"DrawerSlips$Archive", "hostFor", "(III)LDrawerSlips$Slip;"⟩, 14), (⟨"DrawerSlips$Slip", "isOfSort", "(I)Z"⟩, 8), (⟨"DrawerSlips$Slip", "last", "()I"⟩, 8), (⟨"DrawerSlips$Archive", "freePlace", "()LDrawerSlips$Slip;"⟩, 14), (⟨"DrawerSlips$Archive", "countWaiting", "(II)V"⟩, 14), (⟨"DrawerSlips$Archive", "tearUp", "(I)I"⟩, 14), (⟨"DrawerSlips$Archive", "find", "(I)LDrawerSlips$Slip;"⟩, 14)]
theorem lw_r1 : ∀ q ∈ lw_privs_1, lw_okq q := List.forall_mem_cons.mpr ⟨lw_p0, List.forall_mem_cons.mpr ⟨lw_p1, List.forall_mem_cons.mpr ⟨lw_p2, List.forall_mem_cons.mpr ⟨lw_p3, List.forall_mem_cons.mpr ⟨lw_p4, List.forall_mem_cons.mpr ⟨lw_p5, List.forall_mem_cons.mpr ⟨lw_p6, List.forall_mem_cons.mpr ⟨lw_p7, List.forall_mem_cons.mpr ⟨lw_p8, List.forall_mem_cons.mpr ⟨lw_p9, List.forall_mem_cons.mpr ⟨lw_p10, List.forall_mem_cons.mpr ⟨lw_p11, List.forall_mem_cons.mpr ⟨lw_p12, List.forall_mem_cons.mpr ⟨lw_p13, List.forall_mem_cons.mpr ⟨lw_p14, List.forall_mem_cons.mpr ⟨lw_p15, fun _ h => absurd h List.not_mem_nil⟩⟩⟩⟩⟩⟩⟩⟩⟩⟩⟩⟩⟩⟩⟩⟩
theorem lw_p16 : lw_okq (⟨"DrawerSlips$Archive", "remove", "(LDrawerSlips$Slip;)V"⟩, 14) := ⟨⟨by decide +kernel, by decide +kernel⟩, List.mem_of_getElem? (i := 20) (by decide +kernel), List.mem_of_getElem? (i := 333) (by decide +kernel), List.mem_of_getElem? (i := 334) (by decide +kernel)⟩
theorem lw_p17 : lw_okq (⟨"DrawerSlips$Archive", "age", "(LDrawerSlips$Slip;)I"⟩, 14) := ⟨⟨by decide +kernel, by decide +kernel⟩, List.mem_of_getElem? (i := 20) (by decide +kernel), List.mem_of_getElem? (i := 337) (by decide +kernel), List.mem_of_getElem? (i := 338) (by decide +kernel)⟩
theorem lw_p18 : lw_okq (⟨"DrawerSlips", "serveSlips", "(I)I"⟩, 7) := ⟨⟨by decide +kernel, by decide +kernel⟩, List.mem_of_getElem? (i := 12) (by decide +kernel), List.mem_of_getElem? (i := 345) (by decide +kernel), List.mem_of_getElem? (i := 346) (by decide +kernel)⟩
theorem lw_p19 : lw_okq (⟨"DrawerSlips$Archive", "slipsThatWait", "()I"⟩, 14) := ⟨⟨by decide +kernel, by decide +kernel⟩, List.mem_of_getElem? (i := 20) (by decide +kernel), List.mem_of_getElem? (i := 349) (by decide +kernel), List.mem_of_getElem? (i := 350) (by decide +kernel)⟩
theorem lw_p20 : lw_okq (⟨"DrawerSlips$Archive", "serveNext", "()V"⟩, 14) := ⟨⟨by decide +kernel, by decide +kernel⟩, List.mem_of_getElem? (i := 20) (by decide +kernel), List.mem_of_getElem? (i := 355) (by decide +kernel), List.mem_of_getElem? (i := 356) (by decide +kernel)⟩
theorem lw_p21 : lw_okq (⟨"DrawerSlips$Archive", "reason", "()I"⟩, 14) := ⟨⟨by decide +kernel, by decide +kernel⟩, List.mem_of_getElem? (i := 20) (by decide +kernel), List.mem_of_getElem? (i := 359) (by decide +kernel), List.mem_of_getElem? (i := 360) (by decide +kernel)⟩
theorem lw_p22 : lw_okq (⟨"DrawerSlips$Archive", "leastFrom", "(II)LDrawerSlips$Slip;"⟩, 14) := ⟨⟨by decide +kernel, by decide +kernel⟩, List.mem_of_getElem? (i := 20) (by decide +kernel), List.mem_of_getElem? (i := 363) (by decide +kernel), List.mem_of_getElem? (i := 364) (by decide +kernel)⟩
theorem lw_p23 : lw_okq (⟨"DrawerSlips$Slip", "isAheadOf", "(LDrawerSlips$Slip;)Z"⟩, 8) := ⟨⟨by decide +kernel, by decide +kernel⟩, List.mem_of_getElem? (i := 52) (by decide +kernel), List.mem_of_getElem? (i := 367) (by decide +kernel), List.mem_of_getElem? (i := 368) (by decide +kernel)⟩
theorem lw_p24 : lw_okq (⟨"DrawerSlips$Archive", "newSort", "()I"⟩, 14) := ⟨⟨by decide +kernel, by decide +kernel⟩, List.mem_of_getElem? (i := 20) (by decide +kernel), List.mem_of_getElem? (i := 371) (by decide +kernel), List.mem_of_getElem? (i := 372) (by decide +kernel)⟩
theorem lw_p25 : lw_okq (⟨"DrawerSlips$Archive", "oldest", "(I)LDrawerSlips$Slip;"⟩, 14) := ⟨⟨by decide +kernel, by decide +kernel⟩, List.mem_of_getElem? (i := 20) (by decide +kernel), List.mem_of_getElem? (i := 375) (by decide +kernel), List.mem_of_getElem? (i := 376) (by decide +kernel)⟩
theorem lw_p26 : lw_okq (⟨"DrawerSlips$Archive", "isTooOld", "(LDrawerSlips$Slip;)Z"⟩, 14) := ⟨⟨by decide +kernel, by decide +kernel⟩, List.mem_of_getElem? (i := 20) (by decide +kernel), List.mem_of_getElem? (i := 379) (by decide +kernel), List.mem_of_getElem? (i := 380) (by decide +kernel)⟩
theorem lw_p27 : lw_okq (⟨"DrawerSlips$Archive", "chosen", "(I)LDrawerSlips$Slip;"⟩, 14) := ⟨⟨by decide +kernel, by decide +kernel⟩, List.mem_of_getElem? (i := 20) (by decide +kernel), List.mem_of_getElem? (i := 383) (by decide +kernel), List.mem_of_getElem? (i := 384) (by decide +kernel)⟩
theorem lw_p28 : lw_okq (⟨"DrawerSlips$Archive", "beginBatch", "(I)V"⟩, 14) := ⟨⟨by decide +kernel, by decide +kernel⟩, List.mem_of_getElem? (i := 20) (by decide +kernel), List.mem_of_getElem? (i := 387) (by decide +kernel), List.mem_of_getElem? (i := 388) (by decide +kernel)⟩
theorem lw_p29 : lw_okq (⟨"DrawerSlips$Archive", "minutesFor", "(LDrawerSlips$Slip;)I"⟩, 14) := ⟨⟨by decide +kernel, by decide +kernel⟩, List.mem_of_getElem? (i := 20) (by decide +kernel), List.mem_of_getElem? (i := 391) (by decide +kernel), List.mem_of_getElem? (i := 392) (by decide +kernel)⟩
theorem lw_p30 : lw_okq (⟨"DrawerSlips$Archive", "drawersTo", "(LDrawerSlips$Slip;)I"⟩, 14) := ⟨⟨by decide +kernel, by decide +kernel⟩, List.mem_of_getElem? (i := 20) (by decide +kernel), List.mem_of_getElem? (i := 395) (by decide +kernel), List.mem_of_getElem? (i := 396) (by decide +kernel)⟩
theorem lw_p31 : lw_okq (⟨"DrawerSlips$Lately", "append", "(III)V"⟩, 4) := ⟨⟨by decide +kernel, by decide +kernel⟩, List.mem_of_getElem? (i := 28) (by decide +kernel), List.mem_of_getElem? (i := 406) (by decide +kernel), List.mem_of_getElem? (i := 407) (by decide +kernel)⟩
def lw_privs_2 : List (MethodName × Nat) := [(⟨"DrawerSlips$Archive", "remove", "(LDrawerSlips$Slip;)V"⟩, 14), (⟨"DrawerSlips$Archive", "age", "(LDrawerSlips$Slip;)I"⟩, 14), (⟨"DrawerSlips", "serveSlips", "(I)I"⟩, 7), (⟨"DrawerSlips$Archive", "slipsThatWait", "()I"⟩, 14), (⟨"DrawerSlips$Archive", "serveNext", "()V"⟩, 14), (⟨"DrawerSlips$Archive", "reason", "()I"⟩, 14), (⟨"DrawerSlips$Archive", "leastFrom", "(II)LDrawerSlips$Slip;"⟩, 14), (⟨"DrawerSlips$Slip", "isAheadOf", "(LDrawerSlips$Slip;)Z"⟩, 8), (⟨"DrawerSlips$Archive", "newSort", "()I"⟩, 14), (⟨"DrawerSlips$Archive", "oldest", "(I)LDrawerSlips$Slip;"⟩, 14), (⟨"DrawerSlips$Archive", "isTooOld", "(LDrawerSlips$Slip;)Z"⟩, 14), (⟨"DrawerSlips$Archive", "chosen", "(I)LDrawerSlips$Slip;"⟩, 14), (⟨"DrawerSlips$Archive", "beginBatch", "(I)V"⟩, 14), (⟨"DrawerSlips$Archive", "minutesFor", "(LDrawerSlips$Slip;)I"⟩, 14), (⟨"DrawerSlips$Archive", "drawersTo", "(LDrawerSlips$Slip;)I"⟩, 14), (⟨"DrawerSlips$Lately", "append", "(III)V"⟩, 4)]
theorem lw_r2 : ∀ q ∈ lw_privs_2, lw_okq q := List.forall_mem_cons.mpr ⟨lw_p16, List.forall_mem_cons.mpr ⟨lw_p17, List.forall_mem_cons.mpr ⟨lw_p18, List.forall_mem_cons.mpr ⟨lw_p19, List.forall_mem_cons.mpr ⟨lw_p20, List.forall_mem_cons.mpr ⟨lw_p21, List.forall_mem_cons.mpr ⟨lw_p22, List.forall_mem_cons.mpr ⟨lw_p23, List.forall_mem_cons.mpr ⟨lw_p24, List.forall_mem_cons.mpr ⟨lw_p25, List.forall_mem_cons.mpr ⟨lw_p26, List.forall_mem_cons.mpr ⟨lw_p27, List.forall_mem_cons.mpr ⟨lw_p28, List.forall_mem_cons.mpr ⟨lw_p29, List.forall_mem_cons.mpr ⟨lw_p30, List.forall_mem_cons.mpr ⟨lw_p31, fun _ h => absurd h List.not_mem_nil⟩⟩⟩⟩⟩⟩⟩⟩⟩⟩⟩⟩⟩⟩⟩⟩
theorem lw_p32 : lw_okq (⟨"DrawerSlips$Archive", "stand", "(I)I"⟩, 14) := ⟨⟨by decide +kernel, by decide +kernel⟩, List.mem_of_getElem? (i := 20) (by decide +kernel), List.mem_of_getElem? (i := 416) (by decide +kernel), List.mem_of_getElem? (i := 417) (by decide +kernel)⟩
theorem lw_p33 : lw_okq (⟨"DrawerSlips$Archive", "ranked", "(II)LDrawerSlips$Slip;"⟩, 14) := ⟨⟨by decide +kernel, by decide +kernel⟩, List.mem_of_getElem? (i := 20) (by decide +kernel), List.mem_of_getElem? (i := 433) (by decide +kernel), List.mem_of_getElem? (i := 434) (by decide +kernel)⟩
theorem lw_p34 : lw_okq (⟨"DrawerSlips$Archive", "slipsAheadOf", "(LDrawerSlips$Slip;)I"⟩, 14) := ⟨⟨by decide +kernel, by decide +kernel⟩, List.mem_of_getElem? (i := 20) (by decide +kernel), List.mem_of_getElem? (i := 437) (by decide +kernel), List.mem_of_getElem? (i := 438) (by decide +kernel)⟩
theorem lw_p35 : lw_okq (⟨"DrawerSlips$Lately", "has", "(I)Z"⟩, 4) := ⟨⟨by decide +kernel, by decide +kernel⟩, List.mem_of_getElem? (i := 28) (by decide +kernel), List.mem_of_getElem? (i := 445) (by decide +kernel), List.mem_of_getElem? (i := 446) (by decide +kernel)⟩
theorem lw_p36 : lw_okq (⟨"DrawerSlips$Lately", "numberOf", "(I)I"⟩, 4) := ⟨⟨by decide +kernel, by decide +kernel⟩, List.mem_of_getElem? (i := 28) (by decide +kernel), List.mem_of_getElem? (i := 449) (by decide +kernel), List.mem_of_getElem? (i := 450) (by decide +kernel)⟩
theorem lw_p37 : lw_okq (⟨"DrawerSlips$Lately", "place", "(I)I"⟩, 4) := ⟨⟨by decide +kernel, by decide +kernel⟩, List.mem_of_getElem? (i := 28) (by decide +kernel), List.mem_of_getElem? (i := 453) (by decide +kernel), List.mem_of_getElem? (i := 454) (by decide +kernel)⟩
theorem lw_p38 : lw_okq (⟨"DrawerSlips$Lately", "waitOf", "(I)I"⟩, 4) := ⟨⟨by decide +kernel, by decide +kernel⟩, List.mem_of_getElem? (i := 28) (by decide +kernel), List.mem_of_getElem? (i := 458) (by decide +kernel), List.mem_of_getElem? (i := 459) (by decide +kernel)⟩
theorem lw_p39 : lw_okq (⟨"DrawerSlips$Lately", "sortOf", "(I)I"⟩, 4) := ⟨⟨by decide +kernel, by decide +kernel⟩, List.mem_of_getElem? (i := 28) (by decide +kernel), List.mem_of_getElem? (i := 462) (by decide +kernel), List.mem_of_getElem? (i := 463) (by decide +kernel)⟩
theorem lw_p40 : lw_okq (⟨"DrawerSlips$Archive", "amount", "(I)I"⟩, 14) := ⟨⟨by decide +kernel, by decide +kernel⟩, List.mem_of_getElem? (i := 20) (by decide +kernel), List.mem_of_getElem? (i := 470) (by decide +kernel), List.mem_of_getElem? (i := 471) (by decide +kernel)⟩
theorem lw_p41 : lw_okq (⟨"DrawerSlips$Pad", "append", "(J)I"⟩, 2) := ⟨⟨by decide +kernel, by decide +kernel⟩, List.mem_of_getElem? (i := 178) (by decide +kernel), List.mem_of_getElem? (i := 499) (by decide +kernel), List.mem_of_getElem? (i := 500) (by decide +kernel)⟩
theorem lw_p42 : lw_okq (⟨"DrawerSlips$Pad", "add", "(I)V"⟩, 2) := ⟨⟨by decide +kernel, by decide +kernel⟩, List.mem_of_getElem? (i := 178) (by decide +kernel), List.mem_of_getElem? (i := 506) (by decide +kernel), List.mem_of_getElem? (i := 507) (by decide +kernel)⟩
theorem lw_p43 : lw_okq (⟨"DrawerSlips$Pad", "empty", "()I"⟩, 2) := ⟨⟨by decide +kernel, by decide +kernel⟩, List.mem_of_getElem? (i := 178) (by decide +kernel), List.mem_of_getElem? (i := 515) (by decide +kernel), List.mem_of_getElem? (i := 516) (by decide +kernel)⟩
theorem lw_p44 : lw_okq (⟨"DrawerSlips$Reader", "findFault", "()I"⟩, 5) := ⟨⟨by decide +kernel, by decide +kernel⟩, List.mem_of_getElem? (i := 193) (by decide +kernel), List.mem_of_getElem? (i := 523) (by decide +kernel), List.mem_of_getElem? (i := 524) (by decide +kernel)⟩
theorem lw_p45 : lw_okq (⟨"DrawerSlips$Reader", "begin", "()V"⟩, 5) := ⟨⟨by decide +kernel, by decide +kernel⟩, List.mem_of_getElem? (i := 193) (by decide +kernel), List.mem_of_getElem? (i := 527) (by decide +kernel), List.mem_of_getElem? (i := 528) (by decide +kernel)⟩
theorem lw_p46 : lw_okq (⟨"DrawerSlips$Reader", "readOrder", "()Z"⟩, 5) := ⟨⟨by decide +kernel, by decide +kernel⟩, List.mem_of_getElem? (i := 193) (by decide +kernel), List.mem_of_getElem? (i := 531) (by decide +kernel), List.mem_of_getElem? (i := 532) (by decide +kernel)⟩
theorem lw_p47 : lw_okq (⟨"DrawerSlips$Pad", "signAt", "(I)I"⟩, 2) := ⟨⟨by decide +kernel, by decide +kernel⟩, List.mem_of_getElem? (i := 178) (by decide +kernel), List.mem_of_getElem? (i := 535) (by decide +kernel), List.mem_of_getElem? (i := 536) (by decide +kernel)⟩
def lw_privs_3 : List (MethodName × Nat) := [(⟨"DrawerSlips$Archive", "stand", "(I)I"⟩, 14), (⟨"DrawerSlips$Archive", "ranked", "(II)LDrawerSlips$Slip;"⟩, 14), (⟨"DrawerSlips$Archive", "slipsAheadOf", "(LDrawerSlips$Slip;)I"⟩, 14), (⟨"DrawerSlips$Lately", "has", "(I)Z"⟩, 4), (⟨"DrawerSlips$Lately", "numberOf", "(I)I"⟩, 4), (⟨"DrawerSlips$Lately", "place", "(I)I"⟩, 4), (⟨"DrawerSlips$Lately", "waitOf", "(I)I"⟩, 4), (⟨"DrawerSlips$Lately", "sortOf", "(I)I"⟩, 4), (⟨"DrawerSlips$Archive", "amount", "(I)I"⟩, 14), (⟨"DrawerSlips$Pad", "append", "(J)I"⟩, 2), (⟨"DrawerSlips$Pad", "add", "(I)V"⟩, 2), (⟨"DrawerSlips$Pad", "empty", "()I"⟩, 2), (⟨"DrawerSlips$Reader", "findFault", "()I"⟩, 5), (⟨"DrawerSlips$Reader", "begin", "()V"⟩, 5), (⟨"DrawerSlips$Reader", "readOrder", "()Z"⟩, 5), (⟨"DrawerSlips$Pad", "signAt", "(I)I"⟩, 2)]
theorem lw_r3 : ∀ q ∈ lw_privs_3, lw_okq q := List.forall_mem_cons.mpr ⟨lw_p32, List.forall_mem_cons.mpr ⟨lw_p33, List.forall_mem_cons.mpr ⟨lw_p34, List.forall_mem_cons.mpr ⟨lw_p35, List.forall_mem_cons.mpr ⟨lw_p36, List.forall_mem_cons.mpr ⟨lw_p37, List.forall_mem_cons.mpr ⟨lw_p38, List.forall_mem_cons.mpr ⟨lw_p39, List.forall_mem_cons.mpr ⟨lw_p40, List.forall_mem_cons.mpr ⟨lw_p41, List.forall_mem_cons.mpr ⟨lw_p42, List.forall_mem_cons.mpr ⟨lw_p43, List.forall_mem_cons.mpr ⟨lw_p44, List.forall_mem_cons.mpr ⟨lw_p45, List.forall_mem_cons.mpr ⟨lw_p46, List.forall_mem_cons.mpr ⟨lw_p47, fun _ h => absurd h List.not_mem_nil⟩⟩⟩⟩⟩⟩⟩⟩⟩⟩⟩⟩⟩⟩⟩⟩
theorem lw_p48 : lw_okq (⟨"DrawerSlips$Reader", "readNumber", "()Z"⟩, 5) := ⟨⟨by decide +kernel, by decide +kernel⟩, List.mem_of_getElem? (i := 193) (by decide +kernel), List.mem_of_getElem? (i := 540) (by decide +kernel), List.mem_of_getElem? (i := 541) (by decide +kernel)⟩
theorem lw_p49 : lw_okq (⟨"DrawerSlips$Reader", "isDigitNext", "()Z"⟩, 5) := ⟨⟨by decide +kernel, by decide +kernel⟩, List.mem_of_getElem? (i := 193) (by decide +kernel), List.mem_of_getElem? (i := 544) (by decide +kernel), List.mem_of_getElem? (i := 545) (by decide +kernel)⟩
theorem lw_p50 : lw_okq (⟨"DrawerSlips$Reader", "takeDigit", "()I"⟩, 5) := ⟨⟨by decide +kernel, by decide +kernel⟩, List.mem_of_getElem? (i := 193) (by decide +kernel), List.mem_of_getElem? (i := 548) (by decide +kernel), List.mem_of_getElem? (i := 549) (by decide +kernel)⟩
theorem lw_p51 : lw_okq (⟨"DrawerSlips$Reader", "readMore", "()Z"⟩, 5) := ⟨⟨by decide +kernel, by decide +kernel⟩, List.mem_of_getElem? (i := 193) (by decide +kernel), List.mem_of_getElem? (i := 552) (by decide +kernel), List.mem_of_getElem? (i := 553) (by decide +kernel)⟩
theorem lw_p52 : lw_okq (⟨"DrawerSlips$Reader", "skipSemicolon", "()V"⟩, 5) := ⟨⟨by decide +kernel, by decide +kernel⟩, List.mem_of_getElem? (i := 193) (by decide +kernel), List.mem_of_getElem? (i := 556) (by decide +kernel), List.mem_of_getElem? (i := 557) (by decide +kernel)⟩
theorem lw_p53 : lw_okq (⟨"DrawerSlips", "obey", "()I"⟩, 7) := ⟨⟨by decide +kernel, by decide +kernel⟩, List.mem_of_getElem? (i := 12) (by decide +kernel), List.mem_of_getElem? (i := 566) (by decide +kernel), List.mem_of_getElem? (i := 567) (by decide +kernel)⟩
theorem lw_p54 : lw_okq (⟨"DrawerSlips$History", "takeBack", "(LDrawerSlips$Archive;)V"⟩, 3) := ⟨⟨by decide +kernel, by decide +kernel⟩, List.mem_of_getElem? (i := 142) (by decide +kernel), List.mem_of_getElem? (i := 575) (by decide +kernel), List.mem_of_getElem? (i := 576) (by decide +kernel)⟩
theorem lw_p55 : lw_okq (⟨"DrawerSlips", "slotAt", "(I)LDrawerSlips$Slot;"⟩, 7) := ⟨⟨by decide +kernel, by decide +kernel⟩, List.mem_of_getElem? (i := 12) (by decide +kernel), List.mem_of_getElem? (i := 583) (by decide +kernel), List.mem_of_getElem? (i := 584) (by decide +kernel)⟩
theorem lw_p56 : lw_okq (⟨"DrawerSlipsModel", "remember", "()V"⟩, 13) := ⟨⟨by decide +kernel, by decide +kernel⟩, List.mem_of_getElem? (i := 591) (by decide +kernel), List.mem_of_getElem? (i := 653) (by decide +kernel), List.mem_of_getElem? (i := 654) (by decide +kernel)⟩
theorem lw_p57 : lw_okq (⟨"DrawerSlipsModel", "record", "(I)I"⟩, 13) := ⟨⟨by decide +kernel, by decide +kernel⟩, List.mem_of_getElem? (i := 591) (by decide +kernel), List.mem_of_getElem? (i := 657) (by decide +kernel), List.mem_of_getElem? (i := 658) (by decide +kernel)⟩
theorem lw_p58 : lw_okq (⟨"DrawerSlipsModel", "comes", "(III)I"⟩, 13) := ⟨⟨by decide +kernel, by decide +kernel⟩, List.mem_of_getElem? (i := 591) (by decide +kernel), List.mem_of_getElem? (i := 675) (by decide +kernel), List.mem_of_getElem? (i := 676) (by decide +kernel)⟩
theorem lw_p59 : lw_okq (⟨"DrawerSlipsModel", "partner", "(III)I"⟩, 13) := ⟨⟨by decide +kernel, by decide +kernel⟩, List.mem_of_getElem? (i := 591) (by decide +kernel), List.mem_of_getElem? (i := 682) (by decide +kernel), List.mem_of_getElem? (i := 683) (by decide +kernel)⟩
theorem lw_p60 : lw_okq (⟨"DrawerSlipsModel", "its", "(II)I"⟩, 13) := ⟨⟨by decide +kernel, by decide +kernel⟩, List.mem_of_getElem? (i := 591) (by decide +kernel), List.mem_of_getElem? (i := 686) (by decide +kernel), List.mem_of_getElem? (i := 687) (by decide +kernel)⟩
theorem lw_p61 : lw_okq (⟨"DrawerSlipsModel", "lastOf", "(I)I"⟩, 13) := ⟨⟨by decide +kernel, by decide +kernel⟩, List.mem_of_getElem? (i := 591) (by decide +kernel), List.mem_of_getElem? (i := 690) (by decide +kernel), List.mem_of_getElem? (i := 691) (by decide +kernel)⟩
theorem lw_p62 : lw_okq (⟨"DrawerSlipsModel", "find", "(I)I"⟩, 13) := ⟨⟨by decide +kernel, by decide +kernel⟩, List.mem_of_getElem? (i := 591) (by decide +kernel), List.mem_of_getElem? (i := 698) (by decide +kernel), List.mem_of_getElem? (i := 699) (by decide +kernel)⟩
theorem lw_p63 : lw_okq (⟨"DrawerSlipsModel", "drop", "(I)V"⟩, 13) := ⟨⟨by decide +kernel, by decide +kernel⟩, List.mem_of_getElem? (i := 591) (by decide +kernel), List.mem_of_getElem? (i := 702) (by decide +kernel), List.mem_of_getElem? (i := 703) (by decide +kernel)⟩
def lw_privs_4 : List (MethodName × Nat) := [(⟨"DrawerSlips$Reader", "readNumber", "()Z"⟩, 5), (⟨"DrawerSlips$Reader", "isDigitNext", "()Z"⟩, 5), (⟨"DrawerSlips$Reader", "takeDigit", "()I"⟩, 5), (⟨"DrawerSlips$Reader", "readMore", "()Z"⟩, 5), (⟨"DrawerSlips$Reader", "skipSemicolon", "()V"⟩, 5), (⟨"DrawerSlips", "obey", "()I"⟩, 7), (⟨"DrawerSlips$History", "takeBack", "(LDrawerSlips$Archive;)V"⟩, 3), (⟨"DrawerSlips", "slotAt", "(I)LDrawerSlips$Slot;"⟩, 7), (⟨"DrawerSlipsModel", "remember", "()V"⟩, 13), (⟨"DrawerSlipsModel", "record", "(I)I"⟩, 13), (⟨"DrawerSlipsModel", "comes", "(III)I"⟩, 13), (⟨"DrawerSlipsModel", "partner", "(III)I"⟩, 13), (⟨"DrawerSlipsModel", "its", "(II)I"⟩, 13), (⟨"DrawerSlipsModel", "lastOf", "(I)I"⟩, 13), (⟨"DrawerSlipsModel", "find", "(I)I"⟩, 13), (⟨"DrawerSlipsModel", "drop", "(I)V"⟩, 13)]
theorem lw_r4 : ∀ q ∈ lw_privs_4, lw_okq q := List.forall_mem_cons.mpr ⟨lw_p48, List.forall_mem_cons.mpr ⟨lw_p49, List.forall_mem_cons.mpr ⟨lw_p50, List.forall_mem_cons.mpr ⟨lw_p51, List.forall_mem_cons.mpr ⟨lw_p52, List.forall_mem_cons.mpr ⟨lw_p53, List.forall_mem_cons.mpr ⟨lw_p54, List.forall_mem_cons.mpr ⟨lw_p55, List.forall_mem_cons.mpr ⟨lw_p56, List.forall_mem_cons.mpr ⟨lw_p57, List.forall_mem_cons.mpr ⟨lw_p58, List.forall_mem_cons.mpr ⟨lw_p59, List.forall_mem_cons.mpr ⟨lw_p60, List.forall_mem_cons.mpr ⟨lw_p61, List.forall_mem_cons.mpr ⟨lw_p62, List.forall_mem_cons.mpr ⟨lw_p63, fun _ h => absurd h List.not_mem_nil⟩⟩⟩⟩⟩⟩⟩⟩⟩⟩⟩⟩⟩⟩⟩⟩
theorem lw_p64 : lw_okq (⟨"DrawerSlipsModel", "serves", "(I)I"⟩, 13) := ⟨⟨by decide +kernel, by decide +kernel⟩, List.mem_of_getElem? (i := 591) (by decide +kernel), List.mem_of_getElem? (i := 710) (by decide +kernel), List.mem_of_getElem? (i := 711) (by decide +kernel)⟩
theorem lw_p65 : lw_okq (⟨"DrawerSlipsModel", "layAside", "()V"⟩, 13) := ⟨⟨by decide +kernel, by decide +kernel⟩, List.mem_of_getElem? (i := 591) (by decide +kernel), List.mem_of_getElem? (i := 714) (by decide +kernel), List.mem_of_getElem? (i := 715) (by decide +kernel)⟩
theorem lw_p66 : lw_okq (⟨"DrawerSlipsModel", "serveOne", "()V"⟩, 13) := ⟨⟨by decide +kernel, by decide +kernel⟩, List.mem_of_getElem? (i := 591) (by decide +kernel), List.mem_of_getElem? (i := 718) (by decide +kernel), List.mem_of_getElem? (i := 719) (by decide +kernel)⟩
theorem lw_p67 : lw_okq (⟨"DrawerSlipsModel", "look", "()V"⟩, 13) := ⟨⟨by decide +kernel, by decide +kernel⟩, List.mem_of_getElem? (i := 591) (by decide +kernel), List.mem_of_getElem? (i := 722) (by decide +kernel), List.mem_of_getElem? (i := 723) (by decide +kernel)⟩
theorem lw_p68 : lw_okq (⟨"DrawerSlipsModel", "lowest", "(II)I"⟩, 13) := ⟨⟨by decide +kernel, by decide +kernel⟩, List.mem_of_getElem? (i := 591) (by decide +kernel), List.mem_of_getElem? (i := 726) (by decide +kernel), List.mem_of_getElem? (i := 727) (by decide +kernel)⟩
theorem lw_p69 : lw_okq (⟨"DrawerSlipsModel", "nextSort", "()I"⟩, 13) := ⟨⟨by decide +kernel, by decide +kernel⟩, List.mem_of_getElem? (i := 591) (by decide +kernel), List.mem_of_getElem? (i := 730) (by decide +kernel), List.mem_of_getElem? (i := 731) (by decide +kernel)⟩
theorem lw_p70 : lw_okq (⟨"DrawerSlipsModel", "many", "(I)I"⟩, 13) := ⟨⟨by decide +kernel, by decide +kernel⟩, List.mem_of_getElem? (i := 591) (by decide +kernel), List.mem_of_getElem? (i := 734) (by decide +kernel), List.mem_of_getElem? (i := 735) (by decide +kernel)⟩
theorem lw_p71 : lw_okq (⟨"DrawerSlipsModel", "oldest", "(I)I"⟩, 13) := ⟨⟨by decide +kernel, by decide +kernel⟩, List.mem_of_getElem? (i := 591) (by decide +kernel), List.mem_of_getElem? (i := 738) (by decide +kernel), List.mem_of_getElem? (i := 739) (by decide +kernel)⟩
theorem lw_p72 : lw_okq (⟨"DrawerSlipsModel", "isOld", "(I)Z"⟩, 13) := ⟨⟨by decide +kernel, by decide +kernel⟩, List.mem_of_getElem? (i := 591) (by decide +kernel), List.mem_of_getElem? (i := 742) (by decide +kernel), List.mem_of_getElem? (i := 743) (by decide +kernel)⟩
theorem lw_p73 : lw_okq (⟨"DrawerSlipsModel", "minute", "()I"⟩, 13) := ⟨⟨by decide +kernel, by decide +kernel⟩, List.mem_of_getElem? (i := 591) (by decide +kernel), List.mem_of_getElem? (i := 746) (by decide +kernel), List.mem_of_getElem? (i := 747) (by decide +kernel)⟩
theorem lw_p74 : lw_okq (⟨"DrawerSlipsModel", "note", "(III)V"⟩, 13) := ⟨⟨by decide +kernel, by decide +kernel⟩, List.mem_of_getElem? (i := 591) (by decide +kernel), List.mem_of_getElem? (i := 753) (by decide +kernel), List.mem_of_getElem? (i := 754) (by decide +kernel)⟩
theorem lw_p75 : lw_okq (⟨"DrawerSlipsModel", "putBack", "()V"⟩, 13) := ⟨⟨by decide +kernel, by decide +kernel⟩, List.mem_of_getElem? (i := 591) (by decide +kernel), List.mem_of_getElem? (i := 758) (by decide +kernel), List.mem_of_getElem? (i := 759) (by decide +kernel)⟩
theorem lw_p76 : lw_okq (⟨"DrawerSlipsModel", "waits", "(I)I"⟩, 13) := ⟨⟨by decide +kernel, by decide +kernel⟩, List.mem_of_getElem? (i := 591) (by decide +kernel), List.mem_of_getElem? (i := 766) (by decide +kernel), List.mem_of_getElem? (i := 767) (by decide +kernel)⟩
theorem lw_p77 : lw_okq (⟨"DrawerSlipsModel", "rank", "(I)I"⟩, 13) := ⟨⟨by decide +kernel, by decide +kernel⟩, List.mem_of_getElem? (i := 591) (by decide +kernel), List.mem_of_getElem? (i := 778) (by decide +kernel), List.mem_of_getElem? (i := 779) (by decide +kernel)⟩
theorem lw_p78 : lw_okq (⟨"DrawerSlipsModel", "isWell", "()Z"⟩, 13) := ⟨⟨by decide +kernel, by decide +kernel⟩, List.mem_of_getElem? (i := 591) (by decide +kernel), List.mem_of_getElem? (i := 819) (by decide +kernel), List.mem_of_getElem? (i := 820) (by decide +kernel)⟩
theorem lw_p79 : lw_okq (⟨"DrawerSlipsModel", "order", "(Z)I"⟩, 13) := ⟨⟨by decide +kernel, by decide +kernel⟩, List.mem_of_getElem? (i := 591) (by decide +kernel), List.mem_of_getElem? (i := 823) (by decide +kernel), List.mem_of_getElem? (i := 824) (by decide +kernel)⟩
def lw_privs_5 : List (MethodName × Nat) := [(⟨"DrawerSlipsModel", "serves", "(I)I"⟩, 13), (⟨"DrawerSlipsModel", "layAside", "()V"⟩, 13), (⟨"DrawerSlipsModel", "serveOne", "()V"⟩, 13), (⟨"DrawerSlipsModel", "look", "()V"⟩, 13), (⟨"DrawerSlipsModel", "lowest", "(II)I"⟩, 13), (⟨"DrawerSlipsModel", "nextSort", "()I"⟩, 13), (⟨"DrawerSlipsModel", "many", "(I)I"⟩, 13), (⟨"DrawerSlipsModel", "oldest", "(I)I"⟩, 13), (⟨"DrawerSlipsModel", "isOld", "(I)Z"⟩, 13), (⟨"DrawerSlipsModel", "minute", "()I"⟩, 13), (⟨"DrawerSlipsModel", "note", "(III)V"⟩, 13), (⟨"DrawerSlipsModel", "putBack", "()V"⟩, 13), (⟨"DrawerSlipsModel", "waits", "(I)I"⟩, 13), (⟨"DrawerSlipsModel", "rank", "(I)I"⟩, 13), (⟨"DrawerSlipsModel", "isWell", "()Z"⟩, 13), (⟨"DrawerSlipsModel", "order", "(Z)I"⟩, 13)]
theorem lw_r5 : ∀ q ∈ lw_privs_5, lw_okq q := List.forall_mem_cons.mpr ⟨lw_p64, List.forall_mem_cons.mpr ⟨lw_p65, List.forall_mem_cons.mpr ⟨lw_p66, List.forall_mem_cons.mpr ⟨lw_p67, List.forall_mem_cons.mpr ⟨lw_p68, List.forall_mem_cons.mpr ⟨lw_p69, List.forall_mem_cons.mpr ⟨lw_p70, List.forall_mem_cons.mpr ⟨lw_p71, List.forall_mem_cons.mpr ⟨lw_p72, List.forall_mem_cons.mpr ⟨lw_p73, List.forall_mem_cons.mpr ⟨lw_p74, List.forall_mem_cons.mpr ⟨lw_p75, List.forall_mem_cons.mpr ⟨lw_p76, List.forall_mem_cons.mpr ⟨lw_p77, List.forall_mem_cons.mpr ⟨lw_p78, List.forall_mem_cons.mpr ⟨lw_p79, fun _ h => absurd h List.not_mem_nil⟩⟩⟩⟩⟩⟩⟩⟩⟩⟩⟩⟩⟩⟩⟩⟩
theorem lw_p80 : lw_okq (⟨"DrawerSlipsModel", "sees", "(II)Z"⟩, 13) := ⟨⟨by decide +kernel, by decide +kernel⟩, List.mem_of_getElem? (i := 591) (by decide +kernel), List.mem_of_getElem? (i := 827) (by decide +kernel), List.mem_of_getElem? (i := 828) (by decide +kernel)⟩
theorem lw_p81 : lw_okq (⟨"DrawerSlipsModel", "number", "()I"⟩, 13) := ⟨⟨by decide +kernel, by decide +kernel⟩, List.mem_of_getElem? (i := 591) (by decide +kernel), List.mem_of_getElem? (i := 831) (by decide +kernel), List.mem_of_getElem? (i := 832) (by decide +kernel)⟩
def lw_privs_6 : List (MethodName × Nat) := [(⟨"DrawerSlipsModel", "sees", "(II)Z"⟩, 13), (⟨"DrawerSlipsModel", "number", "()I"⟩, 13)]
theorem lw_r6 : ∀ q ∈ lw_privs_6, lw_okq q := List.forall_mem_cons.mpr ⟨lw_p80, List.forall_mem_cons.mpr ⟨lw_p81, fun _ h => absurd h List.not_mem_nil⟩⟩
def lw_privs : List (MethodName × Nat) := lw_privs_1 ++ (lw_privs_2 ++ (lw_privs_3 ++ (lw_privs_4 ++ (lw_privs_5 ++ (lw_privs_6)))))
def lw_tbl : List Cond := k2_sels lw_privs ++ tables_1
theorem lw_privs_ok : ∀ q ∈ lw_privs, lw_okq q := by
  show ∀ q ∈ lw_privs_1 ++ (lw_privs_2 ++ (lw_privs_3 ++ (lw_privs_4 ++ (lw_privs_5 ++ (lw_privs_6))))), lw_okq q
  exact List.forall_mem_append.mpr ⟨lw_r1, List.forall_mem_append.mpr ⟨lw_r2, List.forall_mem_append.mpr ⟨lw_r3, List.forall_mem_append.mpr ⟨lw_r4, List.forall_mem_append.mpr ⟨lw_r5, lw_r6⟩⟩⟩⟩⟩
-- ===== end of PART A; then your names; then what follows =====
end
section
/-! ===== BEGIN words of one list among another's, by their places ===== -/
theorem goodIn_r {big : List Cond} (ws : List Cond) (ps : List Nat) (hp : ws = ps.filterMap (fun i => big[i]?)) (h : ws.all goodWord = true) : GoodIn big ws := by
  intro w hw
  have h1 := List.all_eq_true.mp h w hw
  rw [hp] at hw
  obtain ⟨i, -, hi⟩ := List.mem_filterMap.mp hw
  have hm : w ∈ big := by first | exact List.mem_of_getElem? hi | exact List.getElem?_mem hi
  exact ⟨hm, good_of_word h1⟩
theorem goodIn_app {big a b : List Cond} (ha : GoodIn big a) (hb : GoodIn big b) : GoodIn big (a ++ b) := fun w h => (List.mem_append.mp h).elim (ha w) (hb w)
theorem goodIn_ca {big a b : List Cond} {c : Cond} (ha : GoodIn big (c :: a)) (hb : GoodIn big b) : GoodIn big (c :: (a ++ b)) := fun w h => (List.mem_cons.mp h).elim (fun e => ha w (List.mem_cons.mpr (Or.inl e))) (fun h => (List.mem_append.mp h).elim (fun h => ha w (List.mem_cons.mpr (Or.inr h))) (hb w))
theorem goodIn_sub {big ws : List Cond} (hm : ∀ w ∈ ws, w ∈ big) (h : ws.all goodWord = true) : GoodIn big ws := fun w hw => ⟨hm w hw, good_of_word (List.all_eq_true.mp h w hw)⟩
/-! ===== END ===== -/

/-! ===== BEGIN printed: names, fields, word lists, decode rows ===== -/
def RX0 : String := "DrawerSlips$Archive"
def TX0 : u_T := fun k => match k with
  | 0 => ("DrawerSlips$Archive", "settings", "[I", true)
  | 1 => ("DrawerSlips$Archive", "places", "LDrawerSlips$Slip;", true)
  | 2 => ("DrawerSlips$Archive", "lately", "LDrawerSlips$Lately;", true)
  | 3 => ("DrawerSlips$Archive", "readsWaiting", "I", false)
  | 4 => ("DrawerSlips$Archive", "writesWaiting", "I", false)
  | 5 => ("DrawerSlips$Archive", "nextNumber", "I", false)
  | 6 => ("DrawerSlips$Archive", "now", "I", false)
  | 7 => ("DrawerSlips$Archive", "arm", "I", false)
  | 8 => ("DrawerSlips$Archive", "longestWait", "I", false)
  | 9 => ("DrawerSlips$Archive", "drawersGone", "I", false)
  | 10 => ("DrawerSlips$Archive", "batches", "I", false)
  | 11 => ("DrawerSlips$Archive", "batchSort", "I", false)
  | 12 => ("DrawerSlips$Archive", "batchSlips", "I", false)
  | _ => ("DrawerSlips$Archive", "readsAhead", "I", false)
def tyX0 : Nat → FieldType := fun k => match k with
  | 0 => .array .int
  | 1 => .object "DrawerSlips$Slip"
  | 2 => .object "DrawerSlips$Lately"
  | 3 => .int
  | 4 => .int
  | 5 => .int
  | 6 => .int
  | 7 => .int
  | 8 => .int
  | 9 => .int
  | 10 => .int
  | 11 => .int
  | 12 => .int
  | _ => .int
abbrev wsX00 : List Cond := u_ws RX0 TX0 14
theorem nmX0 : ∀ a, a < 14 → ∀ b, b < 14 → a ≠ b → (TX0 a).2.1 ≠ (TX0 b).2.1 := by decide +kernel
theorem tyX0_ok : ∀ k, k < 14 → parseFieldDescriptor (TX0 k).2.2.1 = some (tyX0 k) := by decide +kernel
abbrev cX0_init : ByteArray := prog_2_method_1_code
def yX0_init : MethodName := ⟨RX0, "<init>", "()V"⟩
abbrev cX0_copyFrom : ByteArray := prog_2_method_2_code
def yX0_copyFrom : MethodName := ⟨RX0, "copyFrom", "(LDrawerSlips$Archive;)V"⟩
abbrev cX0_adjust : ByteArray := prog_2_method_3_code
def yX0_adjust : MethodName := ⟨RX0, "adjust", "(II)I"⟩
abbrev cX0_accept : ByteArray := prog_2_method_4_code
def yX0_accept : MethodName := ⟨RX0, "accept", "(III)I"⟩
abbrev cX0_tearUp : ByteArray := prog_2_method_5_code
def yX0_tearUp : MethodName := ⟨RX0, "tearUp", "(I)I"⟩
abbrev cX0_stand : ByteArray := prog_2_method_6_code
def yX0_stand : MethodName := ⟨RX0, "stand", "(I)I"⟩
abbrev cX0_remove : ByteArray := prog_2_method_7_code
def yX0_remove : MethodName := ⟨RX0, "remove", "(LDrawerSlips$Slip;)V"⟩
abbrev cX0_countWaiting : ByteArray := prog_2_method_8_code
def yX0_countWaiting : MethodName := ⟨RX0, "countWaiting", "(II)V"⟩
abbrev cX0_slipsThatWait : ByteArray := prog_2_method_9_code
def yX0_slipsThatWait : MethodName := ⟨RX0, "slipsThatWait", "()I"⟩
abbrev cX0_find : ByteArray := prog_2_method_10_code
def yX0_find : MethodName := ⟨RX0, "find", "(I)LDrawerSlips$Slip;"⟩
abbrev cX0_freePlace : ByteArray := prog_2_method_11_code
def yX0_freePlace : MethodName := ⟨RX0, "freePlace", "()LDrawerSlips$Slip;"⟩
abbrev cX0_hostFor : ByteArray := prog_2_method_12_code
def yX0_hostFor : MethodName := ⟨RX0, "hostFor", "(III)LDrawerSlips$Slip;"⟩
abbrev cX0_ranked : ByteArray := prog_2_method_13_code
def yX0_ranked : MethodName := ⟨RX0, "ranked", "(II)LDrawerSlips$Slip;"⟩
abbrev cX0_slipsAheadOf : ByteArray := prog_2_method_14_code
def yX0_slipsAheadOf : MethodName := ⟨RX0, "slipsAheadOf", "(LDrawerSlips$Slip;)I"⟩
abbrev cX0_age : ByteArray := prog_2_method_15_code
def yX0_age : MethodName := ⟨RX0, "age", "(LDrawerSlips$Slip;)I"⟩
abbrev cX0_isTooOld : ByteArray := prog_2_method_16_code
def yX0_isTooOld : MethodName := ⟨RX0, "isTooOld", "(LDrawerSlips$Slip;)Z"⟩
abbrev cX0_amount : ByteArray := prog_2_method_17_code
def yX0_amount : MethodName := ⟨RX0, "amount", "(I)I"⟩
abbrev cX0_reason : ByteArray := prog_2_method_18_code
def yX0_reason : MethodName := ⟨RX0, "reason", "()I"⟩
abbrev cX0_chosen : ByteArray := prog_2_method_19_code
def yX0_chosen : MethodName := ⟨RX0, "chosen", "(I)LDrawerSlips$Slip;"⟩
abbrev cX0_newSort : ByteArray := prog_2_method_20_code
def yX0_newSort : MethodName := ⟨RX0, "newSort", "()I"⟩
abbrev cX0_oldest : ByteArray := prog_2_method_21_code
def yX0_oldest : MethodName := ⟨RX0, "oldest", "(I)LDrawerSlips$Slip;"⟩
abbrev cX0_leastFrom : ByteArray := prog_2_method_22_code
def yX0_leastFrom : MethodName := ⟨RX0, "leastFrom", "(II)LDrawerSlips$Slip;"⟩
abbrev cX0_drawersTo : ByteArray := prog_2_method_23_code
def yX0_drawersTo : MethodName := ⟨RX0, "drawersTo", "(LDrawerSlips$Slip;)I"⟩
abbrev cX0_minutesFor : ByteArray := prog_2_method_24_code
def yX0_minutesFor : MethodName := ⟨RX0, "minutesFor", "(LDrawerSlips$Slip;)I"⟩
abbrev cX0_serveNext : ByteArray := prog_2_method_25_code
def yX0_serveNext : MethodName := ⟨RX0, "serveNext", "()V"⟩
abbrev cX0_beginBatch : ByteArray := prog_2_method_26_code
def yX0_beginBatch : MethodName := ⟨RX0, "beginBatch", "(I)V"⟩
def RX1 : String := "DrawerSlips$History"
def TX1 : u_T := fun k => match k with
  | 0 => ("DrawerSlips$History", "states", "[LDrawerSlips$Archive;", true)
  | 1 => ("DrawerSlips$History", "place", "I", false)
  | _ => ("DrawerSlips$History", "kept", "I", false)
def tyX1 : Nat → FieldType := fun k => match k with
  | 0 => .array (.object "DrawerSlips$Archive")
  | 1 => .int
  | _ => .int
abbrev wsX10 : List Cond := u_ws RX1 TX1 3
theorem nmX1 : ∀ a, a < 3 → ∀ b, b < 3 → a ≠ b → (TX1 a).2.1 ≠ (TX1 b).2.1 := by decide +kernel
theorem tyX1_ok : ∀ k, k < 3 → parseFieldDescriptor (TX1 k).2.2.1 = some (tyX1 k) := by decide +kernel
abbrev cX1_init : ByteArray := prog_3_method_1_code
def yX1_init : MethodName := ⟨RX1, "<init>", "()V"⟩
abbrev cX1_stateAt : ByteArray := prog_3_method_2_code
def yX1_stateAt : MethodName := ⟨RX1, "stateAt", "(I)LDrawerSlips$Archive;"⟩
abbrev cX1_prepare : ByteArray := prog_3_method_3_code
def yX1_prepare : MethodName := ⟨RX1, "prepare", "(LDrawerSlips$Archive;)V"⟩
abbrev cX1_keep : ByteArray := prog_3_method_4_code
def yX1_keep : MethodName := ⟨RX1, "keep", "()V"⟩
abbrev cX1_takeBack : ByteArray := prog_3_method_5_code
def yX1_takeBack : MethodName := ⟨RX1, "takeBack", "(LDrawerSlips$Archive;)V"⟩
def RX2 : String := "DrawerSlips$Lately"
def TX2 : u_T := fun k => match k with
  | 0 => ("DrawerSlips$Lately", "numbers", "[I", true)
  | 1 => ("DrawerSlips$Lately", "waits", "[I", true)
  | 2 => ("DrawerSlips$Lately", "sorts", "[I", true)
  | _ => ("DrawerSlips$Lately", "served", "I", false)
def tyX2 : Nat → FieldType := fun k => match k with
  | 0 => .array .int
  | 1 => .array .int
  | 2 => .array .int
  | _ => .int
abbrev wsX20 : List Cond := u_ws RX2 TX2 4
theorem nmX2 : ∀ a, a < 4 → ∀ b, b < 4 → a ≠ b → (TX2 a).2.1 ≠ (TX2 b).2.1 := by decide +kernel
theorem tyX2_ok : ∀ k, k < 4 → parseFieldDescriptor (TX2 k).2.2.1 = some (tyX2 k) := by decide +kernel
abbrev cX2_init : ByteArray := prog_4_method_1_code
def yX2_init : MethodName := ⟨RX2, "<init>", "()V"⟩
abbrev cX2_copyFrom : ByteArray := prog_4_method_2_code
def yX2_copyFrom : MethodName := ⟨RX2, "copyFrom", "(LDrawerSlips$Lately;)V"⟩
abbrev cX2_append : ByteArray := prog_4_method_3_code
def yX2_append : MethodName := ⟨RX2, "append", "(III)V"⟩
abbrev cX2_has : ByteArray := prog_4_method_4_code
def yX2_has : MethodName := ⟨RX2, "has", "(I)Z"⟩
abbrev cX2_numberOf : ByteArray := prog_4_method_5_code
def yX2_numberOf : MethodName := ⟨RX2, "numberOf", "(I)I"⟩
abbrev cX2_waitOf : ByteArray := prog_4_method_6_code
def yX2_waitOf : MethodName := ⟨RX2, "waitOf", "(I)I"⟩
abbrev cX2_sortOf : ByteArray := prog_4_method_7_code
def yX2_sortOf : MethodName := ⟨RX2, "sortOf", "(I)I"⟩
abbrev cX2_place : ByteArray := prog_4_method_8_code
def yX2_place : MethodName := ⟨RX2, "place", "(I)I"⟩
def RX3 : String := "DrawerSlips$Pad"
def TX3 : u_T := fun k => match k with
  | 0 => ("DrawerSlips$Pad", "signs", "[I", true)
  | _ => ("DrawerSlips$Pad", "length", "I", false)
def tyX3 : Nat → FieldType := fun k => match k with
  | 0 => .array .int
  | _ => .int
abbrev wsX30 : List Cond := u_ws RX3 TX3 2
theorem nmX3 : ∀ a, a < 2 → ∀ b, b < 2 → a ≠ b → (TX3 a).2.1 ≠ (TX3 b).2.1 := by decide +kernel
theorem tyX3_ok : ∀ k, k < 2 → parseFieldDescriptor (TX3 k).2.2.1 = some (tyX3 k) := by decide +kernel
abbrev cX3_init : ByteArray := prog_5_method_1_code
def yX3_init : MethodName := ⟨RX3, "<init>", "()V"⟩
abbrev cX3_signAt : ByteArray := prog_5_method_2_code
def yX3_signAt : MethodName := ⟨RX3, "signAt", "(I)I"⟩
abbrev cX3_append : ByteArray := prog_5_method_3_code
def yX3_append : MethodName := ⟨RX3, "append", "(J)I"⟩
abbrev cX3_signsIn : ByteArray := prog_5_method_4_code
def yX3_signsIn : MethodName := ⟨RX3, "signsIn", "(J)I"⟩
abbrev cX3_add : ByteArray := prog_5_method_5_code
def yX3_add : MethodName := ⟨RX3, "add", "(I)V"⟩
abbrev cX3_empty : ByteArray := prog_5_method_6_code
def yX3_empty : MethodName := ⟨RX3, "empty", "()I"⟩
def RX4 : String := "DrawerSlips$Reader"
def TX4 : u_T := fun k => match k with
  | 0 => ("DrawerSlips$Reader", "pad", "LDrawerSlips$Pad;", true)
  | 1 => ("DrawerSlips$Reader", "at", "I", false)
  | 2 => ("DrawerSlips$Reader", "kind", "I", false)
  | 3 => ("DrawerSlips$Reader", "number", "I", false)
  | _ => ("DrawerSlips$Reader", "more", "I", false)
def tyX4 : Nat → FieldType := fun k => match k with
  | 0 => .object "DrawerSlips$Pad"
  | 1 => .int
  | 2 => .int
  | 3 => .int
  | _ => .int
abbrev wsX40 : List Cond := u_ws RX4 TX4 5
theorem nmX4 : ∀ a, a < 5 → ∀ b, b < 5 → a ≠ b → (TX4 a).2.1 ≠ (TX4 b).2.1 := by decide +kernel
theorem tyX4_ok : ∀ k, k < 5 → parseFieldDescriptor (TX4 k).2.2.1 = some (tyX4 k) := by decide +kernel
abbrev cX4_init : ByteArray := prog_6_method_1_code
def yX4_init : MethodName := ⟨RX4, "<init>", "(LDrawerSlips$Pad;)V"⟩
abbrev cX4_begin : ByteArray := prog_6_method_2_code
def yX4_begin : MethodName := ⟨RX4, "begin", "()V"⟩
abbrev cX4_findFault : ByteArray := prog_6_method_3_code
def yX4_findFault : MethodName := ⟨RX4, "findFault", "()I"⟩
abbrev cX4_skipSemicolon : ByteArray := prog_6_method_4_code
def yX4_skipSemicolon : MethodName := ⟨RX4, "skipSemicolon", "()V"⟩
abbrev cX4_readOrder : ByteArray := prog_6_method_5_code
def yX4_readOrder : MethodName := ⟨RX4, "readOrder", "()Z"⟩
abbrev cX4_readNumber : ByteArray := prog_6_method_6_code
def yX4_readNumber : MethodName := ⟨RX4, "readNumber", "()Z"⟩
abbrev cX4_readMore : ByteArray := prog_6_method_7_code
def yX4_readMore : MethodName := ⟨RX4, "readMore", "()Z"⟩
abbrev cX4_isDigitNext : ByteArray := prog_6_method_8_code
def yX4_isDigitNext : MethodName := ⟨RX4, "isDigitNext", "()Z"⟩
abbrev cX4_takeDigit : ByteArray := prog_6_method_9_code
def yX4_takeDigit : MethodName := ⟨RX4, "takeDigit", "()I"⟩
def RX5 : String := "DrawerSlips$Slip"
def TX5 : u_T := fun k => match k with
  | 0 => ("DrawerSlips$Slip", "rest", "LDrawerSlips$Slip;", true)
  | 1 => ("DrawerSlips$Slip", "waits", "Z", false)
  | 2 => ("DrawerSlips$Slip", "number", "I", false)
  | 3 => ("DrawerSlips$Slip", "writes", "I", false)
  | 4 => ("DrawerSlips$Slip", "first", "I", false)
  | 5 => ("DrawerSlips$Slip", "many", "I", false)
  | 6 => ("DrawerSlips$Slip", "came", "I", false)
  | _ => ("DrawerSlips$Slip", "joins", "I", false)
def tyX5 : Nat → FieldType := fun k => match k with
  | 0 => .object "DrawerSlips$Slip"
  | 1 => .boolean
  | 2 => .int
  | 3 => .int
  | 4 => .int
  | 5 => .int
  | 6 => .int
  | _ => .int
abbrev wsX50 : List Cond := u_ws RX5 TX5 8
theorem nmX5 : ∀ a, a < 8 → ∀ b, b < 8 → a ≠ b → (TX5 a).2.1 ≠ (TX5 b).2.1 := by decide +kernel
theorem tyX5_ok : ∀ k, k < 8 → parseFieldDescriptor (TX5 k).2.2.1 = some (tyX5 k) := by decide +kernel
abbrev cX5_init : ByteArray := prog_7_method_1_code
def yX5_init : MethodName := ⟨RX5, "<init>", "(LDrawerSlips$Slip;)V"⟩
abbrev cX5_copyFrom : ByteArray := prog_7_method_2_code
def yX5_copyFrom : MethodName := ⟨RX5, "copyFrom", "(LDrawerSlips$Slip;)V"⟩
abbrev cX5_last : ByteArray := prog_7_method_3_code
def yX5_last : MethodName := ⟨RX5, "last", "()I"⟩
abbrev cX5_isOfSort : ByteArray := prog_7_method_4_code
def yX5_isOfSort : MethodName := ⟨RX5, "isOfSort", "(I)Z"⟩
abbrev cX5_isAheadOf : ByteArray := prog_7_method_5_code
def yX5_isAheadOf : MethodName := ⟨RX5, "isAheadOf", "(LDrawerSlips$Slip;)Z"⟩
def RX6 : String := "DrawerSlips$Slot"
def TX6 : u_T := fun k => match k with
  | 0 => ("DrawerSlips$Slot", "state", "LDrawerSlips$Archive;", true)
  | _ => ("DrawerSlips$Slot", "isFilled", "Z", false)
def tyX6 : Nat → FieldType := fun k => match k with
  | 0 => .object "DrawerSlips$Archive"
  | _ => .boolean
abbrev wsX60 : List Cond := u_ws RX6 TX6 2
theorem nmX6 : ∀ a, a < 2 → ∀ b, b < 2 → a ≠ b → (TX6 a).2.1 ≠ (TX6 b).2.1 := by decide +kernel
theorem tyX6_ok : ∀ k, k < 2 → parseFieldDescriptor (TX6 k).2.2.1 = some (tyX6 k) := by decide +kernel
abbrev cX6_init : ByteArray := prog_8_method_1_code
def yX6_init : MethodName := ⟨RX6, "<init>", "()V"⟩
def RX7 : String := "DrawerSlips"
def TX7 : u_T := fun k => match k with
  | 0 => ("DrawerSlips", "archive", "LDrawerSlips$Archive;", true)
  | 1 => ("DrawerSlips", "trial", "LDrawerSlips$Archive;", true)
  | 2 => ("DrawerSlips", "history", "LDrawerSlips$History;", true)
  | 3 => ("DrawerSlips", "firstSlot", "LDrawerSlips$Slot;", true)
  | 4 => ("DrawerSlips", "secondSlot", "LDrawerSlips$Slot;", true)
  | 5 => ("DrawerSlips", "pad", "LDrawerSlips$Pad;", true)
  | _ => ("DrawerSlips", "reader", "LDrawerSlips$Reader;", true)
def tyX7 : Nat → FieldType := fun k => match k with
  | 0 => .object "DrawerSlips$Archive"
  | 1 => .object "DrawerSlips$Archive"
  | 2 => .object "DrawerSlips$History"
  | 3 => .object "DrawerSlips$Slot"
  | 4 => .object "DrawerSlips$Slot"
  | 5 => .object "DrawerSlips$Pad"
  | _ => .object "DrawerSlips$Reader"
abbrev wsX70 : List Cond := u_ws RX7 TX7 7
theorem nmX7 : ∀ a, a < 7 → ∀ b, b < 7 → a ≠ b → (TX7 a).2.1 ≠ (TX7 b).2.1 := by decide +kernel
theorem tyX7_ok : ∀ k, k < 7 → parseFieldDescriptor (TX7 k).2.2.1 = some (tyX7 k) := by decide +kernel
abbrev cX7_init : ByteArray := prog_1_method_1_code
def yX7_init : MethodName := ⟨RX7, "<init>", "()V"⟩
abbrev cX7_set : ByteArray := prog_1_method_2_code
def yX7_set : MethodName := ⟨RX7, "set", "(II)I"⟩
abbrev cX7_slip : ByteArray := prog_1_method_3_code
def yX7_slip : MethodName := ⟨RX7, "slip", "(III)I"⟩
abbrev cX7_tear : ByteArray := prog_1_method_4_code
def yX7_tear : MethodName := ⟨RX7, "tear", "(I)I"⟩
abbrev cX7_serve : ByteArray := prog_1_method_5_code
def yX7_serve : MethodName := ⟨RX7, "serve", "(I)I"⟩
abbrev cX7_pass : ByteArray := prog_1_method_6_code
def yX7_pass : MethodName := ⟨RX7, "pass", "(I)I"⟩
abbrev cX7_settled : ByteArray := prog_1_method_7_code
def yX7_settled : MethodName := ⟨RX7, "settled", "(I)I"⟩
abbrev cX7_serveSlips : ByteArray := prog_1_method_8_code
def yX7_serveSlips : MethodName := ⟨RX7, "serveSlips", "(I)I"⟩
abbrev cX7_of : ByteArray := prog_1_method_9_code
def yX7_of : MethodName := ⟨RX7, "of", "(II)I"⟩
abbrev cX7_waiting : ByteArray := prog_1_method_10_code
def yX7_waiting : MethodName := ⟨RX7, "waiting", "(II)I"⟩
abbrev cX7_log : ByteArray := prog_1_method_11_code
def yX7_log : MethodName := ⟨RX7, "log", "(II)I"⟩
abbrev cX7_count : ByteArray := prog_1_method_12_code
def yX7_count : MethodName := ⟨RX7, "count", "(I)I"⟩
abbrev cX7_next : ByteArray := prog_1_method_13_code
def yX7_next : MethodName := ⟨RX7, "next", "(I)I"⟩
abbrev cX7_servedIn : ByteArray := prog_1_method_14_code
def yX7_servedIn : MethodName := ⟨RX7, "servedIn", "(I)I"⟩
abbrev cX7_all : ByteArray := prog_1_method_15_code
def yX7_all : MethodName := ⟨RX7, "all", "(I)I"⟩
abbrev cX7_joined : ByteArray := prog_1_method_16_code
def yX7_joined : MethodName := ⟨RX7, "joined", "(III)I"⟩
abbrev cX7_put : ByteArray := prog_1_method_17_code
def yX7_put : MethodName := ⟨RX7, "put", "(J)I"⟩
abbrev cX7_wipe : ByteArray := prog_1_method_18_code
def yX7_wipe : MethodName := ⟨RX7, "wipe", "()I"⟩
abbrev cX7_fault : ByteArray := prog_1_method_19_code
def yX7_fault : MethodName := ⟨RX7, "fault", "()I"⟩
abbrev cX7_carryOut : ByteArray := prog_1_method_20_code
def yX7_carryOut : MethodName := ⟨RX7, "carryOut", "()I"⟩
abbrev cX7_obey : ByteArray := prog_1_method_21_code
def yX7_obey : MethodName := ⟨RX7, "obey", "()I"⟩
abbrev cX7_undo : ByteArray := prog_1_method_22_code
def yX7_undo : MethodName := ⟨RX7, "undo", "()I"⟩
abbrev cX7_save : ByteArray := prog_1_method_23_code
def yX7_save : MethodName := ⟨RX7, "save", "(I)I"⟩
abbrev cX7_restore : ByteArray := prog_1_method_24_code
def yX7_restore : MethodName := ⟨RX7, "restore", "(I)I"⟩
abbrev cX7_slotAt : ByteArray := prog_1_method_25_code
def yX7_slotAt : MethodName := ⟨RX7, "slotAt", "(I)LDrawerSlips$Slot;"⟩
abbrev cX7_isSlip : ByteArray := prog_1_method_26_code
def yX7_isSlip : MethodName := ⟨RX7, "isSlip", "(III)Z"⟩
abbrev cX7_isIndexOf : ByteArray := prog_1_method_27_code
def yX7_isIndexOf : MethodName := ⟨RX7, "isIndexOf", "([II)Z"⟩
abbrev cX7_valueAt : ByteArray := prog_1_method_28_code
def yX7_valueAt : MethodName := ⟨RX7, "valueAt", "([II)I"⟩
abbrev cX7_copyRow : ByteArray := prog_1_method_29_code
def yX7_copyRow : MethodName := ⟨RX7, "copyRow", "([I[I)V"⟩
def RX8 : String := "DrawerSlipsModel"
def TX8 : u_T := fun k => match k with
  | 0 => ("DrawerSlipsModel", "row", "[I", true)
  | 1 => ("DrawerSlipsModel", "past", "[I", true)
  | 2 => ("DrawerSlipsModel", "before", "[I", true)
  | 3 => ("DrawerSlipsModel", "aside", "[I", true)
  | 4 => ("DrawerSlipsModel", "slots", "[I", true)
  | 5 => ("DrawerSlipsModel", "isSaved", "[Z", true)
  | 6 => ("DrawerSlipsModel", "states", "I", false)
  | 7 => ("DrawerSlipsModel", "pad", "[I", true)
  | 8 => ("DrawerSlipsModel", "length", "I", false)
  | 9 => ("DrawerSlipsModel", "at", "I", false)
  | 10 => ("DrawerSlipsModel", "codes", "[I", true)
  | 11 => ("DrawerSlipsModel", "place", "I", false)
  | _ => ("DrawerSlipsModel", "why", "I", false)
def tyX8 : Nat → FieldType := fun k => match k with
  | 0 => .array .int
  | 1 => .array .int
  | 2 => .array .int
  | 3 => .array .int
  | 4 => .array .int
  | 5 => .array .boolean
  | 6 => .int
  | 7 => .array .int
  | 8 => .int
  | 9 => .int
  | 10 => .array .int
  | 11 => .int
  | _ => .int
abbrev wsX80 : List Cond := u_ws RX8 TX8 13
theorem nmX8 : ∀ a, a < 13 → ∀ b, b < 13 → a ≠ b → (TX8 a).2.1 ≠ (TX8 b).2.1 := by decide +kernel
theorem tyX8_ok : ∀ k, k < 13 → parseFieldDescriptor (TX8 k).2.2.1 = some (tyX8 k) := by decide +kernel
abbrev cX8_init : ByteArray := prog_10_method_1_code
def yX8_init : MethodName := ⟨RX8, "<init>", "()V"⟩
abbrev cX8_in : ByteArray := prog_10_method_2_code
def yX8_in : MethodName := ⟨RX8, "in", "(JII)Z"⟩
abbrev cX8_far : ByteArray := prog_10_method_3_code
def yX8_far : MethodName := ⟨RX8, "far", "(II)I"⟩
abbrev cX8_its : ByteArray := prog_10_method_4_code
def yX8_its : MethodName := ⟨RX8, "its", "(II)I"⟩
abbrev cX8_lastOf : ByteArray := prog_10_method_5_code
def yX8_lastOf : MethodName := ⟨RX8, "lastOf", "(I)I"⟩
abbrev cX8_find : ByteArray := prog_10_method_6_code
def yX8_find : MethodName := ⟨RX8, "find", "(I)I"⟩
abbrev cX8_many : ByteArray := prog_10_method_7_code
def yX8_many : MethodName := ⟨RX8, "many", "(I)I"⟩
abbrev cX8_remember : ByteArray := prog_10_method_8_code
def yX8_remember : MethodName := ⟨RX8, "remember", "()V"⟩
abbrev cX8_record : ByteArray := prog_10_method_9_code
def yX8_record : MethodName := ⟨RX8, "record", "(I)I"⟩
abbrev cX8_undo : ByteArray := prog_10_method_10_code
def yX8_undo : MethodName := ⟨RX8, "undo", "()I"⟩
abbrev cX8_save : ByteArray := prog_10_method_11_code
def yX8_save : MethodName := ⟨RX8, "save", "(I)I"⟩
abbrev cX8_restore : ByteArray := prog_10_method_12_code
def yX8_restore : MethodName := ⟨RX8, "restore", "(I)I"⟩
abbrev cX8_layAside : ByteArray := prog_10_method_13_code
def yX8_layAside : MethodName := ⟨RX8, "layAside", "()V"⟩
abbrev cX8_putBack : ByteArray := prog_10_method_14_code
def yX8_putBack : MethodName := ⟨RX8, "putBack", "()V"⟩
abbrev cX8_lowest : ByteArray := prog_10_method_15_code
def yX8_lowest : MethodName := ⟨RX8, "lowest", "(II)I"⟩
abbrev cX8_oldest : ByteArray := prog_10_method_16_code
def yX8_oldest : MethodName := ⟨RX8, "oldest", "(I)I"⟩
abbrev cX8_isOld : ByteArray := prog_10_method_17_code
def yX8_isOld : MethodName := ⟨RX8, "isOld", "(I)Z"⟩
abbrev cX8_nextSort : ByteArray := prog_10_method_18_code
def yX8_nextSort : MethodName := ⟨RX8, "nextSort", "()I"⟩
abbrev cX8_look : ByteArray := prog_10_method_19_code
def yX8_look : MethodName := ⟨RX8, "look", "()V"⟩
abbrev cX8_minute : ByteArray := prog_10_method_20_code
def yX8_minute : MethodName := ⟨RX8, "minute", "()I"⟩
abbrev cX8_drop : ByteArray := prog_10_method_21_code
def yX8_drop : MethodName := ⟨RX8, "drop", "(I)V"⟩
abbrev cX8_note : ByteArray := prog_10_method_22_code
def yX8_note : MethodName := ⟨RX8, "note", "(III)V"⟩
abbrev cX8_serveOne : ByteArray := prog_10_method_23_code
def yX8_serveOne : MethodName := ⟨RX8, "serveOne", "()V"⟩
abbrev cX8_isSlip : ByteArray := prog_10_method_24_code
def yX8_isSlip : MethodName := ⟨RX8, "isSlip", "(III)Z"⟩
abbrev cX8_partner : ByteArray := prog_10_method_25_code
def yX8_partner : MethodName := ⟨RX8, "partner", "(III)I"⟩
abbrev cX8_comes : ByteArray := prog_10_method_26_code
def yX8_comes : MethodName := ⟨RX8, "comes", "(III)I"⟩
abbrev cX8_serves : ByteArray := prog_10_method_27_code
def yX8_serves : MethodName := ⟨RX8, "serves", "(I)I"⟩
abbrev cX8_waits : ByteArray := prog_10_method_28_code
def yX8_waits : MethodName := ⟨RX8, "waits", "(I)I"⟩
abbrev cX8_leastOf : ByteArray := prog_10_method_29_code
def yX8_leastOf : MethodName := ⟨RX8, "leastOf", "(I)I"⟩
abbrev cX8_mostOf : ByteArray := prog_10_method_30_code
def yX8_mostOf : MethodName := ⟨RX8, "mostOf", "(I)I"⟩
abbrev cX8_set : ByteArray := prog_10_method_31_code
def yX8_set : MethodName := ⟨RX8, "set", "(II)I"⟩
abbrev cX8_slip : ByteArray := prog_10_method_32_code
def yX8_slip : MethodName := ⟨RX8, "slip", "(III)I"⟩
abbrev cX8_tear : ByteArray := prog_10_method_33_code
def yX8_tear : MethodName := ⟨RX8, "tear", "(I)I"⟩
abbrev cX8_serve : ByteArray := prog_10_method_34_code
def yX8_serve : MethodName := ⟨RX8, "serve", "(I)I"⟩
abbrev cX8_pass : ByteArray := prog_10_method_35_code
def yX8_pass : MethodName := ⟨RX8, "pass", "(I)I"⟩
abbrev cX8_of : ByteArray := prog_10_method_36_code
def yX8_of : MethodName := ⟨RX8, "of", "(II)I"⟩
abbrev cX8_rank : ByteArray := prog_10_method_37_code
def yX8_rank : MethodName := ⟨RX8, "rank", "(I)I"⟩
abbrev cX8_waiting : ByteArray := prog_10_method_38_code
def yX8_waiting : MethodName := ⟨RX8, "waiting", "(II)I"⟩
abbrev cX8_log : ByteArray := prog_10_method_39_code
def yX8_log : MethodName := ⟨RX8, "log", "(II)I"⟩
abbrev cX8_count : ByteArray := prog_10_method_40_code
def yX8_count : MethodName := ⟨RX8, "count", "(I)I"⟩
abbrev cX8_next : ByteArray := prog_10_method_41_code
def yX8_next : MethodName := ⟨RX8, "next", "(I)I"⟩
abbrev cX8_servedIn : ByteArray := prog_10_method_42_code
def yX8_servedIn : MethodName := ⟨RX8, "servedIn", "(I)I"⟩
abbrev cX8_all : ByteArray := prog_10_method_43_code
def yX8_all : MethodName := ⟨RX8, "all", "(I)I"⟩
abbrev cX8_joined : ByteArray := prog_10_method_44_code
def yX8_joined : MethodName := ⟨RX8, "joined", "(III)I"⟩
abbrev cX8_put : ByteArray := prog_10_method_45_code
def yX8_put : MethodName := ⟨RX8, "put", "(J)I"⟩
abbrev cX8_wipe : ByteArray := prog_10_method_46_code
def yX8_wipe : MethodName := ⟨RX8, "wipe", "()I"⟩
abbrev cX8_sees : ByteArray := prog_10_method_47_code
def yX8_sees : MethodName := ⟨RX8, "sees", "(II)Z"⟩
abbrev cX8_number : ByteArray := prog_10_method_48_code
def yX8_number : MethodName := ⟨RX8, "number", "()I"⟩
abbrev cX8_order : ByteArray := prog_10_method_49_code
def yX8_order : MethodName := ⟨RX8, "order", "(Z)I"⟩
abbrev cX8_isWell : ByteArray := prog_10_method_50_code
def yX8_isWell : MethodName := ⟨RX8, "isWell", "()Z"⟩
abbrev cX8_fault : ByteArray := prog_10_method_51_code
def yX8_fault : MethodName := ⟨RX8, "fault", "()I"⟩
abbrev cX8_carryOut : ByteArray := prog_10_method_52_code
def yX8_carryOut : MethodName := ⟨RX8, "carryOut", "()I"⟩
def RJ9 : String := "java/lang/Math"
def TJ9 : u_T := fun k => match k with
  | _ => ("", "", "", false)
def tyJ9 : Nat → FieldType := fun k => match k with
  | _ => .int
abbrev wsJ90 : List Cond := u_ws RJ9 TJ9 0
theorem nmJ9 : ∀ a, a < 0 → ∀ b, b < 0 → a ≠ b → (TJ9 a).2.1 ≠ (TJ9 b).2.1 := by decide +kernel
theorem tyJ9_ok : ∀ k, k < 0 → parseFieldDescriptor (TJ9 k).2.2.1 = some (tyJ9 k) := by decide +kernel
abbrev cJ9_abs_0f7a4 : ByteArray := prog_11_method_59_code
def yJ9_abs_0f7a4 : MethodName := ⟨RJ9, "abs", "(I)I"⟩
abbrev cJ9_max_7cf53 : ByteArray := prog_11_method_65_code
def yJ9_max_7cf53 : MethodName := ⟨RJ9, "max", "(II)I"⟩
abbrev cJ9_min_7cf53 : ByteArray := prog_11_method_69_code
def yJ9_min_7cf53 : MethodName := ⟨RJ9, "min", "(II)I"⟩
def RL : String := "DrawerSlipsLaw"
abbrev cL_law : ByteArray := code
def yL_law : MethodName := ⟨RL, "law", "([I)Z"⟩
abbrev vwCl : List vw_C := [(RX0, TX0, 14), (RX1, TX1, 3), (RX2, TX2, 4), (RX3, TX3, 2), (RX4, TX4, 5), (RX5, TX5, 8), (RX6, TX6, 2), (RX7, TX7, 7), (RX8, TX8, 13)]
-- the words of all methods: of the model, of the class
def wsM : List Cond := [.code yX8_init cX8_init 1 none,
  .methodLink RX8 1 objectInit,
  .instanceMethod objectInit,
  .code objectInit ⟨#[0xb1]⟩ 1 none,
  .arrayClass .int,
  .fieldLink RX8 7 "DrawerSlipsModel" "row" "[I",
  .fieldLink RX8 13 "DrawerSlipsModel" "past" "[I",
  .fieldLink RX8 16 "DrawerSlipsModel" "before" "[I",
  .fieldLink RX8 19 "DrawerSlipsModel" "aside" "[I",
  .fieldLink RX8 22 "DrawerSlipsModel" "slots" "[I",
  .arrayClass .boolean,
  .fieldLink RX8 25 "DrawerSlipsModel" "isSaved" "[Z",
  .fieldLink RX8 29 "DrawerSlipsModel" "pad" "[I",
  .fieldLink RX8 32 "DrawerSlipsModel" "codes" "[I",
  .code yX8_in cX8_in 4 (some .boolean),
  .code yX8_far cX8_far 2 (some .int),
  .code yX8_its cX8_its 3 (some .int),
  .code yX8_lastOf cX8_lastOf 2 (some .int),
  .methodLink RX8 35 yX8_its,
  .instanceMethod yX8_its,
  .selects RX8 yX8_its yX8_its,
  .initialized RX8,
  .code yX8_find cX8_find 3 (some .int),
  .code yX8_many cX8_many 4 (some .int),
  .code yX8_remember cX8_remember 2 none,
  .code yX8_record cX8_record 3 (some .int),
  .fieldLink RX8 39 "DrawerSlipsModel" "states" "I",
  .code yX8_undo cX8_undo 2 (some .int),
  .code yX8_save cX8_save 3 (some .int),
  .methodLink RX8 43 yX8_in,
  .static yX8_in,
  .code yX8_restore cX8_restore 3 (some .int),
  .methodLink RX8 47 yX8_remember,
  .instanceMethod yX8_remember,
  .selects RX8 yX8_remember yX8_remember,
  .methodLink RX8 50 yX8_record,
  .instanceMethod yX8_record,
  .selects RX8 yX8_record yX8_record,
  .code yX8_layAside cX8_layAside 2 none,
  .code yX8_putBack cX8_putBack 2 none,
  .code yX8_lowest cX8_lowest 6 (some .int),
  .code yX8_oldest cX8_oldest 4 (some .int),
  .code yX8_isOld cX8_isOld 2 (some .boolean),
  .code yX8_nextSort cX8_nextSort 2 (some .int),
  .methodLink RX8 54 yX8_many,
  .instanceMethod yX8_many,
  .selects RX8 yX8_many yX8_many,
  .code yX8_look cX8_look 2 none,
  .fieldLink RX8 60 "DrawerSlipsModel" "place" "I",
  .fieldLink RX8 63 "DrawerSlipsModel" "why" "I",
  .methodLink RX8 57 yX8_lowest,
  .instanceMethod yX8_lowest,
  .selects RX8 yX8_lowest yX8_lowest,
  .methodLink RX8 66 yX8_nextSort,
  .instanceMethod yX8_nextSort,
  .selects RX8 yX8_nextSort yX8_nextSort,
  .methodLink RX8 70 yX8_oldest,
  .instanceMethod yX8_oldest,
  .selects RX8 yX8_oldest yX8_oldest,
  .methodLink RX8 73 yX8_isOld,
  .instanceMethod yX8_isOld,
  .selects RX8 yX8_isOld yX8_isOld,
  .code yX8_minute cX8_minute 1 (some .int),
  .methodLink RX8 77 yX8_far,
  .static yX8_far,
  .code yX8_drop cX8_drop 3 none,
  .code yX8_note cX8_note 5 none,
  .code yX8_serveOne cX8_serveOne 4 none,
  .methodLink RX8 80 yX8_look,
  .instanceMethod yX8_look,
  .selects RX8 yX8_look yX8_look,
  .methodLink RX8 83 yX8_minute,
  .instanceMethod yX8_minute,
  .selects RX8 yX8_minute yX8_minute,
  .methodLink RX8 86 yX8_lastOf,
  .instanceMethod yX8_lastOf,
  .selects RX8 yX8_lastOf yX8_lastOf,
  .methodLink RX8 89 yX8_note,
  .instanceMethod yX8_note,
  .selects RX8 yX8_note yX8_note,
  .methodLink RX8 93 yX8_drop,
  .instanceMethod yX8_drop,
  .selects RX8 yX8_drop yX8_drop,
  .code yX8_isSlip cX8_isSlip 3 (some .boolean),
  .code yX8_partner cX8_partner 5 (some .int),
  .code yX8_comes cX8_comes 6 (some .int),
  .methodLink RX8 97 yX8_isSlip,
  .static yX8_isSlip,
  .methodLink RX8 101 yX8_partner,
  .instanceMethod yX8_partner,
  .selects RX8 yX8_partner yX8_partner,
  .code yX8_serves cX8_serves 3 (some .int),
  .constant RX8 111 (99999),
  .methodLink RX8 105 yX8_layAside,
  .instanceMethod yX8_layAside,
  .selects RX8 yX8_layAside yX8_layAside,
  .methodLink RX8 108 yX8_serveOne,
  .instanceMethod yX8_serveOne,
  .selects RX8 yX8_serveOne yX8_serveOne,
  .methodLink RX8 112 yX8_putBack,
  .instanceMethod yX8_putBack,
  .selects RX8 yX8_putBack yX8_putBack,
  .code yX8_waits cX8_waits 2 (some .int),
  .code yX8_leastOf cX8_leastOf 1 (some .int),
  .code yX8_mostOf cX8_mostOf 1 (some .int),
  .code yX8_set cX8_set 4 (some .int),
  .methodLink RX8 115 yX8_leastOf,
  .static yX8_leastOf,
  .methodLink RX8 118 yX8_mostOf,
  .static yX8_mostOf,
  .code yX8_slip cX8_slip 4 (some .int),
  .methodLink RX8 121 yX8_comes,
  .instanceMethod yX8_comes,
  .selects RX8 yX8_comes yX8_comes,
  .code yX8_tear cX8_tear 4 (some .int),
  .methodLink RX8 124 yX8_find,
  .instanceMethod yX8_find,
  .selects RX8 yX8_find yX8_find,
  .code yX8_serve cX8_serve 2 (some .int),
  .methodLink RX8 127 yX8_serves,
  .instanceMethod yX8_serves,
  .selects RX8 yX8_serves yX8_serves,
  .code yX8_pass cX8_pass 2 (some .int),
  .methodLink RX8 130 yX8_waits,
  .instanceMethod yX8_waits,
  .selects RX8 yX8_waits yX8_waits,
  .code yX8_of cX8_of 4 (some .int),
  .code yX8_rank cX8_rank 5 (some .int),
  .code yX8_waiting cX8_waiting 4 (some .int),
  .methodLink RX8 133 yX8_rank,
  .instanceMethod yX8_rank,
  .selects RX8 yX8_rank yX8_rank,
  .code yX8_log cX8_log 3 (some .int),
  .code yX8_count cX8_count 2 (some .int),
  .fieldLink RX8 136 "DrawerSlipsModel" "length" "I",
  .code yX8_next cX8_next 2 (some .int),
  .code yX8_servedIn cX8_servedIn 4 (some .int),
  .code yX8_all cX8_all 5 (some .int),
  .code yX8_joined cX8_joined 5 (some .int),
  .code yX8_put cX8_put 7 (some .int),
  .constantLong RX8 139 (255),
  .code yX8_wipe cX8_wipe 2 (some .int),
  .code yX8_sees cX8_sees 3 (some .boolean),
  .fieldLink RX8 141 "DrawerSlipsModel" "at" "I",
  .code yX8_number cX8_number 2 (some .int),
  .methodLink RX8 144 yX8_sees,
  .instanceMethod yX8_sees,
  .selects RX8 yX8_sees yX8_sees,
  .code yX8_order cX8_order 6 (some .int),
  .methodLink RX8 148 yX8_number,
  .instanceMethod yX8_number,
  .selects RX8 yX8_number yX8_number,
  .code yX8_isWell cX8_isWell 2 (some .boolean),
  .methodLink RX8 151 yX8_order,
  .instanceMethod yX8_order,
  .selects RX8 yX8_order yX8_order,
  .code yX8_fault cX8_fault 1 (some .int),
  .methodLink RX8 155 yX8_isWell,
  .instanceMethod yX8_isWell,
  .selects RX8 yX8_isWell yX8_isWell,
  .code yX8_carryOut cX8_carryOut 3 (some .int)] ++ wsX80
def wsC : List Cond := [.code yX2_init cX2_init 1 none,
  .methodLink RX2 1 objectInit,
  .instanceMethod objectInit,
  .code objectInit ⟨#[0xb1]⟩ 1 none,
  .arrayClass .int,
  .fieldLink RX2 9 "DrawerSlips$Lately" "numbers" "[I",
  .fieldLink RX2 13 "DrawerSlips$Lately" "waits" "[I",
  .fieldLink RX2 16 "DrawerSlips$Lately" "sorts" "[I",
  .code yX7_copyRow cX7_copyRow 3 none,
  .code yX5_init cX5_init 2 none,
  .methodLink RX5 1 objectInit,
  .fieldLink RX5 7 "DrawerSlips$Slip" "rest" "LDrawerSlips$Slip;",
  .code yX0_init cX0_init 3 none,
  .methodLink RX0 3 objectInit,
  .fieldLink RX0 13 "DrawerSlips$Archive" "settings" "[I",
  .classLink RX0 18 RX2,
  .instantiable RX2 4,
  .initialized RX2,
  .fieldLink RX0 21 "DrawerSlips$Archive" "lately" "LDrawerSlips$Lately;",
  .classLink RX0 29 RX5,
  .instantiable RX5 8,
  .initialized RX5,
  .fieldLink RX0 34 "DrawerSlips$Archive" "places" "LDrawerSlips$Slip;",
  .instanceMethod yX2_init,
  .static yX7_copyRow,
  .initialized RX7,
  .instanceMethod yX5_init,
  .code yX5_copyFrom cX5_copyFrom 2 none,
  .fieldLink RX5 13 "DrawerSlips$Slip" "waits" "Z",
  .fieldLink RX5 17 "DrawerSlips$Slip" "number" "I",
  .fieldLink RX5 21 "DrawerSlips$Slip" "writes" "I",
  .fieldLink RX5 24 "DrawerSlips$Slip" "first" "I",
  .fieldLink RX5 27 "DrawerSlips$Slip" "many" "I",
  .fieldLink RX5 30 "DrawerSlips$Slip" "came" "I",
  .fieldLink RX5 33 "DrawerSlips$Slip" "joins" "I",
  .code yX2_copyFrom cX2_copyFrom 2 none,
  .fieldLink RX2 25 "DrawerSlips$Lately" "served" "I",
  .code yX0_copyFrom cX0_copyFrom 4 none,
  .fieldLink RX0 47 "DrawerSlips$Archive" "readsWaiting" "I",
  .fieldLink RX0 51 "DrawerSlips$Archive" "writesWaiting" "I",
  .fieldLink RX0 54 "DrawerSlips$Archive" "nextNumber" "I",
  .fieldLink RX0 57 "DrawerSlips$Archive" "now" "I",
  .fieldLink RX0 60 "DrawerSlips$Archive" "arm" "I",
  .fieldLink RX0 63 "DrawerSlips$Archive" "longestWait" "I",
  .fieldLink RX0 66 "DrawerSlips$Archive" "drawersGone" "I",
  .fieldLink RX0 69 "DrawerSlips$Archive" "batches" "I",
  .fieldLink RX0 72 "DrawerSlips$Archive" "batchSort" "I",
  .fieldLink RX0 75 "DrawerSlips$Archive" "batchSlips" "I",
  .fieldLink RX0 78 "DrawerSlips$Archive" "readsAhead" "I",
  .instanceMethod yX5_copyFrom,
  .selects RX5 yX5_copyFrom yX5_copyFrom,
  .instanceMethod yX2_copyFrom,
  .selects RX2 yX2_copyFrom yX2_copyFrom,
  .code yX7_isIndexOf cX7_isIndexOf 2 (some .boolean),
  .code yX7_valueAt cX7_valueAt 2 (some .int),
  .code yX0_adjust cX0_adjust 4 (some .int),
  .static yX7_isIndexOf,
  .static yX7_valueAt,
  .code yX7_isSlip cX7_isSlip 3 (some .boolean),
  .code yX5_isOfSort cX5_isOfSort 2 (some .boolean),
  .code yX5_last cX5_last 1 (some .int),
  .code yX0_hostFor cX0_hostFor 7 (some (.object "DrawerSlips$Slip")),
  .instanceMethod yX5_isOfSort,
  .selects RX5 yX5_isOfSort yX5_isOfSort,
  .instanceMethod yX5_last,
  .selects RX5 yX5_last yX5_last,
  .code yX0_freePlace cX0_freePlace 2 (some (.object "DrawerSlips$Slip")),
  .code yX0_countWaiting cX0_countWaiting 3 none,
  .code yX0_accept cX0_accept 6 (some .int),
  .static yX7_isSlip,
  .methodLink RX0 99 yX0_hostFor,
  .instanceMethod yX0_hostFor,
  .selects RX0 yX0_hostFor yX0_hostFor,
  .initialized RX0,
  .methodLink RX0 112 yX0_freePlace,
  .instanceMethod yX0_freePlace,
  .selects RX0 yX0_freePlace yX0_freePlace,
  .methodLink RX0 129 yX0_countWaiting,
  .instanceMethod yX0_countWaiting,
  .selects RX0 yX0_countWaiting yX0_countWaiting,
  .code yX0_find cX0_find 3 (some (.object "DrawerSlips$Slip")),
  .code yX0_remove cX0_remove 2 none,
  .code yX0_age cX0_age 2 (some .int),
  .code yX0_tearUp cX0_tearUp 3 (some .int),
  .methodLink RX0 133 yX0_find,
  .instanceMethod yX0_find,
  .selects RX0 yX0_find yX0_find,
  .methodLink RX0 137 yX0_remove,
  .instanceMethod yX0_remove,
  .selects RX0 yX0_remove yX0_remove,
  .methodLink RX0 140 yX0_age,
  .instanceMethod yX0_age,
  .selects RX0 yX0_age yX0_age,
  .code yX0_stand cX0_stand 2 (some .int),
  .constant RX0 144 (99999),
  .code yX0_slipsThatWait cX0_slipsThatWait 1 (some .int),
  .code yX5_isAheadOf cX5_isAheadOf 2 (some .boolean),
  .code yX0_slipsAheadOf cX0_slipsAheadOf 4 (some .int),
  .instanceMethod yX5_isAheadOf,
  .selects RX5 yX5_isAheadOf yX5_isAheadOf,
  .code yX0_ranked cX0_ranked 4 (some (.object "DrawerSlips$Slip")),
  .methodLink RX0 153 yX0_slipsAheadOf,
  .instanceMethod yX0_slipsAheadOf,
  .selects RX0 yX0_slipsAheadOf yX0_slipsAheadOf,
  .code yX0_isTooOld cX0_isTooOld 2 (some .boolean),
  .code yX0_amount cX0_amount 2 (some .int),
  .code yX0_leastFrom cX0_leastFrom 5 (some (.object "DrawerSlips$Slip")),
  .code yX0_newSort cX0_newSort 1 (some .int),
  .code yX0_oldest cX0_oldest 4 (some (.object "DrawerSlips$Slip")),
  .code yX0_reason cX0_reason 4 (some .int),
  .methodLink RX0 163 yX0_leastFrom,
  .instanceMethod yX0_leastFrom,
  .selects RX0 yX0_leastFrom yX0_leastFrom,
  .methodLink RX0 167 yX0_newSort,
  .instanceMethod yX0_newSort,
  .selects RX0 yX0_newSort yX0_newSort,
  .methodLink RX0 170 yX0_oldest,
  .instanceMethod yX0_oldest,
  .selects RX0 yX0_oldest yX0_oldest,
  .methodLink RX0 173 yX0_isTooOld,
  .instanceMethod yX0_isTooOld,
  .selects RX0 yX0_isTooOld yX0_isTooOld,
  .code yX0_chosen cX0_chosen 2 (some (.object "DrawerSlips$Slip")),
  .code yX0_drawersTo cX0_drawersTo 2 (some .int),
  .methodLink RX0 176 Lib.Math.abs.name,
  .static Lib.Math.abs.name,
  .initialized "java/lang/Math",
  .code Lib.Math.abs.name Lib.Math.abs.code 1 (some .int),
  .code yX0_minutesFor cX0_minutesFor 2 (some .int),
  .methodLink RX0 182 yX0_drawersTo,
  .instanceMethod yX0_drawersTo,
  .selects RX0 yX0_drawersTo yX0_drawersTo,
  .code yX0_beginBatch cX0_beginBatch 2 none,
  .code yX2_append cX2_append 5 none,
  .code yX0_serveNext cX0_serveNext 3 none,
  .methodLink RX0 198 Lib.Math.min.name,
  .static Lib.Math.min.name,
  .code Lib.Math.min.name Lib.Math.min.code 2 (some .int),
  .methodLink RX0 202 Lib.Math.max.name,
  .static Lib.Math.max.name,
  .code Lib.Math.max.name Lib.Math.max.code 2 (some .int),
  .methodLink RX0 185 yX0_reason,
  .instanceMethod yX0_reason,
  .selects RX0 yX0_reason yX0_reason,
  .methodLink RX0 188 yX0_chosen,
  .instanceMethod yX0_chosen,
  .selects RX0 yX0_chosen yX0_chosen,
  .methodLink RX0 191 yX0_beginBatch,
  .instanceMethod yX0_beginBatch,
  .selects RX0 yX0_beginBatch yX0_beginBatch,
  .methodLink RX0 195 yX0_minutesFor,
  .instanceMethod yX0_minutesFor,
  .selects RX0 yX0_minutesFor yX0_minutesFor,
  .instanceMethod yX2_append,
  .selects RX2 yX2_append yX2_append,
  .code yX1_init cX1_init 2 none,
  .methodLink RX1 3 objectInit,
  .classLink RX1 9 RX0,
  .fieldLink RX1 11 "DrawerSlips$History" "states" "[LDrawerSlips$Archive;",
  .instantiable RX0 14,
  .instanceMethod yX0_init,
  .code yX1_stateAt cX1_stateAt 2 (some (.object "DrawerSlips$Archive")),
  .code yX1_prepare cX1_prepare 3 none,
  .fieldLink RX1 16 "DrawerSlips$History" "place" "I",
  .methodLink RX1 20 yX1_stateAt,
  .instanceMethod yX1_stateAt,
  .selects RX1 yX1_stateAt yX1_stateAt,
  .initialized RX1,
  .instanceMethod yX0_copyFrom,
  .selects RX0 yX0_copyFrom yX0_copyFrom,
  .code yX1_keep cX1_keep 1 none,
  .fieldLink RX1 28 "DrawerSlips$History" "kept" "I",
  .methodLink RX1 31 Lib.Math.min.name,
  .code yX1_takeBack cX1_takeBack 3 none,
  .code yX2_has cX2_has 2 (some .boolean),
  .code yX2_place cX2_place 2 (some .int),
  .code yX2_numberOf cX2_numberOf 2 (some .int),
  .methodLink RX2 33 yX2_place,
  .instanceMethod yX2_place,
  .selects RX2 yX2_place yX2_place,
  .code yX2_waitOf cX2_waitOf 2 (some .int),
  .code yX2_sortOf cX2_sortOf 2 (some .int),
  .code yX3_init cX3_init 1 none,
  .methodLink RX3 3 objectInit,
  .fieldLink RX3 11 "DrawerSlips$Pad" "signs" "[I",
  .code yX3_signAt cX3_signAt 2 (some .int),
  .fieldLink RX3 15 "DrawerSlips$Pad" "length" "I",
  .code yX3_signsIn cX3_signsIn 6 (some .int),
  .code yX3_add cX3_add 2 none,
  .code yX3_append cX3_append 5 (some .int),
  .methodLink RX3 23 yX3_signsIn,
  .static yX3_signsIn,
  .initialized RX3,
  .methodLink RX3 27 yX3_add,
  .instanceMethod yX3_add,
  .selects RX3 yX3_add yX3_add,
  .code yX3_empty cX3_empty 2 (some .int),
  .code yX4_init cX4_init 2 none,
  .methodLink RX4 3 objectInit,
  .fieldLink RX4 9 "DrawerSlips$Reader" "pad" "LDrawerSlips$Pad;",
  .code yX4_begin cX4_begin 1 none,
  .fieldLink RX4 15 "DrawerSlips$Reader" "at" "I",
  .code yX4_isDigitNext cX4_isDigitNext 2 (some .boolean),
  .instanceMethod yX3_signAt,
  .selects RX3 yX3_signAt yX3_signAt,
  .code yX4_takeDigit cX4_takeDigit 2 (some .int),
  .code yX4_readNumber cX4_readNumber 1 (some .boolean),
  .fieldLink RX4 57 "DrawerSlips$Reader" "number" "I",
  .methodLink RX4 50 yX4_isDigitNext,
  .instanceMethod yX4_isDigitNext,
  .selects RX4 yX4_isDigitNext yX4_isDigitNext,
  .initialized RX4,
  .methodLink RX4 53 yX4_takeDigit,
  .instanceMethod yX4_takeDigit,
  .selects RX4 yX4_takeDigit yX4_takeDigit,
  .code yX4_readMore cX4_readMore 1 (some .boolean),
  .fieldLink RX4 41 "DrawerSlips$Reader" "more" "I",
  .code yX4_readOrder cX4_readOrder 2 (some .boolean),
  .fieldLink RX4 38 "DrawerSlips$Reader" "kind" "I",
  .methodLink RX4 44 yX4_readNumber,
  .instanceMethod yX4_readNumber,
  .selects RX4 yX4_readNumber yX4_readNumber,
  .methodLink RX4 47 yX4_readMore,
  .instanceMethod yX4_readMore,
  .selects RX4 yX4_readMore yX4_readMore,
  .code yX4_skipSemicolon cX4_skipSemicolon 1 none,
  .code yX4_findFault cX4_findFault 2 (some .int),
  .methodLink RX4 19 yX4_begin,
  .instanceMethod yX4_begin,
  .selects RX4 yX4_begin yX4_begin,
  .methodLink RX4 22 yX4_readOrder,
  .instanceMethod yX4_readOrder,
  .selects RX4 yX4_readOrder yX4_readOrder,
  .methodLink RX4 35 yX4_skipSemicolon,
  .instanceMethod yX4_skipSemicolon,
  .selects RX4 yX4_skipSemicolon yX4_skipSemicolon,
  .code yX6_init cX6_init 1 none,
  .methodLink RX6 1 objectInit,
  .classLink RX6 7 RX0,
  .fieldLink RX6 10 "DrawerSlips$Slot" "state" "LDrawerSlips$Archive;",
  .code yX7_init cX7_init 1 none,
  .methodLink RX7 1 objectInit,
  .classLink RX7 7 RX0,
  .fieldLink RX7 10 "DrawerSlips" "archive" "LDrawerSlips$Archive;",
  .fieldLink RX7 16 "DrawerSlips" "trial" "LDrawerSlips$Archive;",
  .classLink RX7 19 RX1,
  .instantiable RX1 3,
  .fieldLink RX7 22 "DrawerSlips" "history" "LDrawerSlips$History;",
  .classLink RX7 26 RX6,
  .instantiable RX6 2,
  .initialized RX6,
  .fieldLink RX7 29 "DrawerSlips" "firstSlot" "LDrawerSlips$Slot;",
  .fieldLink RX7 33 "DrawerSlips" "secondSlot" "LDrawerSlips$Slot;",
  .classLink RX7 36 RX3,
  .instantiable RX3 2,
  .fieldLink RX7 39 "DrawerSlips" "pad" "LDrawerSlips$Pad;",
  .classLink RX7 43 RX4,
  .instantiable RX4 5,
  .fieldLink RX7 48 "DrawerSlips" "reader" "LDrawerSlips$Reader;",
  .instanceMethod yX1_init,
  .instanceMethod yX6_init,
  .instanceMethod yX3_init,
  .instanceMethod yX4_init,
  .code yX7_settled cX7_settled 2 (some .int),
  .instanceMethod yX1_keep,
  .selects RX1 yX1_keep yX1_keep,
  .code yX7_set cX7_set 3 (some .int),
  .instanceMethod yX1_prepare,
  .selects RX1 yX1_prepare yX1_prepare,
  .instanceMethod yX0_adjust,
  .selects RX0 yX0_adjust yX0_adjust,
  .methodLink RX7 60 yX7_settled,
  .instanceMethod yX7_settled,
  .selects RX7 yX7_settled yX7_settled,
  .code yX7_slip cX7_slip 4 (some .int),
  .instanceMethod yX0_accept,
  .selects RX0 yX0_accept yX0_accept,
  .code yX7_tear cX7_tear 2 (some .int),
  .instanceMethod yX0_tearUp,
  .selects RX0 yX0_tearUp yX0_tearUp,
  .code yX7_serveSlips cX7_serveSlips 4 (some .int),
  .methodLink RX7 84 Lib.Math.min.name,
  .constant RX7 99 (99999),
  .instanceMethod yX0_slipsThatWait,
  .selects RX0 yX0_slipsThatWait yX0_slipsThatWait,
  .instanceMethod yX0_serveNext,
  .selects RX0 yX0_serveNext yX0_serveNext,
  .code yX7_serve cX7_serve 2 (some .int),
  .methodLink RX7 71 yX7_serveSlips,
  .instanceMethod yX7_serveSlips,
  .selects RX7 yX7_serveSlips yX7_serveSlips,
  .code yX7_pass cX7_pass 2 (some .int),
  .instanceMethod yX0_stand,
  .selects RX0 yX0_stand yX0_stand,
  .code yX7_of cX7_of 4 (some .int),
  .code yX7_waiting cX7_waiting 4 (some .int),
  .instanceMethod yX0_ranked,
  .selects RX0 yX0_ranked yX0_ranked,
  .code yX7_log cX7_log 3 (some .int),
  .instanceMethod yX2_has,
  .selects RX2 yX2_has yX2_has,
  .instanceMethod yX2_numberOf,
  .selects RX2 yX2_numberOf yX2_numberOf,
  .instanceMethod yX2_waitOf,
  .selects RX2 yX2_waitOf yX2_waitOf,
  .instanceMethod yX2_sortOf,
  .selects RX2 yX2_sortOf yX2_sortOf,
  .code yX7_count cX7_count 2 (some .int),
  .instanceMethod yX0_amount,
  .selects RX0 yX0_amount yX0_amount,
  .code yX7_next cX7_next 4 (some .int),
  .code yX7_servedIn cX7_servedIn 3 (some .int),
  .code yX7_all cX7_all 4 (some .int),
  .code yX7_joined cX7_joined 5 (some .int),
  .methodLink RX7 176 yX7_isSlip,
  .code yX7_put cX7_put 3 (some .int),
  .instanceMethod yX3_append,
  .selects RX3 yX3_append yX3_append,
  .code yX7_wipe cX7_wipe 1 (some .int),
  .instanceMethod yX3_empty,
  .selects RX3 yX3_empty yX3_empty,
  .code yX7_fault cX7_fault 1 (some .int),
  .instanceMethod yX4_findFault,
  .selects RX4 yX4_findFault yX4_findFault,
  .code yX7_obey cX7_obey 1 (some .int),
  .code yX7_carryOut cX7_carryOut 2 (some .int),
  .methodLink RX7 201 yX7_obey,
  .instanceMethod yX7_obey,
  .selects RX7 yX7_obey yX7_obey,
  .code yX7_undo cX7_undo 1 (some .int),
  .instanceMethod yX1_takeBack,
  .selects RX1 yX1_takeBack yX1_takeBack,
  .code yX7_slotAt cX7_slotAt 2 (some (.object "DrawerSlips$Slot")),
  .code yX7_save cX7_save 3 (some .int),
  .methodLink RX7 217 yX7_slotAt,
  .instanceMethod yX7_slotAt,
  .selects RX7 yX7_slotAt yX7_slotAt,
  .code yX7_restore cX7_restore 3 (some .int),
  .code yJ9_abs_0f7a4 cJ9_abs_0f7a4 1 (some .int),
  .code yJ9_max_7cf53 cJ9_max_7cf53 2 (some .int),
  .code yJ9_min_7cf53 cJ9_min_7cf53 2 (some .int)] ++ (wsX00 ++ wsX10 ++ wsX20 ++ wsX30 ++ wsX40 ++ wsX50 ++ wsX60 ++ wsX70)
theorem wsM_all : wsM.all goodWord = true := by decide +kernel
theorem wsC_all : wsC.all goodWord = true := by decide +kernel
theorem uM_0 : (.code yX8_init cX8_init 1 none : Cond) ∈ wsM := List.mem_of_getElem? (i := 0) rfl
theorem uM_1 : (.methodLink RX8 1 objectInit : Cond) ∈ wsM := List.mem_of_getElem? (i := 1) rfl
theorem uM_2 : (.instanceMethod objectInit : Cond) ∈ wsM := List.mem_of_getElem? (i := 2) rfl
theorem uM_3 : (.code objectInit ⟨#[0xb1]⟩ 1 none : Cond) ∈ wsM := List.mem_of_getElem? (i := 3) rfl
theorem uM_4 : (.arrayClass .int : Cond) ∈ wsM := List.mem_of_getElem? (i := 4) rfl
theorem uM_5 : (.fieldLink RX8 7 "DrawerSlipsModel" "row" "[I" : Cond) ∈ wsM := List.mem_of_getElem? (i := 5) rfl
theorem uM_6 : (.fieldLink RX8 13 "DrawerSlipsModel" "past" "[I" : Cond) ∈ wsM := List.mem_of_getElem? (i := 6) rfl
theorem uM_7 : (.fieldLink RX8 16 "DrawerSlipsModel" "before" "[I" : Cond) ∈ wsM := List.mem_of_getElem? (i := 7) rfl
theorem uM_8 : (.fieldLink RX8 19 "DrawerSlipsModel" "aside" "[I" : Cond) ∈ wsM := List.mem_of_getElem? (i := 8) rfl
theorem uM_9 : (.fieldLink RX8 22 "DrawerSlipsModel" "slots" "[I" : Cond) ∈ wsM := List.mem_of_getElem? (i := 9) rfl
theorem uM_10 : (.arrayClass .boolean : Cond) ∈ wsM := List.mem_of_getElem? (i := 10) rfl
theorem uM_11 : (.fieldLink RX8 25 "DrawerSlipsModel" "isSaved" "[Z" : Cond) ∈ wsM := List.mem_of_getElem? (i := 11) rfl
theorem uM_12 : (.fieldLink RX8 29 "DrawerSlipsModel" "pad" "[I" : Cond) ∈ wsM := List.mem_of_getElem? (i := 12) rfl
theorem uM_13 : (.fieldLink RX8 32 "DrawerSlipsModel" "codes" "[I" : Cond) ∈ wsM := List.mem_of_getElem? (i := 13) rfl
theorem uM_14 : (.code yX8_in cX8_in 4 (some .boolean) : Cond) ∈ wsM := List.mem_of_getElem? (i := 14) rfl
theorem uM_15 : (.code yX8_far cX8_far 2 (some .int) : Cond) ∈ wsM := List.mem_of_getElem? (i := 15) rfl
theorem uM_16 : (.code yX8_its cX8_its 3 (some .int) : Cond) ∈ wsM := List.mem_of_getElem? (i := 16) rfl
theorem uM_17 : (.code yX8_lastOf cX8_lastOf 2 (some .int) : Cond) ∈ wsM := List.mem_of_getElem? (i := 17) rfl
theorem uM_18 : (.methodLink RX8 35 yX8_its : Cond) ∈ wsM := List.mem_of_getElem? (i := 18) rfl
theorem uM_19 : (.instanceMethod yX8_its : Cond) ∈ wsM := List.mem_of_getElem? (i := 19) rfl
theorem uM_20 : (.selects RX8 yX8_its yX8_its : Cond) ∈ wsM := List.mem_of_getElem? (i := 20) rfl
theorem uM_21 : (.initialized RX8 : Cond) ∈ wsM := List.mem_of_getElem? (i := 21) rfl
theorem uM_22 : (.code yX8_find cX8_find 3 (some .int) : Cond) ∈ wsM := List.mem_of_getElem? (i := 22) rfl
theorem uM_23 : (.code yX8_many cX8_many 4 (some .int) : Cond) ∈ wsM := List.mem_of_getElem? (i := 23) rfl
theorem uM_24 : (.code yX8_remember cX8_remember 2 none : Cond) ∈ wsM := List.mem_of_getElem? (i := 24) rfl
theorem uM_25 : (.code yX8_record cX8_record 3 (some .int) : Cond) ∈ wsM := List.mem_of_getElem? (i := 25) rfl
theorem uM_26 : (.fieldLink RX8 39 "DrawerSlipsModel" "states" "I" : Cond) ∈ wsM := List.mem_of_getElem? (i := 26) rfl
theorem uM_27 : (.code yX8_undo cX8_undo 2 (some .int) : Cond) ∈ wsM := List.mem_of_getElem? (i := 27) rfl
theorem uM_28 : (.code yX8_save cX8_save 3 (some .int) : Cond) ∈ wsM := List.mem_of_getElem? (i := 28) rfl
theorem uM_29 : (.methodLink RX8 43 yX8_in : Cond) ∈ wsM := List.mem_of_getElem? (i := 29) rfl
theorem uM_30 : (.static yX8_in : Cond) ∈ wsM := List.mem_of_getElem? (i := 30) rfl
theorem uM_31 : (.code yX8_restore cX8_restore 3 (some .int) : Cond) ∈ wsM := List.mem_of_getElem? (i := 31) rfl
theorem uM_32 : (.methodLink RX8 47 yX8_remember : Cond) ∈ wsM := List.mem_of_getElem? (i := 32) rfl
theorem uM_33 : (.instanceMethod yX8_remember : Cond) ∈ wsM := List.mem_of_getElem? (i := 33) rfl
theorem uM_34 : (.selects RX8 yX8_remember yX8_remember : Cond) ∈ wsM := List.mem_of_getElem? (i := 34) rfl
theorem uM_35 : (.methodLink RX8 50 yX8_record : Cond) ∈ wsM := List.mem_of_getElem? (i := 35) rfl
theorem uM_36 : (.instanceMethod yX8_record : Cond) ∈ wsM := List.mem_of_getElem? (i := 36) rfl
theorem uM_37 : (.selects RX8 yX8_record yX8_record : Cond) ∈ wsM := List.mem_of_getElem? (i := 37) rfl
theorem uM_38 : (.code yX8_layAside cX8_layAside 2 none : Cond) ∈ wsM := List.mem_of_getElem? (i := 38) rfl
theorem uM_39 : (.code yX8_putBack cX8_putBack 2 none : Cond) ∈ wsM := List.mem_of_getElem? (i := 39) rfl
theorem uM_40 : (.code yX8_lowest cX8_lowest 6 (some .int) : Cond) ∈ wsM := List.mem_of_getElem? (i := 40) rfl
theorem uM_41 : (.code yX8_oldest cX8_oldest 4 (some .int) : Cond) ∈ wsM := List.mem_of_getElem? (i := 41) rfl
theorem uM_42 : (.code yX8_isOld cX8_isOld 2 (some .boolean) : Cond) ∈ wsM := List.mem_of_getElem? (i := 42) rfl
theorem uM_43 : (.code yX8_nextSort cX8_nextSort 2 (some .int) : Cond) ∈ wsM := List.mem_of_getElem? (i := 43) rfl
theorem uM_44 : (.methodLink RX8 54 yX8_many : Cond) ∈ wsM := List.mem_of_getElem? (i := 44) rfl
theorem uM_45 : (.instanceMethod yX8_many : Cond) ∈ wsM := List.mem_of_getElem? (i := 45) rfl
theorem uM_46 : (.selects RX8 yX8_many yX8_many : Cond) ∈ wsM := List.mem_of_getElem? (i := 46) rfl
theorem uM_47 : (.code yX8_look cX8_look 2 none : Cond) ∈ wsM := List.mem_of_getElem? (i := 47) rfl
theorem uM_48 : (.fieldLink RX8 60 "DrawerSlipsModel" "place" "I" : Cond) ∈ wsM := List.mem_of_getElem? (i := 48) rfl
theorem uM_49 : (.fieldLink RX8 63 "DrawerSlipsModel" "why" "I" : Cond) ∈ wsM := List.mem_of_getElem? (i := 49) rfl
theorem uM_50 : (.methodLink RX8 57 yX8_lowest : Cond) ∈ wsM := List.mem_of_getElem? (i := 50) rfl
theorem uM_51 : (.instanceMethod yX8_lowest : Cond) ∈ wsM := List.mem_of_getElem? (i := 51) rfl
theorem uM_52 : (.selects RX8 yX8_lowest yX8_lowest : Cond) ∈ wsM := List.mem_of_getElem? (i := 52) rfl
theorem uM_53 : (.methodLink RX8 66 yX8_nextSort : Cond) ∈ wsM := List.mem_of_getElem? (i := 53) rfl
theorem uM_54 : (.instanceMethod yX8_nextSort : Cond) ∈ wsM := List.mem_of_getElem? (i := 54) rfl
theorem uM_55 : (.selects RX8 yX8_nextSort yX8_nextSort : Cond) ∈ wsM := List.mem_of_getElem? (i := 55) rfl
theorem uM_56 : (.methodLink RX8 70 yX8_oldest : Cond) ∈ wsM := List.mem_of_getElem? (i := 56) rfl
theorem uM_57 : (.instanceMethod yX8_oldest : Cond) ∈ wsM := List.mem_of_getElem? (i := 57) rfl
theorem uM_58 : (.selects RX8 yX8_oldest yX8_oldest : Cond) ∈ wsM := List.mem_of_getElem? (i := 58) rfl
theorem uM_59 : (.methodLink RX8 73 yX8_isOld : Cond) ∈ wsM := List.mem_of_getElem? (i := 59) rfl
theorem uM_60 : (.instanceMethod yX8_isOld : Cond) ∈ wsM := List.mem_of_getElem? (i := 60) rfl
theorem uM_61 : (.selects RX8 yX8_isOld yX8_isOld : Cond) ∈ wsM := List.mem_of_getElem? (i := 61) rfl
theorem uM_62 : (.code yX8_minute cX8_minute 1 (some .int) : Cond) ∈ wsM := List.mem_of_getElem? (i := 62) rfl
theorem uM_63 : (.methodLink RX8 77 yX8_far : Cond) ∈ wsM := List.mem_of_getElem? (i := 63) rfl
theorem uM_64 : (.static yX8_far : Cond) ∈ wsM := List.mem_of_getElem? (i := 64) rfl
theorem uM_65 : (.code yX8_drop cX8_drop 3 none : Cond) ∈ wsM := List.mem_of_getElem? (i := 65) rfl
theorem uM_66 : (.code yX8_note cX8_note 5 none : Cond) ∈ wsM := List.mem_of_getElem? (i := 66) rfl
theorem uM_67 : (.code yX8_serveOne cX8_serveOne 4 none : Cond) ∈ wsM := List.mem_of_getElem? (i := 67) rfl
theorem uM_68 : (.methodLink RX8 80 yX8_look : Cond) ∈ wsM := List.mem_of_getElem? (i := 68) rfl
theorem uM_69 : (.instanceMethod yX8_look : Cond) ∈ wsM := List.mem_of_getElem? (i := 69) rfl
theorem uM_70 : (.selects RX8 yX8_look yX8_look : Cond) ∈ wsM := List.mem_of_getElem? (i := 70) rfl
theorem uM_71 : (.methodLink RX8 83 yX8_minute : Cond) ∈ wsM := List.mem_of_getElem? (i := 71) rfl
theorem uM_72 : (.instanceMethod yX8_minute : Cond) ∈ wsM := List.mem_of_getElem? (i := 72) rfl
theorem uM_73 : (.selects RX8 yX8_minute yX8_minute : Cond) ∈ wsM := List.mem_of_getElem? (i := 73) rfl
theorem uM_74 : (.methodLink RX8 86 yX8_lastOf : Cond) ∈ wsM := List.mem_of_getElem? (i := 74) rfl
theorem uM_75 : (.instanceMethod yX8_lastOf : Cond) ∈ wsM := List.mem_of_getElem? (i := 75) rfl
theorem uM_76 : (.selects RX8 yX8_lastOf yX8_lastOf : Cond) ∈ wsM := List.mem_of_getElem? (i := 76) rfl
theorem uM_77 : (.methodLink RX8 89 yX8_note : Cond) ∈ wsM := List.mem_of_getElem? (i := 77) rfl
theorem uM_78 : (.instanceMethod yX8_note : Cond) ∈ wsM := List.mem_of_getElem? (i := 78) rfl
theorem uM_79 : (.selects RX8 yX8_note yX8_note : Cond) ∈ wsM := List.mem_of_getElem? (i := 79) rfl
theorem uM_80 : (.methodLink RX8 93 yX8_drop : Cond) ∈ wsM := List.mem_of_getElem? (i := 80) rfl
theorem uM_81 : (.instanceMethod yX8_drop : Cond) ∈ wsM := List.mem_of_getElem? (i := 81) rfl
theorem uM_82 : (.selects RX8 yX8_drop yX8_drop : Cond) ∈ wsM := List.mem_of_getElem? (i := 82) rfl
theorem uM_83 : (.code yX8_isSlip cX8_isSlip 3 (some .boolean) : Cond) ∈ wsM := List.mem_of_getElem? (i := 83) rfl
theorem uM_84 : (.code yX8_partner cX8_partner 5 (some .int) : Cond) ∈ wsM := List.mem_of_getElem? (i := 84) rfl
theorem uM_85 : (.code yX8_comes cX8_comes 6 (some .int) : Cond) ∈ wsM := List.mem_of_getElem? (i := 85) rfl
theorem uM_86 : (.methodLink RX8 97 yX8_isSlip : Cond) ∈ wsM := List.mem_of_getElem? (i := 86) rfl
theorem uM_87 : (.static yX8_isSlip : Cond) ∈ wsM := List.mem_of_getElem? (i := 87) rfl
theorem uM_88 : (.methodLink RX8 101 yX8_partner : Cond) ∈ wsM := List.mem_of_getElem? (i := 88) rfl
theorem uM_89 : (.instanceMethod yX8_partner : Cond) ∈ wsM := List.mem_of_getElem? (i := 89) rfl
theorem uM_90 : (.selects RX8 yX8_partner yX8_partner : Cond) ∈ wsM := List.mem_of_getElem? (i := 90) rfl
theorem uM_91 : (.code yX8_serves cX8_serves 3 (some .int) : Cond) ∈ wsM := List.mem_of_getElem? (i := 91) rfl
theorem uM_92 : (.constant RX8 111 (99999) : Cond) ∈ wsM := List.mem_of_getElem? (i := 92) rfl
theorem uM_93 : (.methodLink RX8 105 yX8_layAside : Cond) ∈ wsM := List.mem_of_getElem? (i := 93) rfl
theorem uM_94 : (.instanceMethod yX8_layAside : Cond) ∈ wsM := List.mem_of_getElem? (i := 94) rfl
theorem uM_95 : (.selects RX8 yX8_layAside yX8_layAside : Cond) ∈ wsM := List.mem_of_getElem? (i := 95) rfl
theorem uM_96 : (.methodLink RX8 108 yX8_serveOne : Cond) ∈ wsM := List.mem_of_getElem? (i := 96) rfl
theorem uM_97 : (.instanceMethod yX8_serveOne : Cond) ∈ wsM := List.mem_of_getElem? (i := 97) rfl
theorem uM_98 : (.selects RX8 yX8_serveOne yX8_serveOne : Cond) ∈ wsM := List.mem_of_getElem? (i := 98) rfl
theorem uM_99 : (.methodLink RX8 112 yX8_putBack : Cond) ∈ wsM := List.mem_of_getElem? (i := 99) rfl
theorem uM_100 : (.instanceMethod yX8_putBack : Cond) ∈ wsM := List.mem_of_getElem? (i := 100) rfl
theorem uM_101 : (.selects RX8 yX8_putBack yX8_putBack : Cond) ∈ wsM := List.mem_of_getElem? (i := 101) rfl
theorem uM_102 : (.code yX8_waits cX8_waits 2 (some .int) : Cond) ∈ wsM := List.mem_of_getElem? (i := 102) rfl
theorem uM_103 : (.code yX8_leastOf cX8_leastOf 1 (some .int) : Cond) ∈ wsM := List.mem_of_getElem? (i := 103) rfl
theorem uM_104 : (.code yX8_mostOf cX8_mostOf 1 (some .int) : Cond) ∈ wsM := List.mem_of_getElem? (i := 104) rfl
theorem uM_105 : (.code yX8_set cX8_set 4 (some .int) : Cond) ∈ wsM := List.mem_of_getElem? (i := 105) rfl
theorem uM_106 : (.methodLink RX8 115 yX8_leastOf : Cond) ∈ wsM := List.mem_of_getElem? (i := 106) rfl
theorem uM_107 : (.static yX8_leastOf : Cond) ∈ wsM := List.mem_of_getElem? (i := 107) rfl
theorem uM_108 : (.methodLink RX8 118 yX8_mostOf : Cond) ∈ wsM := List.mem_of_getElem? (i := 108) rfl
theorem uM_109 : (.static yX8_mostOf : Cond) ∈ wsM := List.mem_of_getElem? (i := 109) rfl
theorem uM_110 : (.code yX8_slip cX8_slip 4 (some .int) : Cond) ∈ wsM := List.mem_of_getElem? (i := 110) rfl
theorem uM_111 : (.methodLink RX8 121 yX8_comes : Cond) ∈ wsM := List.mem_of_getElem? (i := 111) rfl
theorem uM_112 : (.instanceMethod yX8_comes : Cond) ∈ wsM := List.mem_of_getElem? (i := 112) rfl
theorem uM_113 : (.selects RX8 yX8_comes yX8_comes : Cond) ∈ wsM := List.mem_of_getElem? (i := 113) rfl
theorem uM_114 : (.code yX8_tear cX8_tear 4 (some .int) : Cond) ∈ wsM := List.mem_of_getElem? (i := 114) rfl
theorem uM_115 : (.methodLink RX8 124 yX8_find : Cond) ∈ wsM := List.mem_of_getElem? (i := 115) rfl
theorem uM_116 : (.instanceMethod yX8_find : Cond) ∈ wsM := List.mem_of_getElem? (i := 116) rfl
theorem uM_117 : (.selects RX8 yX8_find yX8_find : Cond) ∈ wsM := List.mem_of_getElem? (i := 117) rfl
theorem uM_118 : (.code yX8_serve cX8_serve 2 (some .int) : Cond) ∈ wsM := List.mem_of_getElem? (i := 118) rfl
theorem uM_119 : (.methodLink RX8 127 yX8_serves : Cond) ∈ wsM := List.mem_of_getElem? (i := 119) rfl
theorem uM_120 : (.instanceMethod yX8_serves : Cond) ∈ wsM := List.mem_of_getElem? (i := 120) rfl
theorem uM_121 : (.selects RX8 yX8_serves yX8_serves : Cond) ∈ wsM := List.mem_of_getElem? (i := 121) rfl
theorem uM_122 : (.code yX8_pass cX8_pass 2 (some .int) : Cond) ∈ wsM := List.mem_of_getElem? (i := 122) rfl
theorem uM_123 : (.methodLink RX8 130 yX8_waits : Cond) ∈ wsM := List.mem_of_getElem? (i := 123) rfl
theorem uM_124 : (.instanceMethod yX8_waits : Cond) ∈ wsM := List.mem_of_getElem? (i := 124) rfl
theorem uM_125 : (.selects RX8 yX8_waits yX8_waits : Cond) ∈ wsM := List.mem_of_getElem? (i := 125) rfl
theorem uM_126 : (.code yX8_of cX8_of 4 (some .int) : Cond) ∈ wsM := List.mem_of_getElem? (i := 126) rfl
theorem uM_127 : (.code yX8_rank cX8_rank 5 (some .int) : Cond) ∈ wsM := List.mem_of_getElem? (i := 127) rfl
theorem uM_128 : (.code yX8_waiting cX8_waiting 4 (some .int) : Cond) ∈ wsM := List.mem_of_getElem? (i := 128) rfl
theorem uM_129 : (.methodLink RX8 133 yX8_rank : Cond) ∈ wsM := List.mem_of_getElem? (i := 129) rfl
theorem uM_130 : (.instanceMethod yX8_rank : Cond) ∈ wsM := List.mem_of_getElem? (i := 130) rfl
theorem uM_131 : (.selects RX8 yX8_rank yX8_rank : Cond) ∈ wsM := List.mem_of_getElem? (i := 131) rfl
theorem uM_132 : (.code yX8_log cX8_log 3 (some .int) : Cond) ∈ wsM := List.mem_of_getElem? (i := 132) rfl
theorem uM_133 : (.code yX8_count cX8_count 2 (some .int) : Cond) ∈ wsM := List.mem_of_getElem? (i := 133) rfl
theorem uM_134 : (.fieldLink RX8 136 "DrawerSlipsModel" "length" "I" : Cond) ∈ wsM := List.mem_of_getElem? (i := 134) rfl
theorem uM_135 : (.code yX8_next cX8_next 2 (some .int) : Cond) ∈ wsM := List.mem_of_getElem? (i := 135) rfl
theorem uM_136 : (.code yX8_servedIn cX8_servedIn 4 (some .int) : Cond) ∈ wsM := List.mem_of_getElem? (i := 136) rfl
theorem uM_137 : (.code yX8_all cX8_all 5 (some .int) : Cond) ∈ wsM := List.mem_of_getElem? (i := 137) rfl
theorem uM_138 : (.code yX8_joined cX8_joined 5 (some .int) : Cond) ∈ wsM := List.mem_of_getElem? (i := 138) rfl
theorem uM_139 : (.code yX8_put cX8_put 7 (some .int) : Cond) ∈ wsM := List.mem_of_getElem? (i := 139) rfl
theorem uM_140 : (.constantLong RX8 139 (255) : Cond) ∈ wsM := List.mem_of_getElem? (i := 140) rfl
theorem uM_141 : (.code yX8_wipe cX8_wipe 2 (some .int) : Cond) ∈ wsM := List.mem_of_getElem? (i := 141) rfl
theorem uM_142 : (.code yX8_sees cX8_sees 3 (some .boolean) : Cond) ∈ wsM := List.mem_of_getElem? (i := 142) rfl
theorem uM_143 : (.fieldLink RX8 141 "DrawerSlipsModel" "at" "I" : Cond) ∈ wsM := List.mem_of_getElem? (i := 143) rfl
theorem uM_144 : (.code yX8_number cX8_number 2 (some .int) : Cond) ∈ wsM := List.mem_of_getElem? (i := 144) rfl
theorem uM_145 : (.methodLink RX8 144 yX8_sees : Cond) ∈ wsM := List.mem_of_getElem? (i := 145) rfl
theorem uM_146 : (.instanceMethod yX8_sees : Cond) ∈ wsM := List.mem_of_getElem? (i := 146) rfl
theorem uM_147 : (.selects RX8 yX8_sees yX8_sees : Cond) ∈ wsM := List.mem_of_getElem? (i := 147) rfl
theorem uM_148 : (.code yX8_order cX8_order 6 (some .int) : Cond) ∈ wsM := List.mem_of_getElem? (i := 148) rfl
theorem uM_149 : (.methodLink RX8 148 yX8_number : Cond) ∈ wsM := List.mem_of_getElem? (i := 149) rfl
theorem uM_150 : (.instanceMethod yX8_number : Cond) ∈ wsM := List.mem_of_getElem? (i := 150) rfl
theorem uM_151 : (.selects RX8 yX8_number yX8_number : Cond) ∈ wsM := List.mem_of_getElem? (i := 151) rfl
theorem uM_152 : (.code yX8_isWell cX8_isWell 2 (some .boolean) : Cond) ∈ wsM := List.mem_of_getElem? (i := 152) rfl
theorem uM_153 : (.methodLink RX8 151 yX8_order : Cond) ∈ wsM := List.mem_of_getElem? (i := 153) rfl
theorem uM_154 : (.instanceMethod yX8_order : Cond) ∈ wsM := List.mem_of_getElem? (i := 154) rfl
theorem uM_155 : (.selects RX8 yX8_order yX8_order : Cond) ∈ wsM := List.mem_of_getElem? (i := 155) rfl
theorem uM_156 : (.code yX8_fault cX8_fault 1 (some .int) : Cond) ∈ wsM := List.mem_of_getElem? (i := 156) rfl
theorem uM_157 : (.methodLink RX8 155 yX8_isWell : Cond) ∈ wsM := List.mem_of_getElem? (i := 157) rfl
theorem uM_158 : (.instanceMethod yX8_isWell : Cond) ∈ wsM := List.mem_of_getElem? (i := 158) rfl
theorem uM_159 : (.selects RX8 yX8_isWell yX8_isWell : Cond) ∈ wsM := List.mem_of_getElem? (i := 159) rfl
theorem uM_160 : (.code yX8_carryOut cX8_carryOut 3 (some .int) : Cond) ∈ wsM := List.mem_of_getElem? (i := 160) rfl
theorem uC_0 : (.code yX2_init cX2_init 1 none : Cond) ∈ wsC := List.mem_of_getElem? (i := 0) rfl
theorem uC_1 : (.methodLink RX2 1 objectInit : Cond) ∈ wsC := List.mem_of_getElem? (i := 1) rfl
theorem uC_2 : (.instanceMethod objectInit : Cond) ∈ wsC := List.mem_of_getElem? (i := 2) rfl
theorem uC_3 : (.code objectInit ⟨#[0xb1]⟩ 1 none : Cond) ∈ wsC := List.mem_of_getElem? (i := 3) rfl
theorem uC_4 : (.arrayClass .int : Cond) ∈ wsC := List.mem_of_getElem? (i := 4) rfl
theorem uC_5 : (.fieldLink RX2 9 "DrawerSlips$Lately" "numbers" "[I" : Cond) ∈ wsC := List.mem_of_getElem? (i := 5) rfl
theorem uC_6 : (.fieldLink RX2 13 "DrawerSlips$Lately" "waits" "[I" : Cond) ∈ wsC := List.mem_of_getElem? (i := 6) rfl
theorem uC_7 : (.fieldLink RX2 16 "DrawerSlips$Lately" "sorts" "[I" : Cond) ∈ wsC := List.mem_of_getElem? (i := 7) rfl
theorem uC_8 : (.code yX7_copyRow cX7_copyRow 3 none : Cond) ∈ wsC := List.mem_of_getElem? (i := 8) rfl
theorem uC_9 : (.code yX5_init cX5_init 2 none : Cond) ∈ wsC := List.mem_of_getElem? (i := 9) rfl
theorem uC_10 : (.methodLink RX5 1 objectInit : Cond) ∈ wsC := List.mem_of_getElem? (i := 10) rfl
theorem uC_11 : (.fieldLink RX5 7 "DrawerSlips$Slip" "rest" "LDrawerSlips$Slip;" : Cond) ∈ wsC := List.mem_of_getElem? (i := 11) rfl
theorem uC_12 : (.code yX0_init cX0_init 3 none : Cond) ∈ wsC := List.mem_of_getElem? (i := 12) rfl
theorem uC_13 : (.methodLink RX0 3 objectInit : Cond) ∈ wsC := List.mem_of_getElem? (i := 13) rfl
theorem uC_14 : (.fieldLink RX0 13 "DrawerSlips$Archive" "settings" "[I" : Cond) ∈ wsC := List.mem_of_getElem? (i := 14) rfl
theorem uC_15 : (.classLink RX0 18 RX2 : Cond) ∈ wsC := List.mem_of_getElem? (i := 15) rfl
theorem uC_16 : (.instantiable RX2 4 : Cond) ∈ wsC := List.mem_of_getElem? (i := 16) rfl
theorem uC_17 : (.initialized RX2 : Cond) ∈ wsC := List.mem_of_getElem? (i := 17) rfl
theorem uC_18 : (.fieldLink RX0 21 "DrawerSlips$Archive" "lately" "LDrawerSlips$Lately;" : Cond) ∈ wsC := List.mem_of_getElem? (i := 18) rfl
theorem uC_19 : (.classLink RX0 29 RX5 : Cond) ∈ wsC := List.mem_of_getElem? (i := 19) rfl
theorem uC_20 : (.instantiable RX5 8 : Cond) ∈ wsC := List.mem_of_getElem? (i := 20) rfl
theorem uC_21 : (.initialized RX5 : Cond) ∈ wsC := List.mem_of_getElem? (i := 21) rfl
theorem uC_22 : (.fieldLink RX0 34 "DrawerSlips$Archive" "places" "LDrawerSlips$Slip;" : Cond) ∈ wsC := List.mem_of_getElem? (i := 22) rfl
theorem uC_23 : (.instanceMethod yX2_init : Cond) ∈ wsC := List.mem_of_getElem? (i := 23) rfl
theorem uC_24 : (.static yX7_copyRow : Cond) ∈ wsC := List.mem_of_getElem? (i := 24) rfl
theorem uC_25 : (.initialized RX7 : Cond) ∈ wsC := List.mem_of_getElem? (i := 25) rfl
theorem uC_26 : (.instanceMethod yX5_init : Cond) ∈ wsC := List.mem_of_getElem? (i := 26) rfl
theorem uC_27 : (.code yX5_copyFrom cX5_copyFrom 2 none : Cond) ∈ wsC := List.mem_of_getElem? (i := 27) rfl
theorem uC_28 : (.fieldLink RX5 13 "DrawerSlips$Slip" "waits" "Z" : Cond) ∈ wsC := List.mem_of_getElem? (i := 28) rfl
theorem uC_29 : (.fieldLink RX5 17 "DrawerSlips$Slip" "number" "I" : Cond) ∈ wsC := List.mem_of_getElem? (i := 29) rfl
theorem uC_30 : (.fieldLink RX5 21 "DrawerSlips$Slip" "writes" "I" : Cond) ∈ wsC := List.mem_of_getElem? (i := 30) rfl
theorem uC_31 : (.fieldLink RX5 24 "DrawerSlips$Slip" "first" "I" : Cond) ∈ wsC := List.mem_of_getElem? (i := 31) rfl
theorem uC_32 : (.fieldLink RX5 27 "DrawerSlips$Slip" "many" "I" : Cond) ∈ wsC := List.mem_of_getElem? (i := 32) rfl
theorem uC_33 : (.fieldLink RX5 30 "DrawerSlips$Slip" "came" "I" : Cond) ∈ wsC := List.mem_of_getElem? (i := 33) rfl
theorem uC_34 : (.fieldLink RX5 33 "DrawerSlips$Slip" "joins" "I" : Cond) ∈ wsC := List.mem_of_getElem? (i := 34) rfl
theorem uC_35 : (.code yX2_copyFrom cX2_copyFrom 2 none : Cond) ∈ wsC := List.mem_of_getElem? (i := 35) rfl
theorem uC_36 : (.fieldLink RX2 25 "DrawerSlips$Lately" "served" "I" : Cond) ∈ wsC := List.mem_of_getElem? (i := 36) rfl
theorem uC_37 : (.code yX0_copyFrom cX0_copyFrom 4 none : Cond) ∈ wsC := List.mem_of_getElem? (i := 37) rfl
theorem uC_38 : (.fieldLink RX0 47 "DrawerSlips$Archive" "readsWaiting" "I" : Cond) ∈ wsC := List.mem_of_getElem? (i := 38) rfl
theorem uC_39 : (.fieldLink RX0 51 "DrawerSlips$Archive" "writesWaiting" "I" : Cond) ∈ wsC := List.mem_of_getElem? (i := 39) rfl
theorem uC_40 : (.fieldLink RX0 54 "DrawerSlips$Archive" "nextNumber" "I" : Cond) ∈ wsC := List.mem_of_getElem? (i := 40) rfl
theorem uC_41 : (.fieldLink RX0 57 "DrawerSlips$Archive" "now" "I" : Cond) ∈ wsC := List.mem_of_getElem? (i := 41) rfl
theorem uC_42 : (.fieldLink RX0 60 "DrawerSlips$Archive" "arm" "I" : Cond) ∈ wsC := List.mem_of_getElem? (i := 42) rfl
theorem uC_43 : (.fieldLink RX0 63 "DrawerSlips$Archive" "longestWait" "I" : Cond) ∈ wsC := List.mem_of_getElem? (i := 43) rfl
theorem uC_44 : (.fieldLink RX0 66 "DrawerSlips$Archive" "drawersGone" "I" : Cond) ∈ wsC := List.mem_of_getElem? (i := 44) rfl
theorem uC_45 : (.fieldLink RX0 69 "DrawerSlips$Archive" "batches" "I" : Cond) ∈ wsC := List.mem_of_getElem? (i := 45) rfl
theorem uC_46 : (.fieldLink RX0 72 "DrawerSlips$Archive" "batchSort" "I" : Cond) ∈ wsC := List.mem_of_getElem? (i := 46) rfl
theorem uC_47 : (.fieldLink RX0 75 "DrawerSlips$Archive" "batchSlips" "I" : Cond) ∈ wsC := List.mem_of_getElem? (i := 47) rfl
theorem uC_48 : (.fieldLink RX0 78 "DrawerSlips$Archive" "readsAhead" "I" : Cond) ∈ wsC := List.mem_of_getElem? (i := 48) rfl
theorem uC_49 : (.instanceMethod yX5_copyFrom : Cond) ∈ wsC := List.mem_of_getElem? (i := 49) rfl
theorem uC_50 : (.selects RX5 yX5_copyFrom yX5_copyFrom : Cond) ∈ wsC := List.mem_of_getElem? (i := 50) rfl
theorem uC_51 : (.instanceMethod yX2_copyFrom : Cond) ∈ wsC := List.mem_of_getElem? (i := 51) rfl
theorem uC_52 : (.selects RX2 yX2_copyFrom yX2_copyFrom : Cond) ∈ wsC := List.mem_of_getElem? (i := 52) rfl
theorem uC_53 : (.code yX7_isIndexOf cX7_isIndexOf 2 (some .boolean) : Cond) ∈ wsC := List.mem_of_getElem? (i := 53) rfl
theorem uC_54 : (.code yX7_valueAt cX7_valueAt 2 (some .int) : Cond) ∈ wsC := List.mem_of_getElem? (i := 54) rfl
theorem uC_55 : (.code yX0_adjust cX0_adjust 4 (some .int) : Cond) ∈ wsC := List.mem_of_getElem? (i := 55) rfl
theorem uC_56 : (.static yX7_isIndexOf : Cond) ∈ wsC := List.mem_of_getElem? (i := 56) rfl
theorem uC_57 : (.static yX7_valueAt : Cond) ∈ wsC := List.mem_of_getElem? (i := 57) rfl
theorem uC_58 : (.code yX7_isSlip cX7_isSlip 3 (some .boolean) : Cond) ∈ wsC := List.mem_of_getElem? (i := 58) rfl
theorem uC_59 : (.code yX5_isOfSort cX5_isOfSort 2 (some .boolean) : Cond) ∈ wsC := List.mem_of_getElem? (i := 59) rfl
theorem uC_60 : (.code yX5_last cX5_last 1 (some .int) : Cond) ∈ wsC := List.mem_of_getElem? (i := 60) rfl
theorem uC_61 : (.code yX0_hostFor cX0_hostFor 7 (some (.object "DrawerSlips$Slip")) : Cond) ∈ wsC := List.mem_of_getElem? (i := 61) rfl
theorem uC_62 : (.instanceMethod yX5_isOfSort : Cond) ∈ wsC := List.mem_of_getElem? (i := 62) rfl
theorem uC_63 : (.selects RX5 yX5_isOfSort yX5_isOfSort : Cond) ∈ wsC := List.mem_of_getElem? (i := 63) rfl
theorem uC_64 : (.instanceMethod yX5_last : Cond) ∈ wsC := List.mem_of_getElem? (i := 64) rfl
theorem uC_65 : (.selects RX5 yX5_last yX5_last : Cond) ∈ wsC := List.mem_of_getElem? (i := 65) rfl
theorem uC_66 : (.code yX0_freePlace cX0_freePlace 2 (some (.object "DrawerSlips$Slip")) : Cond) ∈ wsC := List.mem_of_getElem? (i := 66) rfl
theorem uC_67 : (.code yX0_countWaiting cX0_countWaiting 3 none : Cond) ∈ wsC := List.mem_of_getElem? (i := 67) rfl
theorem uC_68 : (.code yX0_accept cX0_accept 6 (some .int) : Cond) ∈ wsC := List.mem_of_getElem? (i := 68) rfl
theorem uC_69 : (.static yX7_isSlip : Cond) ∈ wsC := List.mem_of_getElem? (i := 69) rfl
theorem uC_70 : (.methodLink RX0 99 yX0_hostFor : Cond) ∈ wsC := List.mem_of_getElem? (i := 70) rfl
theorem uC_71 : (.instanceMethod yX0_hostFor : Cond) ∈ wsC := List.mem_of_getElem? (i := 71) rfl
theorem uC_72 : (.selects RX0 yX0_hostFor yX0_hostFor : Cond) ∈ wsC := List.mem_of_getElem? (i := 72) rfl
theorem uC_73 : (.initialized RX0 : Cond) ∈ wsC := List.mem_of_getElem? (i := 73) rfl
theorem uC_74 : (.methodLink RX0 112 yX0_freePlace : Cond) ∈ wsC := List.mem_of_getElem? (i := 74) rfl
theorem uC_75 : (.instanceMethod yX0_freePlace : Cond) ∈ wsC := List.mem_of_getElem? (i := 75) rfl
theorem uC_76 : (.selects RX0 yX0_freePlace yX0_freePlace : Cond) ∈ wsC := List.mem_of_getElem? (i := 76) rfl
theorem uC_77 : (.methodLink RX0 129 yX0_countWaiting : Cond) ∈ wsC := List.mem_of_getElem? (i := 77) rfl
theorem uC_78 : (.instanceMethod yX0_countWaiting : Cond) ∈ wsC := List.mem_of_getElem? (i := 78) rfl
theorem uC_79 : (.selects RX0 yX0_countWaiting yX0_countWaiting : Cond) ∈ wsC := List.mem_of_getElem? (i := 79) rfl
theorem uC_80 : (.code yX0_find cX0_find 3 (some (.object "DrawerSlips$Slip")) : Cond) ∈ wsC := List.mem_of_getElem? (i := 80) rfl
theorem uC_81 : (.code yX0_remove cX0_remove 2 none : Cond) ∈ wsC := List.mem_of_getElem? (i := 81) rfl
theorem uC_82 : (.code yX0_age cX0_age 2 (some .int) : Cond) ∈ wsC := List.mem_of_getElem? (i := 82) rfl
theorem uC_83 : (.code yX0_tearUp cX0_tearUp 3 (some .int) : Cond) ∈ wsC := List.mem_of_getElem? (i := 83) rfl
theorem uC_84 : (.methodLink RX0 133 yX0_find : Cond) ∈ wsC := List.mem_of_getElem? (i := 84) rfl
theorem uC_85 : (.instanceMethod yX0_find : Cond) ∈ wsC := List.mem_of_getElem? (i := 85) rfl
theorem uC_86 : (.selects RX0 yX0_find yX0_find : Cond) ∈ wsC := List.mem_of_getElem? (i := 86) rfl
theorem uC_87 : (.methodLink RX0 137 yX0_remove : Cond) ∈ wsC := List.mem_of_getElem? (i := 87) rfl
theorem uC_88 : (.instanceMethod yX0_remove : Cond) ∈ wsC := List.mem_of_getElem? (i := 88) rfl
theorem uC_89 : (.selects RX0 yX0_remove yX0_remove : Cond) ∈ wsC := List.mem_of_getElem? (i := 89) rfl
theorem uC_90 : (.methodLink RX0 140 yX0_age : Cond) ∈ wsC := List.mem_of_getElem? (i := 90) rfl
theorem uC_91 : (.instanceMethod yX0_age : Cond) ∈ wsC := List.mem_of_getElem? (i := 91) rfl
theorem uC_92 : (.selects RX0 yX0_age yX0_age : Cond) ∈ wsC := List.mem_of_getElem? (i := 92) rfl
theorem uC_93 : (.code yX0_stand cX0_stand 2 (some .int) : Cond) ∈ wsC := List.mem_of_getElem? (i := 93) rfl
theorem uC_94 : (.constant RX0 144 (99999) : Cond) ∈ wsC := List.mem_of_getElem? (i := 94) rfl
theorem uC_95 : (.code yX0_slipsThatWait cX0_slipsThatWait 1 (some .int) : Cond) ∈ wsC := List.mem_of_getElem? (i := 95) rfl
theorem uC_96 : (.code yX5_isAheadOf cX5_isAheadOf 2 (some .boolean) : Cond) ∈ wsC := List.mem_of_getElem? (i := 96) rfl
theorem uC_97 : (.code yX0_slipsAheadOf cX0_slipsAheadOf 4 (some .int) : Cond) ∈ wsC := List.mem_of_getElem? (i := 97) rfl
theorem uC_98 : (.instanceMethod yX5_isAheadOf : Cond) ∈ wsC := List.mem_of_getElem? (i := 98) rfl
theorem uC_99 : (.selects RX5 yX5_isAheadOf yX5_isAheadOf : Cond) ∈ wsC := List.mem_of_getElem? (i := 99) rfl
theorem uC_100 : (.code yX0_ranked cX0_ranked 4 (some (.object "DrawerSlips$Slip")) : Cond) ∈ wsC := List.mem_of_getElem? (i := 100) rfl
theorem uC_101 : (.methodLink RX0 153 yX0_slipsAheadOf : Cond) ∈ wsC := List.mem_of_getElem? (i := 101) rfl
theorem uC_102 : (.instanceMethod yX0_slipsAheadOf : Cond) ∈ wsC := List.mem_of_getElem? (i := 102) rfl
theorem uC_103 : (.selects RX0 yX0_slipsAheadOf yX0_slipsAheadOf : Cond) ∈ wsC := List.mem_of_getElem? (i := 103) rfl
theorem uC_104 : (.code yX0_isTooOld cX0_isTooOld 2 (some .boolean) : Cond) ∈ wsC := List.mem_of_getElem? (i := 104) rfl
theorem uC_105 : (.code yX0_amount cX0_amount 2 (some .int) : Cond) ∈ wsC := List.mem_of_getElem? (i := 105) rfl
theorem uC_106 : (.code yX0_leastFrom cX0_leastFrom 5 (some (.object "DrawerSlips$Slip")) : Cond) ∈ wsC := List.mem_of_getElem? (i := 106) rfl
theorem uC_107 : (.code yX0_newSort cX0_newSort 1 (some .int) : Cond) ∈ wsC := List.mem_of_getElem? (i := 107) rfl
theorem uC_108 : (.code yX0_oldest cX0_oldest 4 (some (.object "DrawerSlips$Slip")) : Cond) ∈ wsC := List.mem_of_getElem? (i := 108) rfl
theorem uC_109 : (.code yX0_reason cX0_reason 4 (some .int) : Cond) ∈ wsC := List.mem_of_getElem? (i := 109) rfl
theorem uC_110 : (.methodLink RX0 163 yX0_leastFrom : Cond) ∈ wsC := List.mem_of_getElem? (i := 110) rfl
theorem uC_111 : (.instanceMethod yX0_leastFrom : Cond) ∈ wsC := List.mem_of_getElem? (i := 111) rfl
theorem uC_112 : (.selects RX0 yX0_leastFrom yX0_leastFrom : Cond) ∈ wsC := List.mem_of_getElem? (i := 112) rfl
theorem uC_113 : (.methodLink RX0 167 yX0_newSort : Cond) ∈ wsC := List.mem_of_getElem? (i := 113) rfl
theorem uC_114 : (.instanceMethod yX0_newSort : Cond) ∈ wsC := List.mem_of_getElem? (i := 114) rfl
theorem uC_115 : (.selects RX0 yX0_newSort yX0_newSort : Cond) ∈ wsC := List.mem_of_getElem? (i := 115) rfl
theorem uC_116 : (.methodLink RX0 170 yX0_oldest : Cond) ∈ wsC := List.mem_of_getElem? (i := 116) rfl
theorem uC_117 : (.instanceMethod yX0_oldest : Cond) ∈ wsC := List.mem_of_getElem? (i := 117) rfl
theorem uC_118 : (.selects RX0 yX0_oldest yX0_oldest : Cond) ∈ wsC := List.mem_of_getElem? (i := 118) rfl
theorem uC_119 : (.methodLink RX0 173 yX0_isTooOld : Cond) ∈ wsC := List.mem_of_getElem? (i := 119) rfl
theorem uC_120 : (.instanceMethod yX0_isTooOld : Cond) ∈ wsC := List.mem_of_getElem? (i := 120) rfl
theorem uC_121 : (.selects RX0 yX0_isTooOld yX0_isTooOld : Cond) ∈ wsC := List.mem_of_getElem? (i := 121) rfl
theorem uC_122 : (.code yX0_chosen cX0_chosen 2 (some (.object "DrawerSlips$Slip")) : Cond) ∈ wsC := List.mem_of_getElem? (i := 122) rfl
theorem uC_123 : (.code yX0_drawersTo cX0_drawersTo 2 (some .int) : Cond) ∈ wsC := List.mem_of_getElem? (i := 123) rfl
theorem uC_124 : (.methodLink RX0 176 Lib.Math.abs.name : Cond) ∈ wsC := List.mem_of_getElem? (i := 124) rfl
theorem uC_125 : (.static Lib.Math.abs.name : Cond) ∈ wsC := List.mem_of_getElem? (i := 125) rfl
theorem uC_126 : (.initialized "java/lang/Math" : Cond) ∈ wsC := List.mem_of_getElem? (i := 126) rfl
theorem uC_127 : (.code Lib.Math.abs.name Lib.Math.abs.code 1 (some .int) : Cond) ∈ wsC := List.mem_of_getElem? (i := 127) rfl
theorem uC_128 : (.code yX0_minutesFor cX0_minutesFor 2 (some .int) : Cond) ∈ wsC := List.mem_of_getElem? (i := 128) rfl
theorem uC_129 : (.methodLink RX0 182 yX0_drawersTo : Cond) ∈ wsC := List.mem_of_getElem? (i := 129) rfl
theorem uC_130 : (.instanceMethod yX0_drawersTo : Cond) ∈ wsC := List.mem_of_getElem? (i := 130) rfl
theorem uC_131 : (.selects RX0 yX0_drawersTo yX0_drawersTo : Cond) ∈ wsC := List.mem_of_getElem? (i := 131) rfl
theorem uC_132 : (.code yX0_beginBatch cX0_beginBatch 2 none : Cond) ∈ wsC := List.mem_of_getElem? (i := 132) rfl
theorem uC_133 : (.code yX2_append cX2_append 5 none : Cond) ∈ wsC := List.mem_of_getElem? (i := 133) rfl
theorem uC_134 : (.code yX0_serveNext cX0_serveNext 3 none : Cond) ∈ wsC := List.mem_of_getElem? (i := 134) rfl
theorem uC_135 : (.methodLink RX0 198 Lib.Math.min.name : Cond) ∈ wsC := List.mem_of_getElem? (i := 135) rfl
theorem uC_136 : (.static Lib.Math.min.name : Cond) ∈ wsC := List.mem_of_getElem? (i := 136) rfl
theorem uC_137 : (.code Lib.Math.min.name Lib.Math.min.code 2 (some .int) : Cond) ∈ wsC := List.mem_of_getElem? (i := 137) rfl
theorem uC_138 : (.methodLink RX0 202 Lib.Math.max.name : Cond) ∈ wsC := List.mem_of_getElem? (i := 138) rfl
theorem uC_139 : (.static Lib.Math.max.name : Cond) ∈ wsC := List.mem_of_getElem? (i := 139) rfl
theorem uC_140 : (.code Lib.Math.max.name Lib.Math.max.code 2 (some .int) : Cond) ∈ wsC := List.mem_of_getElem? (i := 140) rfl
theorem uC_141 : (.methodLink RX0 185 yX0_reason : Cond) ∈ wsC := List.mem_of_getElem? (i := 141) rfl
theorem uC_142 : (.instanceMethod yX0_reason : Cond) ∈ wsC := List.mem_of_getElem? (i := 142) rfl
theorem uC_143 : (.selects RX0 yX0_reason yX0_reason : Cond) ∈ wsC := List.mem_of_getElem? (i := 143) rfl
theorem uC_144 : (.methodLink RX0 188 yX0_chosen : Cond) ∈ wsC := List.mem_of_getElem? (i := 144) rfl
theorem uC_145 : (.instanceMethod yX0_chosen : Cond) ∈ wsC := List.mem_of_getElem? (i := 145) rfl
theorem uC_146 : (.selects RX0 yX0_chosen yX0_chosen : Cond) ∈ wsC := List.mem_of_getElem? (i := 146) rfl
theorem uC_147 : (.methodLink RX0 191 yX0_beginBatch : Cond) ∈ wsC := List.mem_of_getElem? (i := 147) rfl
theorem uC_148 : (.instanceMethod yX0_beginBatch : Cond) ∈ wsC := List.mem_of_getElem? (i := 148) rfl
theorem uC_149 : (.selects RX0 yX0_beginBatch yX0_beginBatch : Cond) ∈ wsC := List.mem_of_getElem? (i := 149) rfl
theorem uC_150 : (.methodLink RX0 195 yX0_minutesFor : Cond) ∈ wsC := List.mem_of_getElem? (i := 150) rfl
theorem uC_151 : (.instanceMethod yX0_minutesFor : Cond) ∈ wsC := List.mem_of_getElem? (i := 151) rfl
theorem uC_152 : (.selects RX0 yX0_minutesFor yX0_minutesFor : Cond) ∈ wsC := List.mem_of_getElem? (i := 152) rfl
theorem uC_153 : (.instanceMethod yX2_append : Cond) ∈ wsC := List.mem_of_getElem? (i := 153) rfl
theorem uC_154 : (.selects RX2 yX2_append yX2_append : Cond) ∈ wsC := List.mem_of_getElem? (i := 154) rfl
theorem uC_155 : (.code yX1_init cX1_init 2 none : Cond) ∈ wsC := List.mem_of_getElem? (i := 155) rfl
theorem uC_156 : (.methodLink RX1 3 objectInit : Cond) ∈ wsC := List.mem_of_getElem? (i := 156) rfl
theorem uC_157 : (.classLink RX1 9 RX0 : Cond) ∈ wsC := List.mem_of_getElem? (i := 157) rfl
theorem uC_158 : (.fieldLink RX1 11 "DrawerSlips$History" "states" "[LDrawerSlips$Archive;" : Cond) ∈ wsC := List.mem_of_getElem? (i := 158) rfl
theorem uC_159 : (.instantiable RX0 14 : Cond) ∈ wsC := List.mem_of_getElem? (i := 159) rfl
theorem uC_160 : (.instanceMethod yX0_init : Cond) ∈ wsC := List.mem_of_getElem? (i := 160) rfl
theorem uC_161 : (.code yX1_stateAt cX1_stateAt 2 (some (.object "DrawerSlips$Archive")) : Cond) ∈ wsC := List.mem_of_getElem? (i := 161) rfl
theorem uC_162 : (.code yX1_prepare cX1_prepare 3 none : Cond) ∈ wsC := List.mem_of_getElem? (i := 162) rfl
theorem uC_163 : (.fieldLink RX1 16 "DrawerSlips$History" "place" "I" : Cond) ∈ wsC := List.mem_of_getElem? (i := 163) rfl
theorem uC_164 : (.methodLink RX1 20 yX1_stateAt : Cond) ∈ wsC := List.mem_of_getElem? (i := 164) rfl
theorem uC_165 : (.instanceMethod yX1_stateAt : Cond) ∈ wsC := List.mem_of_getElem? (i := 165) rfl
theorem uC_166 : (.selects RX1 yX1_stateAt yX1_stateAt : Cond) ∈ wsC := List.mem_of_getElem? (i := 166) rfl
theorem uC_167 : (.initialized RX1 : Cond) ∈ wsC := List.mem_of_getElem? (i := 167) rfl
theorem uC_168 : (.instanceMethod yX0_copyFrom : Cond) ∈ wsC := List.mem_of_getElem? (i := 168) rfl
theorem uC_169 : (.selects RX0 yX0_copyFrom yX0_copyFrom : Cond) ∈ wsC := List.mem_of_getElem? (i := 169) rfl
theorem uC_170 : (.code yX1_keep cX1_keep 1 none : Cond) ∈ wsC := List.mem_of_getElem? (i := 170) rfl
theorem uC_171 : (.fieldLink RX1 28 "DrawerSlips$History" "kept" "I" : Cond) ∈ wsC := List.mem_of_getElem? (i := 171) rfl
theorem uC_172 : (.methodLink RX1 31 Lib.Math.min.name : Cond) ∈ wsC := List.mem_of_getElem? (i := 172) rfl
theorem uC_173 : (.code yX1_takeBack cX1_takeBack 3 none : Cond) ∈ wsC := List.mem_of_getElem? (i := 173) rfl
theorem uC_174 : (.code yX2_has cX2_has 2 (some .boolean) : Cond) ∈ wsC := List.mem_of_getElem? (i := 174) rfl
theorem uC_175 : (.code yX2_place cX2_place 2 (some .int) : Cond) ∈ wsC := List.mem_of_getElem? (i := 175) rfl
theorem uC_176 : (.code yX2_numberOf cX2_numberOf 2 (some .int) : Cond) ∈ wsC := List.mem_of_getElem? (i := 176) rfl
theorem uC_177 : (.methodLink RX2 33 yX2_place : Cond) ∈ wsC := List.mem_of_getElem? (i := 177) rfl
theorem uC_178 : (.instanceMethod yX2_place : Cond) ∈ wsC := List.mem_of_getElem? (i := 178) rfl
theorem uC_179 : (.selects RX2 yX2_place yX2_place : Cond) ∈ wsC := List.mem_of_getElem? (i := 179) rfl
theorem uC_180 : (.code yX2_waitOf cX2_waitOf 2 (some .int) : Cond) ∈ wsC := List.mem_of_getElem? (i := 180) rfl
theorem uC_181 : (.code yX2_sortOf cX2_sortOf 2 (some .int) : Cond) ∈ wsC := List.mem_of_getElem? (i := 181) rfl
theorem uC_182 : (.code yX3_init cX3_init 1 none : Cond) ∈ wsC := List.mem_of_getElem? (i := 182) rfl
theorem uC_183 : (.methodLink RX3 3 objectInit : Cond) ∈ wsC := List.mem_of_getElem? (i := 183) rfl
theorem uC_184 : (.fieldLink RX3 11 "DrawerSlips$Pad" "signs" "[I" : Cond) ∈ wsC := List.mem_of_getElem? (i := 184) rfl
theorem uC_185 : (.code yX3_signAt cX3_signAt 2 (some .int) : Cond) ∈ wsC := List.mem_of_getElem? (i := 185) rfl
theorem uC_186 : (.fieldLink RX3 15 "DrawerSlips$Pad" "length" "I" : Cond) ∈ wsC := List.mem_of_getElem? (i := 186) rfl
theorem uC_187 : (.code yX3_signsIn cX3_signsIn 6 (some .int) : Cond) ∈ wsC := List.mem_of_getElem? (i := 187) rfl
theorem uC_188 : (.code yX3_add cX3_add 2 none : Cond) ∈ wsC := List.mem_of_getElem? (i := 188) rfl
theorem uC_189 : (.code yX3_append cX3_append 5 (some .int) : Cond) ∈ wsC := List.mem_of_getElem? (i := 189) rfl
theorem uC_190 : (.methodLink RX3 23 yX3_signsIn : Cond) ∈ wsC := List.mem_of_getElem? (i := 190) rfl
theorem uC_191 : (.static yX3_signsIn : Cond) ∈ wsC := List.mem_of_getElem? (i := 191) rfl
theorem uC_192 : (.initialized RX3 : Cond) ∈ wsC := List.mem_of_getElem? (i := 192) rfl
theorem uC_193 : (.methodLink RX3 27 yX3_add : Cond) ∈ wsC := List.mem_of_getElem? (i := 193) rfl
theorem uC_194 : (.instanceMethod yX3_add : Cond) ∈ wsC := List.mem_of_getElem? (i := 194) rfl
theorem uC_195 : (.selects RX3 yX3_add yX3_add : Cond) ∈ wsC := List.mem_of_getElem? (i := 195) rfl
theorem uC_196 : (.code yX3_empty cX3_empty 2 (some .int) : Cond) ∈ wsC := List.mem_of_getElem? (i := 196) rfl
theorem uC_197 : (.code yX4_init cX4_init 2 none : Cond) ∈ wsC := List.mem_of_getElem? (i := 197) rfl
theorem uC_198 : (.methodLink RX4 3 objectInit : Cond) ∈ wsC := List.mem_of_getElem? (i := 198) rfl
theorem uC_199 : (.fieldLink RX4 9 "DrawerSlips$Reader" "pad" "LDrawerSlips$Pad;" : Cond) ∈ wsC := List.mem_of_getElem? (i := 199) rfl
theorem uC_200 : (.code yX4_begin cX4_begin 1 none : Cond) ∈ wsC := List.mem_of_getElem? (i := 200) rfl
theorem uC_201 : (.fieldLink RX4 15 "DrawerSlips$Reader" "at" "I" : Cond) ∈ wsC := List.mem_of_getElem? (i := 201) rfl
theorem uC_202 : (.code yX4_isDigitNext cX4_isDigitNext 2 (some .boolean) : Cond) ∈ wsC := List.mem_of_getElem? (i := 202) rfl
theorem uC_203 : (.instanceMethod yX3_signAt : Cond) ∈ wsC := List.mem_of_getElem? (i := 203) rfl
theorem uC_204 : (.selects RX3 yX3_signAt yX3_signAt : Cond) ∈ wsC := List.mem_of_getElem? (i := 204) rfl
theorem uC_205 : (.code yX4_takeDigit cX4_takeDigit 2 (some .int) : Cond) ∈ wsC := List.mem_of_getElem? (i := 205) rfl
theorem uC_206 : (.code yX4_readNumber cX4_readNumber 1 (some .boolean) : Cond) ∈ wsC := List.mem_of_getElem? (i := 206) rfl
theorem uC_207 : (.fieldLink RX4 57 "DrawerSlips$Reader" "number" "I" : Cond) ∈ wsC := List.mem_of_getElem? (i := 207) rfl
theorem uC_208 : (.methodLink RX4 50 yX4_isDigitNext : Cond) ∈ wsC := List.mem_of_getElem? (i := 208) rfl
theorem uC_209 : (.instanceMethod yX4_isDigitNext : Cond) ∈ wsC := List.mem_of_getElem? (i := 209) rfl
theorem uC_210 : (.selects RX4 yX4_isDigitNext yX4_isDigitNext : Cond) ∈ wsC := List.mem_of_getElem? (i := 210) rfl
theorem uC_211 : (.initialized RX4 : Cond) ∈ wsC := List.mem_of_getElem? (i := 211) rfl
theorem uC_212 : (.methodLink RX4 53 yX4_takeDigit : Cond) ∈ wsC := List.mem_of_getElem? (i := 212) rfl
theorem uC_213 : (.instanceMethod yX4_takeDigit : Cond) ∈ wsC := List.mem_of_getElem? (i := 213) rfl
theorem uC_214 : (.selects RX4 yX4_takeDigit yX4_takeDigit : Cond) ∈ wsC := List.mem_of_getElem? (i := 214) rfl
theorem uC_215 : (.code yX4_readMore cX4_readMore 1 (some .boolean) : Cond) ∈ wsC := List.mem_of_getElem? (i := 215) rfl
theorem uC_216 : (.fieldLink RX4 41 "DrawerSlips$Reader" "more" "I" : Cond) ∈ wsC := List.mem_of_getElem? (i := 216) rfl
theorem uC_217 : (.code yX4_readOrder cX4_readOrder 2 (some .boolean) : Cond) ∈ wsC := List.mem_of_getElem? (i := 217) rfl
theorem uC_218 : (.fieldLink RX4 38 "DrawerSlips$Reader" "kind" "I" : Cond) ∈ wsC := List.mem_of_getElem? (i := 218) rfl
theorem uC_219 : (.methodLink RX4 44 yX4_readNumber : Cond) ∈ wsC := List.mem_of_getElem? (i := 219) rfl
theorem uC_220 : (.instanceMethod yX4_readNumber : Cond) ∈ wsC := List.mem_of_getElem? (i := 220) rfl
theorem uC_221 : (.selects RX4 yX4_readNumber yX4_readNumber : Cond) ∈ wsC := List.mem_of_getElem? (i := 221) rfl
theorem uC_222 : (.methodLink RX4 47 yX4_readMore : Cond) ∈ wsC := List.mem_of_getElem? (i := 222) rfl
theorem uC_223 : (.instanceMethod yX4_readMore : Cond) ∈ wsC := List.mem_of_getElem? (i := 223) rfl
theorem uC_224 : (.selects RX4 yX4_readMore yX4_readMore : Cond) ∈ wsC := List.mem_of_getElem? (i := 224) rfl
theorem uC_225 : (.code yX4_skipSemicolon cX4_skipSemicolon 1 none : Cond) ∈ wsC := List.mem_of_getElem? (i := 225) rfl
theorem uC_226 : (.code yX4_findFault cX4_findFault 2 (some .int) : Cond) ∈ wsC := List.mem_of_getElem? (i := 226) rfl
theorem uC_227 : (.methodLink RX4 19 yX4_begin : Cond) ∈ wsC := List.mem_of_getElem? (i := 227) rfl
theorem uC_228 : (.instanceMethod yX4_begin : Cond) ∈ wsC := List.mem_of_getElem? (i := 228) rfl
theorem uC_229 : (.selects RX4 yX4_begin yX4_begin : Cond) ∈ wsC := List.mem_of_getElem? (i := 229) rfl
theorem uC_230 : (.methodLink RX4 22 yX4_readOrder : Cond) ∈ wsC := List.mem_of_getElem? (i := 230) rfl
theorem uC_231 : (.instanceMethod yX4_readOrder : Cond) ∈ wsC := List.mem_of_getElem? (i := 231) rfl
theorem uC_232 : (.selects RX4 yX4_readOrder yX4_readOrder : Cond) ∈ wsC := List.mem_of_getElem? (i := 232) rfl
theorem uC_233 : (.methodLink RX4 35 yX4_skipSemicolon : Cond) ∈ wsC := List.mem_of_getElem? (i := 233) rfl
theorem uC_234 : (.instanceMethod yX4_skipSemicolon : Cond) ∈ wsC := List.mem_of_getElem? (i := 234) rfl
theorem uC_235 : (.selects RX4 yX4_skipSemicolon yX4_skipSemicolon : Cond) ∈ wsC := List.mem_of_getElem? (i := 235) rfl
theorem uC_236 : (.code yX6_init cX6_init 1 none : Cond) ∈ wsC := List.mem_of_getElem? (i := 236) rfl
theorem uC_237 : (.methodLink RX6 1 objectInit : Cond) ∈ wsC := List.mem_of_getElem? (i := 237) rfl
theorem uC_238 : (.classLink RX6 7 RX0 : Cond) ∈ wsC := List.mem_of_getElem? (i := 238) rfl
theorem uC_239 : (.fieldLink RX6 10 "DrawerSlips$Slot" "state" "LDrawerSlips$Archive;" : Cond) ∈ wsC := List.mem_of_getElem? (i := 239) rfl
theorem uC_240 : (.code yX7_init cX7_init 1 none : Cond) ∈ wsC := List.mem_of_getElem? (i := 240) rfl
theorem uC_241 : (.methodLink RX7 1 objectInit : Cond) ∈ wsC := List.mem_of_getElem? (i := 241) rfl
theorem uC_242 : (.classLink RX7 7 RX0 : Cond) ∈ wsC := List.mem_of_getElem? (i := 242) rfl
theorem uC_243 : (.fieldLink RX7 10 "DrawerSlips" "archive" "LDrawerSlips$Archive;" : Cond) ∈ wsC := List.mem_of_getElem? (i := 243) rfl
theorem uC_244 : (.fieldLink RX7 16 "DrawerSlips" "trial" "LDrawerSlips$Archive;" : Cond) ∈ wsC := List.mem_of_getElem? (i := 244) rfl
theorem uC_245 : (.classLink RX7 19 RX1 : Cond) ∈ wsC := List.mem_of_getElem? (i := 245) rfl
theorem uC_246 : (.instantiable RX1 3 : Cond) ∈ wsC := List.mem_of_getElem? (i := 246) rfl
theorem uC_247 : (.fieldLink RX7 22 "DrawerSlips" "history" "LDrawerSlips$History;" : Cond) ∈ wsC := List.mem_of_getElem? (i := 247) rfl
theorem uC_248 : (.classLink RX7 26 RX6 : Cond) ∈ wsC := List.mem_of_getElem? (i := 248) rfl
theorem uC_249 : (.instantiable RX6 2 : Cond) ∈ wsC := List.mem_of_getElem? (i := 249) rfl
theorem uC_250 : (.initialized RX6 : Cond) ∈ wsC := List.mem_of_getElem? (i := 250) rfl
theorem uC_251 : (.fieldLink RX7 29 "DrawerSlips" "firstSlot" "LDrawerSlips$Slot;" : Cond) ∈ wsC := List.mem_of_getElem? (i := 251) rfl
theorem uC_252 : (.fieldLink RX7 33 "DrawerSlips" "secondSlot" "LDrawerSlips$Slot;" : Cond) ∈ wsC := List.mem_of_getElem? (i := 252) rfl
theorem uC_253 : (.classLink RX7 36 RX3 : Cond) ∈ wsC := List.mem_of_getElem? (i := 253) rfl
theorem uC_254 : (.instantiable RX3 2 : Cond) ∈ wsC := List.mem_of_getElem? (i := 254) rfl
theorem uC_255 : (.fieldLink RX7 39 "DrawerSlips" "pad" "LDrawerSlips$Pad;" : Cond) ∈ wsC := List.mem_of_getElem? (i := 255) rfl
theorem uC_256 : (.classLink RX7 43 RX4 : Cond) ∈ wsC := List.mem_of_getElem? (i := 256) rfl
theorem uC_257 : (.instantiable RX4 5 : Cond) ∈ wsC := List.mem_of_getElem? (i := 257) rfl
theorem uC_258 : (.fieldLink RX7 48 "DrawerSlips" "reader" "LDrawerSlips$Reader;" : Cond) ∈ wsC := List.mem_of_getElem? (i := 258) rfl
theorem uC_259 : (.instanceMethod yX1_init : Cond) ∈ wsC := List.mem_of_getElem? (i := 259) rfl
theorem uC_260 : (.instanceMethod yX6_init : Cond) ∈ wsC := List.mem_of_getElem? (i := 260) rfl
theorem uC_261 : (.instanceMethod yX3_init : Cond) ∈ wsC := List.mem_of_getElem? (i := 261) rfl
theorem uC_262 : (.instanceMethod yX4_init : Cond) ∈ wsC := List.mem_of_getElem? (i := 262) rfl
theorem uC_263 : (.code yX7_settled cX7_settled 2 (some .int) : Cond) ∈ wsC := List.mem_of_getElem? (i := 263) rfl
theorem uC_264 : (.instanceMethod yX1_keep : Cond) ∈ wsC := List.mem_of_getElem? (i := 264) rfl
theorem uC_265 : (.selects RX1 yX1_keep yX1_keep : Cond) ∈ wsC := List.mem_of_getElem? (i := 265) rfl
theorem uC_266 : (.code yX7_set cX7_set 3 (some .int) : Cond) ∈ wsC := List.mem_of_getElem? (i := 266) rfl
theorem uC_267 : (.instanceMethod yX1_prepare : Cond) ∈ wsC := List.mem_of_getElem? (i := 267) rfl
theorem uC_268 : (.selects RX1 yX1_prepare yX1_prepare : Cond) ∈ wsC := List.mem_of_getElem? (i := 268) rfl
theorem uC_269 : (.instanceMethod yX0_adjust : Cond) ∈ wsC := List.mem_of_getElem? (i := 269) rfl
theorem uC_270 : (.selects RX0 yX0_adjust yX0_adjust : Cond) ∈ wsC := List.mem_of_getElem? (i := 270) rfl
theorem uC_271 : (.methodLink RX7 60 yX7_settled : Cond) ∈ wsC := List.mem_of_getElem? (i := 271) rfl
theorem uC_272 : (.instanceMethod yX7_settled : Cond) ∈ wsC := List.mem_of_getElem? (i := 272) rfl
theorem uC_273 : (.selects RX7 yX7_settled yX7_settled : Cond) ∈ wsC := List.mem_of_getElem? (i := 273) rfl
theorem uC_274 : (.code yX7_slip cX7_slip 4 (some .int) : Cond) ∈ wsC := List.mem_of_getElem? (i := 274) rfl
theorem uC_275 : (.instanceMethod yX0_accept : Cond) ∈ wsC := List.mem_of_getElem? (i := 275) rfl
theorem uC_276 : (.selects RX0 yX0_accept yX0_accept : Cond) ∈ wsC := List.mem_of_getElem? (i := 276) rfl
theorem uC_277 : (.code yX7_tear cX7_tear 2 (some .int) : Cond) ∈ wsC := List.mem_of_getElem? (i := 277) rfl
theorem uC_278 : (.instanceMethod yX0_tearUp : Cond) ∈ wsC := List.mem_of_getElem? (i := 278) rfl
theorem uC_279 : (.selects RX0 yX0_tearUp yX0_tearUp : Cond) ∈ wsC := List.mem_of_getElem? (i := 279) rfl
theorem uC_280 : (.code yX7_serveSlips cX7_serveSlips 4 (some .int) : Cond) ∈ wsC := List.mem_of_getElem? (i := 280) rfl
theorem uC_281 : (.methodLink RX7 84 Lib.Math.min.name : Cond) ∈ wsC := List.mem_of_getElem? (i := 281) rfl
theorem uC_282 : (.constant RX7 99 (99999) : Cond) ∈ wsC := List.mem_of_getElem? (i := 282) rfl
theorem uC_283 : (.instanceMethod yX0_slipsThatWait : Cond) ∈ wsC := List.mem_of_getElem? (i := 283) rfl
theorem uC_284 : (.selects RX0 yX0_slipsThatWait yX0_slipsThatWait : Cond) ∈ wsC := List.mem_of_getElem? (i := 284) rfl
theorem uC_285 : (.instanceMethod yX0_serveNext : Cond) ∈ wsC := List.mem_of_getElem? (i := 285) rfl
theorem uC_286 : (.selects RX0 yX0_serveNext yX0_serveNext : Cond) ∈ wsC := List.mem_of_getElem? (i := 286) rfl
theorem uC_287 : (.code yX7_serve cX7_serve 2 (some .int) : Cond) ∈ wsC := List.mem_of_getElem? (i := 287) rfl
theorem uC_288 : (.methodLink RX7 71 yX7_serveSlips : Cond) ∈ wsC := List.mem_of_getElem? (i := 288) rfl
theorem uC_289 : (.instanceMethod yX7_serveSlips : Cond) ∈ wsC := List.mem_of_getElem? (i := 289) rfl
theorem uC_290 : (.selects RX7 yX7_serveSlips yX7_serveSlips : Cond) ∈ wsC := List.mem_of_getElem? (i := 290) rfl
theorem uC_291 : (.code yX7_pass cX7_pass 2 (some .int) : Cond) ∈ wsC := List.mem_of_getElem? (i := 291) rfl
theorem uC_292 : (.instanceMethod yX0_stand : Cond) ∈ wsC := List.mem_of_getElem? (i := 292) rfl
theorem uC_293 : (.selects RX0 yX0_stand yX0_stand : Cond) ∈ wsC := List.mem_of_getElem? (i := 293) rfl
theorem uC_294 : (.code yX7_of cX7_of 4 (some .int) : Cond) ∈ wsC := List.mem_of_getElem? (i := 294) rfl
theorem uC_295 : (.code yX7_waiting cX7_waiting 4 (some .int) : Cond) ∈ wsC := List.mem_of_getElem? (i := 295) rfl
theorem uC_296 : (.instanceMethod yX0_ranked : Cond) ∈ wsC := List.mem_of_getElem? (i := 296) rfl
theorem uC_297 : (.selects RX0 yX0_ranked yX0_ranked : Cond) ∈ wsC := List.mem_of_getElem? (i := 297) rfl
theorem uC_298 : (.code yX7_log cX7_log 3 (some .int) : Cond) ∈ wsC := List.mem_of_getElem? (i := 298) rfl
theorem uC_299 : (.instanceMethod yX2_has : Cond) ∈ wsC := List.mem_of_getElem? (i := 299) rfl
theorem uC_300 : (.selects RX2 yX2_has yX2_has : Cond) ∈ wsC := List.mem_of_getElem? (i := 300) rfl
theorem uC_301 : (.instanceMethod yX2_numberOf : Cond) ∈ wsC := List.mem_of_getElem? (i := 301) rfl
theorem uC_302 : (.selects RX2 yX2_numberOf yX2_numberOf : Cond) ∈ wsC := List.mem_of_getElem? (i := 302) rfl
theorem uC_303 : (.instanceMethod yX2_waitOf : Cond) ∈ wsC := List.mem_of_getElem? (i := 303) rfl
theorem uC_304 : (.selects RX2 yX2_waitOf yX2_waitOf : Cond) ∈ wsC := List.mem_of_getElem? (i := 304) rfl
theorem uC_305 : (.instanceMethod yX2_sortOf : Cond) ∈ wsC := List.mem_of_getElem? (i := 305) rfl
theorem uC_306 : (.selects RX2 yX2_sortOf yX2_sortOf : Cond) ∈ wsC := List.mem_of_getElem? (i := 306) rfl
theorem uC_307 : (.code yX7_count cX7_count 2 (some .int) : Cond) ∈ wsC := List.mem_of_getElem? (i := 307) rfl
theorem uC_308 : (.instanceMethod yX0_amount : Cond) ∈ wsC := List.mem_of_getElem? (i := 308) rfl
theorem uC_309 : (.selects RX0 yX0_amount yX0_amount : Cond) ∈ wsC := List.mem_of_getElem? (i := 309) rfl
theorem uC_310 : (.code yX7_next cX7_next 4 (some .int) : Cond) ∈ wsC := List.mem_of_getElem? (i := 310) rfl
theorem uC_311 : (.code yX7_servedIn cX7_servedIn 3 (some .int) : Cond) ∈ wsC := List.mem_of_getElem? (i := 311) rfl
theorem uC_312 : (.code yX7_all cX7_all 4 (some .int) : Cond) ∈ wsC := List.mem_of_getElem? (i := 312) rfl
theorem uC_313 : (.code yX7_joined cX7_joined 5 (some .int) : Cond) ∈ wsC := List.mem_of_getElem? (i := 313) rfl
theorem uC_314 : (.methodLink RX7 176 yX7_isSlip : Cond) ∈ wsC := List.mem_of_getElem? (i := 314) rfl
theorem uC_315 : (.code yX7_put cX7_put 3 (some .int) : Cond) ∈ wsC := List.mem_of_getElem? (i := 315) rfl
theorem uC_316 : (.instanceMethod yX3_append : Cond) ∈ wsC := List.mem_of_getElem? (i := 316) rfl
theorem uC_317 : (.selects RX3 yX3_append yX3_append : Cond) ∈ wsC := List.mem_of_getElem? (i := 317) rfl
theorem uC_318 : (.code yX7_wipe cX7_wipe 1 (some .int) : Cond) ∈ wsC := List.mem_of_getElem? (i := 318) rfl
theorem uC_319 : (.instanceMethod yX3_empty : Cond) ∈ wsC := List.mem_of_getElem? (i := 319) rfl
theorem uC_320 : (.selects RX3 yX3_empty yX3_empty : Cond) ∈ wsC := List.mem_of_getElem? (i := 320) rfl
theorem uC_321 : (.code yX7_fault cX7_fault 1 (some .int) : Cond) ∈ wsC := List.mem_of_getElem? (i := 321) rfl
theorem uC_322 : (.instanceMethod yX4_findFault : Cond) ∈ wsC := List.mem_of_getElem? (i := 322) rfl
theorem uC_323 : (.selects RX4 yX4_findFault yX4_findFault : Cond) ∈ wsC := List.mem_of_getElem? (i := 323) rfl
theorem uC_324 : (.code yX7_obey cX7_obey 1 (some .int) : Cond) ∈ wsC := List.mem_of_getElem? (i := 324) rfl
theorem uC_325 : (.code yX7_carryOut cX7_carryOut 2 (some .int) : Cond) ∈ wsC := List.mem_of_getElem? (i := 325) rfl
theorem uC_326 : (.methodLink RX7 201 yX7_obey : Cond) ∈ wsC := List.mem_of_getElem? (i := 326) rfl
theorem uC_327 : (.instanceMethod yX7_obey : Cond) ∈ wsC := List.mem_of_getElem? (i := 327) rfl
theorem uC_328 : (.selects RX7 yX7_obey yX7_obey : Cond) ∈ wsC := List.mem_of_getElem? (i := 328) rfl
theorem uC_329 : (.code yX7_undo cX7_undo 1 (some .int) : Cond) ∈ wsC := List.mem_of_getElem? (i := 329) rfl
theorem uC_330 : (.instanceMethod yX1_takeBack : Cond) ∈ wsC := List.mem_of_getElem? (i := 330) rfl
theorem uC_331 : (.selects RX1 yX1_takeBack yX1_takeBack : Cond) ∈ wsC := List.mem_of_getElem? (i := 331) rfl
theorem uC_332 : (.code yX7_slotAt cX7_slotAt 2 (some (.object "DrawerSlips$Slot")) : Cond) ∈ wsC := List.mem_of_getElem? (i := 332) rfl
theorem uC_333 : (.code yX7_save cX7_save 3 (some .int) : Cond) ∈ wsC := List.mem_of_getElem? (i := 333) rfl
theorem uC_334 : (.methodLink RX7 217 yX7_slotAt : Cond) ∈ wsC := List.mem_of_getElem? (i := 334) rfl
theorem uC_335 : (.instanceMethod yX7_slotAt : Cond) ∈ wsC := List.mem_of_getElem? (i := 335) rfl
theorem uC_336 : (.selects RX7 yX7_slotAt yX7_slotAt : Cond) ∈ wsC := List.mem_of_getElem? (i := 336) rfl
theorem uC_337 : (.code yX7_restore cX7_restore 3 (some .int) : Cond) ∈ wsC := List.mem_of_getElem? (i := 337) rfl
theorem uC_338 : (.code yJ9_abs_0f7a4 cJ9_abs_0f7a4 1 (some .int) : Cond) ∈ wsC := List.mem_of_getElem? (i := 338) rfl
theorem uC_339 : (.code yJ9_max_7cf53 cJ9_max_7cf53 2 (some .int) : Cond) ∈ wsC := List.mem_of_getElem? (i := 339) rfl
theorem uC_340 : (.code yJ9_min_7cf53 cJ9_min_7cf53 2 (some .int) : Cond) ∈ wsC := List.mem_of_getElem? (i := 340) rfl
theorem hU_X8 : ∀ w ∈ wsX80, w ∈ wsM := fun _ h => List.mem_append_right _ h
theorem hU_X0 : ∀ w ∈ wsX00, w ∈ wsC := fun _ h => List.mem_append_right _ (List.mem_append_left _ (List.mem_append_left _ (List.mem_append_left _ (List.mem_append_left _ (List.mem_append_left _ (List.mem_append_left _ (List.mem_append_left _ h)))))))
theorem hU_X1 : ∀ w ∈ wsX10, w ∈ wsC := fun _ h => List.mem_append_right _ (List.mem_append_left _ (List.mem_append_left _ (List.mem_append_left _ (List.mem_append_left _ (List.mem_append_left _ (List.mem_append_left _ (List.mem_append_right _ h)))))))
theorem hU_X2 : ∀ w ∈ wsX20, w ∈ wsC := fun _ h => List.mem_append_right _ (List.mem_append_left _ (List.mem_append_left _ (List.mem_append_left _ (List.mem_append_left _ (List.mem_append_left _ (List.mem_append_right _ h))))))
theorem hU_X3 : ∀ w ∈ wsX30, w ∈ wsC := fun _ h => List.mem_append_right _ (List.mem_append_left _ (List.mem_append_left _ (List.mem_append_left _ (List.mem_append_left _ (List.mem_append_right _ h)))))
theorem hU_X4 : ∀ w ∈ wsX40, w ∈ wsC := fun _ h => List.mem_append_right _ (List.mem_append_left _ (List.mem_append_left _ (List.mem_append_left _ (List.mem_append_right _ h))))
theorem hU_X5 : ∀ w ∈ wsX50, w ∈ wsC := fun _ h => List.mem_append_right _ (List.mem_append_left _ (List.mem_append_left _ (List.mem_append_right _ h)))
theorem hU_X6 : ∀ w ∈ wsX60, w ∈ wsC := fun _ h => List.mem_append_right _ (List.mem_append_left _ (List.mem_append_right _ h))
theorem hU_X7 : ∀ w ∈ wsX70, w ∈ wsC := fun _ h => List.mem_append_right _ (List.mem_append_right _ h)
def wsX2_init : List Cond := .code yX2_init cX2_init 1 none :: wsC
def wsX7_copyRow : List Cond := .code yX7_copyRow cX7_copyRow 3 none :: wsC
def wsX5_init : List Cond := .code yX5_init cX5_init 2 none :: wsC
def wsX0_init : List Cond := .code yX0_init cX0_init 3 none :: wsC
def wsX5_copyFrom : List Cond := .code yX5_copyFrom cX5_copyFrom 2 none :: wsC
def wsX2_copyFrom : List Cond := .code yX2_copyFrom cX2_copyFrom 2 none :: wsC
def wsX0_copyFrom : List Cond := .code yX0_copyFrom cX0_copyFrom 4 none :: wsC
def wsX7_isIndexOf : List Cond := .code yX7_isIndexOf cX7_isIndexOf 2 (some .boolean) :: wsC
def wsX7_valueAt : List Cond := .code yX7_valueAt cX7_valueAt 2 (some .int) :: wsC
def wsX0_adjust : List Cond := .code yX0_adjust cX0_adjust 4 (some .int) :: wsC
def wsX7_isSlip : List Cond := .code yX7_isSlip cX7_isSlip 3 (some .boolean) :: wsC
def wsX5_isOfSort : List Cond := .code yX5_isOfSort cX5_isOfSort 2 (some .boolean) :: wsC
def wsX5_last : List Cond := .code yX5_last cX5_last 1 (some .int) :: wsC
def wsX0_hostFor : List Cond := .code yX0_hostFor cX0_hostFor 7 (some (.object "DrawerSlips$Slip")) :: wsC
def wsX0_freePlace : List Cond := .code yX0_freePlace cX0_freePlace 2 (some (.object "DrawerSlips$Slip")) :: wsC
def wsX0_countWaiting : List Cond := .code yX0_countWaiting cX0_countWaiting 3 none :: wsC
def wsX0_accept : List Cond := .code yX0_accept cX0_accept 6 (some .int) :: wsC
def wsX0_find : List Cond := .code yX0_find cX0_find 3 (some (.object "DrawerSlips$Slip")) :: wsC
def wsX0_remove : List Cond := .code yX0_remove cX0_remove 2 none :: wsC
def wsX0_age : List Cond := .code yX0_age cX0_age 2 (some .int) :: wsC
def wsX0_tearUp : List Cond := .code yX0_tearUp cX0_tearUp 3 (some .int) :: wsC
def wsX0_stand : List Cond := .code yX0_stand cX0_stand 2 (some .int) :: wsC
def wsX0_slipsThatWait : List Cond := .code yX0_slipsThatWait cX0_slipsThatWait 1 (some .int) :: wsC
def wsX5_isAheadOf : List Cond := .code yX5_isAheadOf cX5_isAheadOf 2 (some .boolean) :: wsC
def wsX0_slipsAheadOf : List Cond := .code yX0_slipsAheadOf cX0_slipsAheadOf 4 (some .int) :: wsC
def wsX0_ranked : List Cond := .code yX0_ranked cX0_ranked 4 (some (.object "DrawerSlips$Slip")) :: wsC
def wsX0_isTooOld : List Cond := .code yX0_isTooOld cX0_isTooOld 2 (some .boolean) :: wsC
def wsX0_amount : List Cond := .code yX0_amount cX0_amount 2 (some .int) :: wsC
def wsX0_leastFrom : List Cond := .code yX0_leastFrom cX0_leastFrom 5 (some (.object "DrawerSlips$Slip")) :: wsC
def wsX0_newSort : List Cond := .code yX0_newSort cX0_newSort 1 (some .int) :: wsC
def wsX0_oldest : List Cond := .code yX0_oldest cX0_oldest 4 (some (.object "DrawerSlips$Slip")) :: wsC
def wsX0_reason : List Cond := .code yX0_reason cX0_reason 4 (some .int) :: wsC
def wsX0_chosen : List Cond := .code yX0_chosen cX0_chosen 2 (some (.object "DrawerSlips$Slip")) :: wsC
def wsX0_drawersTo : List Cond := .code yX0_drawersTo cX0_drawersTo 2 (some .int) :: wsC
def wsX0_minutesFor : List Cond := .code yX0_minutesFor cX0_minutesFor 2 (some .int) :: wsC
def wsX0_beginBatch : List Cond := .code yX0_beginBatch cX0_beginBatch 2 none :: wsC
def wsX2_append : List Cond := .code yX2_append cX2_append 5 none :: wsC
def wsX0_serveNext : List Cond := .code yX0_serveNext cX0_serveNext 3 none :: wsC
def wsX1_init : List Cond := .code yX1_init cX1_init 2 none :: wsC
def wsX1_stateAt : List Cond := .code yX1_stateAt cX1_stateAt 2 (some (.object "DrawerSlips$Archive")) :: wsC
def wsX1_prepare : List Cond := .code yX1_prepare cX1_prepare 3 none :: wsC
def wsX1_keep : List Cond := .code yX1_keep cX1_keep 1 none :: wsC
def wsX1_takeBack : List Cond := .code yX1_takeBack cX1_takeBack 3 none :: wsC
def wsX2_has : List Cond := .code yX2_has cX2_has 2 (some .boolean) :: wsC
def wsX2_place : List Cond := .code yX2_place cX2_place 2 (some .int) :: wsC
def wsX2_numberOf : List Cond := .code yX2_numberOf cX2_numberOf 2 (some .int) :: wsC
def wsX2_waitOf : List Cond := .code yX2_waitOf cX2_waitOf 2 (some .int) :: wsC
def wsX2_sortOf : List Cond := .code yX2_sortOf cX2_sortOf 2 (some .int) :: wsC
def wsX3_init : List Cond := .code yX3_init cX3_init 1 none :: wsC
def wsX3_signAt : List Cond := .code yX3_signAt cX3_signAt 2 (some .int) :: wsC
def wsX3_signsIn : List Cond := .code yX3_signsIn cX3_signsIn 6 (some .int) :: wsC
def wsX3_add : List Cond := .code yX3_add cX3_add 2 none :: wsC
def wsX3_append : List Cond := .code yX3_append cX3_append 5 (some .int) :: wsC
def wsX3_empty : List Cond := .code yX3_empty cX3_empty 2 (some .int) :: wsC
def wsX4_init : List Cond := .code yX4_init cX4_init 2 none :: wsC
def wsX4_begin : List Cond := .code yX4_begin cX4_begin 1 none :: wsC
def wsX4_isDigitNext : List Cond := .code yX4_isDigitNext cX4_isDigitNext 2 (some .boolean) :: wsC
def wsX4_takeDigit : List Cond := .code yX4_takeDigit cX4_takeDigit 2 (some .int) :: wsC
def wsX4_readNumber : List Cond := .code yX4_readNumber cX4_readNumber 1 (some .boolean) :: wsC
def wsX4_readMore : List Cond := .code yX4_readMore cX4_readMore 1 (some .boolean) :: wsC
def wsX4_readOrder : List Cond := .code yX4_readOrder cX4_readOrder 2 (some .boolean) :: wsC
def wsX4_skipSemicolon : List Cond := .code yX4_skipSemicolon cX4_skipSemicolon 1 none :: wsC
def wsX4_findFault : List Cond := .code yX4_findFault cX4_findFault 2 (some .int) :: wsC
def wsX6_init : List Cond := .code yX6_init cX6_init 1 none :: wsC
def wsX7_init : List Cond := .code yX7_init cX7_init 1 none :: wsC
def wsX7_settled : List Cond := .code yX7_settled cX7_settled 2 (some .int) :: wsC
def wsX7_set : List Cond := .code yX7_set cX7_set 3 (some .int) :: wsC
def wsX7_slip : List Cond := .code yX7_slip cX7_slip 4 (some .int) :: wsC
def wsX7_tear : List Cond := .code yX7_tear cX7_tear 2 (some .int) :: wsC
def wsX7_serveSlips : List Cond := .code yX7_serveSlips cX7_serveSlips 4 (some .int) :: wsC
def wsX7_serve : List Cond := .code yX7_serve cX7_serve 2 (some .int) :: wsC
def wsX7_pass : List Cond := .code yX7_pass cX7_pass 2 (some .int) :: wsC
def wsX7_of : List Cond := .code yX7_of cX7_of 4 (some .int) :: wsC
def wsX7_waiting : List Cond := .code yX7_waiting cX7_waiting 4 (some .int) :: wsC
def wsX7_log : List Cond := .code yX7_log cX7_log 3 (some .int) :: wsC
def wsX7_count : List Cond := .code yX7_count cX7_count 2 (some .int) :: wsC
def wsX7_next : List Cond := .code yX7_next cX7_next 4 (some .int) :: wsC
def wsX7_servedIn : List Cond := .code yX7_servedIn cX7_servedIn 3 (some .int) :: wsC
def wsX7_all : List Cond := .code yX7_all cX7_all 4 (some .int) :: wsC
def wsX7_joined : List Cond := .code yX7_joined cX7_joined 5 (some .int) :: wsC
def wsX7_put : List Cond := .code yX7_put cX7_put 3 (some .int) :: wsC
def wsX7_wipe : List Cond := .code yX7_wipe cX7_wipe 1 (some .int) :: wsC
def wsX7_fault : List Cond := .code yX7_fault cX7_fault 1 (some .int) :: wsC
def wsX7_obey : List Cond := .code yX7_obey cX7_obey 1 (some .int) :: wsC
def wsX7_carryOut : List Cond := .code yX7_carryOut cX7_carryOut 2 (some .int) :: wsC
def wsX7_undo : List Cond := .code yX7_undo cX7_undo 1 (some .int) :: wsC
def wsX7_slotAt : List Cond := .code yX7_slotAt cX7_slotAt 2 (some (.object "DrawerSlips$Slot")) :: wsC
def wsX7_save : List Cond := .code yX7_save cX7_save 3 (some .int) :: wsC
def wsX7_restore : List Cond := .code yX7_restore cX7_restore 3 (some .int) :: wsC
def wsX8_init : List Cond := .code yX8_init cX8_init 1 none :: wsM
def wsX8_in : List Cond := .code yX8_in cX8_in 4 (some .boolean) :: wsM
def wsX8_far : List Cond := .code yX8_far cX8_far 2 (some .int) :: wsM
def wsX8_its : List Cond := .code yX8_its cX8_its 3 (some .int) :: wsM
def wsX8_lastOf : List Cond := .code yX8_lastOf cX8_lastOf 2 (some .int) :: wsM
def wsX8_find : List Cond := .code yX8_find cX8_find 3 (some .int) :: wsM
def wsX8_many : List Cond := .code yX8_many cX8_many 4 (some .int) :: wsM
def wsX8_remember : List Cond := .code yX8_remember cX8_remember 2 none :: wsM
def wsX8_record : List Cond := .code yX8_record cX8_record 3 (some .int) :: wsM
def wsX8_undo : List Cond := .code yX8_undo cX8_undo 2 (some .int) :: wsM
def wsX8_save : List Cond := .code yX8_save cX8_save 3 (some .int) :: wsM
def wsX8_restore : List Cond := .code yX8_restore cX8_restore 3 (some .int) :: wsM
def wsX8_layAside : List Cond := .code yX8_layAside cX8_layAside 2 none :: wsM
def wsX8_putBack : List Cond := .code yX8_putBack cX8_putBack 2 none :: wsM
def wsX8_lowest : List Cond := .code yX8_lowest cX8_lowest 6 (some .int) :: wsM
def wsX8_oldest : List Cond := .code yX8_oldest cX8_oldest 4 (some .int) :: wsM
def wsX8_isOld : List Cond := .code yX8_isOld cX8_isOld 2 (some .boolean) :: wsM
def wsX8_nextSort : List Cond := .code yX8_nextSort cX8_nextSort 2 (some .int) :: wsM
def wsX8_look : List Cond := .code yX8_look cX8_look 2 none :: wsM
def wsX8_minute : List Cond := .code yX8_minute cX8_minute 1 (some .int) :: wsM
def wsX8_drop : List Cond := .code yX8_drop cX8_drop 3 none :: wsM
def wsX8_note : List Cond := .code yX8_note cX8_note 5 none :: wsM
def wsX8_serveOne : List Cond := .code yX8_serveOne cX8_serveOne 4 none :: wsM
def wsX8_isSlip : List Cond := .code yX8_isSlip cX8_isSlip 3 (some .boolean) :: wsM
def wsX8_partner : List Cond := .code yX8_partner cX8_partner 5 (some .int) :: wsM
def wsX8_comes : List Cond := .code yX8_comes cX8_comes 6 (some .int) :: wsM
def wsX8_serves : List Cond := .code yX8_serves cX8_serves 3 (some .int) :: wsM
def wsX8_waits : List Cond := .code yX8_waits cX8_waits 2 (some .int) :: wsM
def wsX8_leastOf : List Cond := .code yX8_leastOf cX8_leastOf 1 (some .int) :: wsM
def wsX8_mostOf : List Cond := .code yX8_mostOf cX8_mostOf 1 (some .int) :: wsM
def wsX8_set : List Cond := .code yX8_set cX8_set 4 (some .int) :: wsM
def wsX8_slip : List Cond := .code yX8_slip cX8_slip 4 (some .int) :: wsM
def wsX8_tear : List Cond := .code yX8_tear cX8_tear 4 (some .int) :: wsM
def wsX8_serve : List Cond := .code yX8_serve cX8_serve 2 (some .int) :: wsM
def wsX8_pass : List Cond := .code yX8_pass cX8_pass 2 (some .int) :: wsM
def wsX8_of : List Cond := .code yX8_of cX8_of 4 (some .int) :: wsM
def wsX8_rank : List Cond := .code yX8_rank cX8_rank 5 (some .int) :: wsM
def wsX8_waiting : List Cond := .code yX8_waiting cX8_waiting 4 (some .int) :: wsM
def wsX8_log : List Cond := .code yX8_log cX8_log 3 (some .int) :: wsM
def wsX8_count : List Cond := .code yX8_count cX8_count 2 (some .int) :: wsM
def wsX8_next : List Cond := .code yX8_next cX8_next 2 (some .int) :: wsM
def wsX8_servedIn : List Cond := .code yX8_servedIn cX8_servedIn 4 (some .int) :: wsM
def wsX8_all : List Cond := .code yX8_all cX8_all 5 (some .int) :: wsM
def wsX8_joined : List Cond := .code yX8_joined cX8_joined 5 (some .int) :: wsM
def wsX8_put : List Cond := .code yX8_put cX8_put 7 (some .int) :: wsM
def wsX8_wipe : List Cond := .code yX8_wipe cX8_wipe 2 (some .int) :: wsM
def wsX8_sees : List Cond := .code yX8_sees cX8_sees 3 (some .boolean) :: wsM
def wsX8_number : List Cond := .code yX8_number cX8_number 2 (some .int) :: wsM
def wsX8_order : List Cond := .code yX8_order cX8_order 6 (some .int) :: wsM
def wsX8_isWell : List Cond := .code yX8_isWell cX8_isWell 2 (some .boolean) :: wsM
def wsX8_fault : List Cond := .code yX8_fault cX8_fault 1 (some .int) :: wsM
def wsX8_carryOut : List Cond := .code yX8_carryOut cX8_carryOut 3 (some .int) :: wsM
def wsJ9_abs_0f7a4 : List Cond := .code yJ9_abs_0f7a4 cJ9_abs_0f7a4 1 (some .int) :: wsC
def wsJ9_max_7cf53 : List Cond := .code yJ9_max_7cf53 cJ9_max_7cf53 2 (some .int) :: wsC
def wsJ9_min_7cf53 : List Cond := .code yJ9_min_7cf53 cJ9_min_7cf53 2 (some .int) :: wsC
theorem zgB_ {U : List Cond} (hU : U.all goodWord = true) {c1 c2 : Cond} (h : c2 ∈ U) : GoodIn (c1 :: U) (c2 :: U) := fun w hw => (List.mem_cons.mp hw).elim (fun e => ⟨List.mem_cons_of_mem _ (e ▸ h), good_of_word (List.all_eq_true.mp hU w (e ▸ h))⟩) (fun h2 => ⟨List.mem_cons_of_mem _ h2, good_of_word (List.all_eq_true.mp hU w h2)⟩)
theorem zgX_ {U : List Cond} (hU : U.all goodWord = true) {c1 : Cond} {as bs : List Cond} (ha : ∀ w ∈ as, w ∈ U) (hb : GoodIn (c1 :: U) bs) : GoodIn (c1 :: U) (as ++ bs) := fun w hw => (List.mem_append.mp hw).elim (fun h => ⟨List.mem_cons_of_mem _ (ha w h), good_of_word (List.all_eq_true.mp hU w (ha w h))⟩) (hb w)
theorem zgV_ {U : List Cond} (hU : U.all goodWord = true) {c1 c2 : Cond} {own : String} {idx : Nat} {C : String} {y : MethodName} (h : c2 ∈ U) (h1 : Cond.methodLink own idx y ∈ U) (h2 : Cond.instanceMethod y ∈ U) (h3 : Cond.selects C y y ∈ U) (h4 : Cond.initialized C ∈ U) : GoodIn (c1 :: U) (wsV own idx C y (c2 :: U)) :=
  zgX_ hU (fun w hw => by
    simp only [List.mem_cons, List.not_mem_nil, or_false] at hw
    rcases hw with rfl | rfl | rfl | rfl
    · exact h1
    · exact h2
    · exact h3
    · exact h4) (zgB_ hU h)
theorem zgS_ {U : List Cond} (hU : U.all goodWord = true) {c1 c2 : Cond} {own : String} {idx : Nat} {y : MethodName} (h : c2 ∈ U) (h1 : Cond.methodLink own idx y ∈ U) (h2 : Cond.static y ∈ U) (h4 : Cond.initialized y.cls ∈ U) : GoodIn (c1 :: U) (va_wsS own idx y (c2 :: U)) :=
  zgX_ hU (fun w hw => by
    simp only [List.mem_cons, List.not_mem_nil, or_false] at hw
    rcases hw with rfl | rfl | rfl
    · exact h1
    · exact h2
    · exact h4) (zgB_ hU h)
end
section
/-! my own base: the classes' table and the links of nest mates, carried as one; worlds that are a function of a place; call rows; array rows at a place that is a number -/
abbrev zV : Type := va_G × ClassId × ClassId × ClassId
def zTY (V : zV) : List (ClassId × FieldType) := [(V.2.1, .int), (V.2.2.1, .boolean), (V.2.2.2, .object "DrawerSlips$Archive")]
def zNb : Cond → Bool
  | .methodLinkNest _ _ _ _ => true
  | .fieldLinkNest _ _ _ _ _ _ => true
  | _ => false
def zNW : List Cond := [.fieldLinkNest RX0 9 "DrawerSlips" "FIRST_VALUES" "[I" "DrawerSlips",
  .fieldLinkNest RX0 160 "DrawerSlips$Lately" "served" "I" "DrawerSlips",
  .fieldLinkNest RX0 41 "DrawerSlips$Slip" "rest" "LDrawerSlips$Slip;" "DrawerSlips",
  .fieldLinkNest RX0 116 "DrawerSlips$Slip" "waits" "Z" "DrawerSlips",
  .fieldLinkNest RX0 109 "DrawerSlips$Slip" "number" "I" "DrawerSlips",
  .fieldLinkNest RX7 130 "DrawerSlips$Slip" "number" "I" "DrawerSlips",
  .fieldLinkNest RX0 120 "DrawerSlips$Slip" "writes" "I" "DrawerSlips",
  .fieldLinkNest RX7 104 "DrawerSlips$Slip" "writes" "I" "DrawerSlips",
  .fieldLinkNest RX0 123 "DrawerSlips$Slip" "first" "I" "DrawerSlips",
  .fieldLinkNest RX7 109 "DrawerSlips$Slip" "first" "I" "DrawerSlips",
  .fieldLinkNest RX0 103 "DrawerSlips$Slip" "many" "I" "DrawerSlips",
  .fieldLinkNest RX0 126 "DrawerSlips$Slip" "came" "I" "DrawerSlips",
  .fieldLinkNest RX0 106 "DrawerSlips$Slip" "joins" "I" "DrawerSlips",
  .fieldLinkNest RX7 123 "DrawerSlips$Slip" "joins" "I" "DrawerSlips",
  .fieldLinkNest RX7 133 "DrawerSlips$Archive" "lately" "LDrawerSlips$Lately;" "DrawerSlips",
  .fieldLinkNest RX7 95 "DrawerSlips$Archive" "now" "I" "DrawerSlips",
  .fieldLinkNest RX7 170 "DrawerSlips$Archive" "longestWait" "I" "DrawerSlips",
  .fieldLinkNest RX7 173 "DrawerSlips$Archive" "drawersGone" "I" "DrawerSlips",
  .fieldLinkNest RX7 155 "DrawerSlips$History" "kept" "I" "DrawerSlips",
  .fieldLinkNest RX7 221 "DrawerSlips$Slot" "state" "LDrawerSlips$Archive;" "DrawerSlips",
  .fieldLinkNest RX7 224 "DrawerSlips$Slot" "isFilled" "Z" "DrawerSlips",
  .fieldLinkNest RX4 26 "DrawerSlips$Pad" "length" "I" "DrawerSlips",
  .fieldLinkNest RX7 152 "DrawerSlips$Pad" "length" "I" "DrawerSlips",
  .fieldLinkNest RX7 207 "DrawerSlips$Reader" "kind" "I" "DrawerSlips",
  .fieldLinkNest RX7 210 "DrawerSlips$Reader" "number" "I" "DrawerSlips",
  .fieldLinkNest RX7 211 "DrawerSlips$Reader" "more" "I" "DrawerSlips",
  .fieldLinkNest RX0 85 "DrawerSlips" "LEAST_VALUES" "[I" "DrawerSlips",
  .fieldLinkNest RX0 92 "DrawerSlips" "MOST_VALUES" "[I" "DrawerSlips",
  .methodLinkNest RX7 9 yX0_init "DrawerSlips",
  .methodLinkNest RX0 20 yX2_init "DrawerSlips",
  .methodLinkNest RX0 25 yX7_copyRow "DrawerSlips",
  .methodLinkNest RX0 31 yX5_init "DrawerSlips",
  .methodLinkNest RX7 21 yX1_init "DrawerSlips",
  .methodLinkNest RX1 15 yX0_init "DrawerSlips",
  .methodLinkNest RX7 28 yX6_init "DrawerSlips",
  .methodLinkNest RX6 9 yX0_init "DrawerSlips",
  .methodLinkNest RX7 38 yX3_init "DrawerSlips",
  .methodLinkNest RX7 45 yX4_init "DrawerSlips",
  .methodLinkNest RX7 52 yX1_prepare "DrawerSlips",
  .methodLinkNest RX1 24 yX0_copyFrom "DrawerSlips",
  .methodLinkNest RX0 38 yX5_copyFrom "DrawerSlips",
  .methodLinkNest RX0 44 yX2_copyFrom "DrawerSlips",
  .methodLinkNest RX2 19 yX7_copyRow "DrawerSlips",
  .methodLinkNest RX7 56 yX0_adjust "DrawerSlips",
  .methodLinkNest RX0 81 yX7_isIndexOf "DrawerSlips",
  .methodLinkNest RX0 88 yX7_valueAt "DrawerSlips",
  .methodLinkNest RX7 77 yX1_keep "DrawerSlips",
  .methodLinkNest RX7 64 yX0_accept "DrawerSlips",
  .methodLinkNest RX0 95 yX7_isSlip "DrawerSlips",
  .methodLinkNest RX0 145 yX5_isOfSort "DrawerSlips",
  .methodLinkNest RX0 149 yX5_last "DrawerSlips",
  .methodLinkNest RX7 68 yX0_tearUp "DrawerSlips",
  .methodLinkNest RX7 80 yX0_slipsThatWait "DrawerSlips",
  .methodLinkNest RX7 89 yX0_copyFrom "DrawerSlips",
  .methodLinkNest RX7 92 yX0_serveNext "DrawerSlips",
  .methodLinkNest RX0 156 yX5_isAheadOf "DrawerSlips",
  .methodLinkNest RX0 205 yX2_append "DrawerSlips",
  .methodLinkNest RX2 29 yX7_isIndexOf "DrawerSlips",
  .methodLinkNest RX7 74 yX0_stand "DrawerSlips",
  .methodLinkNest RX7 100 yX0_find "DrawerSlips",
  .methodLinkNest RX7 112 yX5_last "DrawerSlips",
  .methodLinkNest RX7 115 yX0_age "DrawerSlips",
  .methodLinkNest RX7 119 yX0_isTooOld "DrawerSlips",
  .methodLinkNest RX7 126 yX0_ranked "DrawerSlips",
  .methodLinkNest RX7 137 yX2_has "DrawerSlips",
  .methodLinkNest RX7 143 yX2_numberOf "DrawerSlips",
  .methodLinkNest RX2 37 yX7_valueAt "DrawerSlips",
  .methodLinkNest RX7 146 yX2_waitOf "DrawerSlips",
  .methodLinkNest RX7 149 yX2_sortOf "DrawerSlips",
  .methodLinkNest RX7 158 yX0_amount "DrawerSlips",
  .methodLinkNest RX7 161 yX0_reason "DrawerSlips",
  .methodLinkNest RX7 164 yX0_chosen "DrawerSlips",
  .methodLinkNest RX7 167 yX0_minutesFor "DrawerSlips",
  .methodLinkNest RX7 180 yX0_hostFor "DrawerSlips",
  .methodLinkNest RX7 184 yX3_append "DrawerSlips",
  .methodLinkNest RX3 31 yX7_isIndexOf "DrawerSlips",
  .methodLinkNest RX7 188 yX3_empty "DrawerSlips",
  .methodLinkNest RX7 191 yX4_findFault "DrawerSlips",
  .methodLinkNest RX4 31 yX3_signAt "DrawerSlips",
  .methodLinkNest RX3 19 yX7_valueAt "DrawerSlips",
  .methodLinkNest RX7 194 yX4_begin "DrawerSlips",
  .methodLinkNest RX7 197 yX4_readOrder "DrawerSlips",
  .methodLinkNest RX7 204 yX4_skipSemicolon "DrawerSlips",
  .methodLinkNest RX7 214 yX1_takeBack "DrawerSlips"]
theorem zNW_all : zNW.all zNb = true := rfl
theorem zNb_tables {w : Cond} (h : zNb w = true) : w.onTables = true := by
  cases w <;> first | rfl | (simp [zNb] at h)
theorem zNb_moved {s U : State} (hW : s.WarmedH U.vm) {w : Cond} (hb : zNb w = true) (h : va_Nw w s) : va_Nw w U := by
  cases w <;> first | (exact va_Nw.warmM hW h) | (exact va_Nw.warmF hW h) | (simp [zNb] at hb)
def zE (V : zV) (U : State) : Prop := va_K V.1 vwCl (zTY V) U ∧ ∀ w ∈ zNW, va_Nw w U
theorem zE.moved {V : zV} {s U : State} (hW : s.WarmedH U.vm) (h : zE V s) : zE V U := ⟨va_K.moved hW.alike h.1, fun w hw => zNb_moved hW (List.all_eq_true.mp zNW_all w hw) (h.2 w hw)⟩
theorem zE.calling {V : zV} {U : State} {g : JFrame} {mk : MethodId} {a : Array Value} (h : zE V U) : zE V (U.calling g mk a) := ⟨va_K.moved (u := U) (U := U.calling g mk a) (Vm.Alike.refl U.vm) h.1, fun w hw => va_Nw.same (u := U) (U := U.calling g mk a) (zNb_tables (List.all_eq_true.mp zNW_all w hw)) rfl (h.2 w hw)⟩
def zR (d mc ms : Nat) : Room := { frames := d, cells := mc, slots := ms, locals := 40 * d }
-- a start: the arguments, what the heap holds, the tables
def zPc (V : zV) (av : List Value) (B : Heap → Prop) : Array Value → State → Prop := va_Pc av (fun U => B U.heap ∧ zE V U)
theorem zPc_blind {V : zV} {av : List Value} {B : Heap → Prop} : FrameBlind (zPc V av B) := fun _ _ _ _ q => ⟨q.1, q.2.1, q.2.2.calling⟩
theorem zPreV {V : zV} {s : State} {H : Heap} {C : String} {b : Nat} {As : List Value} {B : Heap → Prop} (hB : B H) (hE : zE V s) (hr : ∃ cell : Cell, H[b]? = some cell ∧ cell.vm.isStatics = false ∧ s.vm.findClass C = some cell.cls) : PreV s H C b (zPc V (.ref b :: As) B) As :=
  ⟨zPc_blind, hr, fun _ hU hW => ⟨rfl, by rw [hU]; exact hB, hE.moved hW⟩⟩
theorem zPreS {V : zV} {s : State} {H : Heap} {As : List Value} {B : Heap → Prop} (hB : B H) (hE : zE V s) : PreS s H (zPc V As B) As :=
  ⟨zPc_blind, fun _ hU hW => ⟨rfl, by rw [hU]; exact hB, hE.moved hW⟩⟩
-- an end: the answer and what the heap holds; nothing outside A has changed
def zQi (post : Int32 → Heap → Prop) (A : Nat → Prop) : Array Value → State → Outcome → State → Prop := fun _ st oc t => (∃ r : Int32, oc = .returned (some (.int r)) ∧ post r t.heap) ∧ va_F A st t
def zQv (post : Heap → Prop) (A : Nat → Prop) : Array Value → State → Outcome → State → Prop := fun _ st oc t => (oc = .returned none ∧ post t.heap) ∧ va_F A st t
section ZC
variable {p : Program} {l : Launch} {e : Env} {R : Room} {s : State} {m : MethodId} {args : Array Value} {below : List Frame} {meth : Method} {c : Code} {H : Heap} {locs : List Loc} {cells slots : Nat} {Q : State → Prop}
variable {pc : Nat} {ls : Array Slot} {rest st0 : List Value} {a : Array Value} {A0 A1 : Nat → Prop} {H0 : Heap} {mc ms : Nat} {free : Addr → Prop}
theorem zc_i {post : Int32 → Heap → Prop} (hr : va_Run p l e R s m args below meth c H locs cells slots mc ms (F0 m pc ls st0) rest (zQi post A1 a) free) (hS : va_S A0 H0 H locs) (hA : ∀ q, A1 q → A0 q) (hf : ∀ q, free q → A0 q)
    (kk : ∀ (r : Int32) (H1 : Heap) (locs1 : List Loc), post r H1 → H.size ≤ H1.size → (∀ q : Nat, q < H.size → ¬ A1 q → H1[q]? = H[q]?) → va_S A0 H0 H1 locs1 → W p l e R s m args below meth c H1 locs1 (cells + mc) (slots + ms) Q (F0 m (pc + 3) ls (.int r :: rest))) : W p l e R s m args below meth c H locs cells slots Q (F0 m pc ls st0) := by
  intro T hT X
  obtain ⟨v, st₀, t, T', L, h0, X', hL, e1, e2, ⟨⟨r, hv, hp⟩, hz, hk⟩, st⟩ := hr T hT X
  cases hv
  rw [h0] at hz hk
  obtain ⟨t2, a1, b1⟩ := kk r T'.heap (locs ++ L) (by rw [e1]; exact hp) (by rw [e1]; exact hz) (fun q h1 h2 => by rw [e1]; exact hk q h1 h2)
    ⟨Nat.le_trans hS.1 (by rw [e1]; exact hz), fun q h1 h2 => by rw [e1, hk q (Nat.lt_of_lt_of_le h1 hS.1) (fun z => h2 (hA q z))]; exact hS.2.1 q h1 h2, fun q hq => by
      rcases List.mem_append.mp hq with h | h
      · exact hS.2.2 q h
      · exact hf _ (hL q h)⟩ T' rfl X'
  exact ⟨t2, st t2 a1, b1⟩
theorem zc_v {post : Heap → Prop} (hr : va_Run p l e R s m args below meth c H locs cells slots mc ms (F0 m pc ls st0) rest (zQv post A1 a) free) (hS : va_S A0 H0 H locs) (hA : ∀ q, A1 q → A0 q) (hf : ∀ q, free q → A0 q)
    (kk : ∀ (H1 : Heap) (locs1 : List Loc), post H1 → H.size ≤ H1.size → (∀ q : Nat, q < H.size → ¬ A1 q → H1[q]? = H[q]?) → va_S A0 H0 H1 locs1 → W p l e R s m args below meth c H1 locs1 (cells + mc) (slots + ms) Q (F0 m (pc + 3) ls rest)) : W p l e R s m args below meth c H locs cells slots Q (F0 m pc ls st0) := by
  intro T hT X
  obtain ⟨v, st₀, t, T', L, h0, X', hL, e1, e2, ⟨⟨hv, hp⟩, hz, hk⟩, st⟩ := hr T hT X
  cases hv
  rw [h0] at hz hk
  obtain ⟨t2, a1, b1⟩ := kk T'.heap (locs ++ L) (by rw [e1]; exact hp) (by rw [e1]; exact hz) (fun q h1 h2 => by rw [e1]; exact hk q h1 h2)
    ⟨Nat.le_trans hS.1 (by rw [e1]; exact hz), fun q h1 h2 => by rw [e1, hk q (Nat.lt_of_lt_of_le h1 hS.1) (fun z => h2 (hA q z))]; exact hS.2.1 q h1 h2, fun q hq => by
      rcases List.mem_append.mp hq with h | h
      · exact hS.2.2 q h
      · exact hf _ (hL q h)⟩ T' rfl X'
  exact ⟨t2, st t2 a1, b1⟩
theorem zc_si {post : Int32 → Prop} (hr : va_Run p l e R s m args below meth c H locs cells slots 0 0 (F0 m pc ls st0) rest (vp_Si post a) (fun _ => False))
    (kk : ∀ r : Int32, post r → W p l e R s m args below meth c H locs cells slots Q (F0 m (pc + 3) ls (.int r :: rest))) : W p l e R s m args below meth c H locs cells slots Q (F0 m pc ls st0) := by
  intro T hT X
  obtain ⟨v, st₀, t, T', L, h0, X', hL, e1, e2, ⟨r, hv, hp, hh⟩, st⟩ := hr T hT X
  cases hv
  obtain ⟨t2, a1, b1⟩ := kk r hp T' (by rw [e1, hh, h0]) (Stand.forget X' (fun q h => (hL q h).elim))
  exact ⟨t2, st t2 a1, b1⟩
/-- a reading call whose answer is known -/
theorem zc_se {v : Int32} (hr : va_Run p l e R s m args below meth c H locs cells slots 0 0 (F0 m pc ls st0) rest (vp_Si (fun r => r = v) a) (fun _ => False))
    (kk : W p l e R s m args below meth c H locs cells slots Q (F0 m (pc + 3) ls (.int v :: rest))) : W p l e R s m args below meth c H locs cells slots Q (F0 m pc ls st0) :=
  zc_si hr (fun r h => by rw [h]; exact kk)
theorem zc_sq {post : Option Nat → Prop} (hr : va_Run p l e R s m args below meth c H locs cells slots 0 0 (F0 m pc ls st0) rest (va_Sq post a) (fun _ => False))
    (kk : ∀ r : Option Nat, post r → W p l e R s m args below meth c H locs cells slots Q (F0 m (pc + 3) ls (va_rf r :: rest))) : W p l e R s m args below meth c H locs cells slots Q (F0 m pc ls st0) := by
  intro T hT X
  obtain ⟨v, st₀, t, T', L, h0, X', hL, e1, e2, ⟨r, hv, hp, hh⟩, st⟩ := hr T hT X
  cases hv
  obtain ⟨t2, a1, b1⟩ := kk r hp T' (by rw [e1, hh, h0]) (Stand.forget X' (fun q h => (hL q h).elim))
  exact ⟨t2, st t2 a1, b1⟩
theorem zt_i {x y : Int32} (h : x = y) (k : W p l e R s m args below meth c H locs cells slots Q (F0 m pc ls (.int y :: rest))) : W p l e R s m args below meth c H locs cells slots Q (F0 m pc ls (.int x :: rest)) := by rw [h]; exact k
theorem zt_l {x y : Int64} (h : x = y) (k : W p l e R s m args below meth c H locs cells slots Q (F0 m pc ls (.long y :: rest))) : W p l e R s m args below meth c H locs cells slots Q (F0 m pc ls (.long x :: rest)) := by rw [h]; exact k
variable {cc : ByteArray} {D : va_G} {cl : List vw_C} {A : Nat → Prop} {q : Nat} {tys : List (ClassId × FieldType)} {ws : va_W}
-- returns
theorem zr_i {post : Int32 → Heap → Prop} {v : Int32} (hexec : p.tables.exec = Jvm.exec) (hb : c.code = cc) (hr : meth.sig.returnType = some .int) (hlocks : meth.locks = false) (hS : va_S A s.heap H locs) (h : post v H) (hdg : decode cc pc = .ok (.ireturn, 1)) : W p l e R s m args below meth c H locs cells slots (MQ below (zQi post A) args s cells slots A) (F0 m pc ls [.int v]) :=
  W.iret hexec hb hr (fun t ht _ => ⟨⟨v, rfl, by rw [ht]; exact h⟩, hS.F ht⟩) hS.2.2 hdg hlocks
theorem zr_v {post : Heap → Prop} (hexec : p.tables.exec = Jvm.exec) (hb : c.code = cc) (hr : meth.sig.returnType = none) (hlocks : meth.locks = false) (hS : va_S A s.heap H locs) (h : post H) (hdg : decode cc pc = .ok (.return_, 1)) : W p l e R s m args below meth c H locs cells slots (MQ below (zQv post A) args s cells slots A) (F0 m pc ls []) :=
  W.vret hexec hb hr (fun t ht _ => ⟨⟨rfl, by rw [ht]; exact h⟩, hS.F ht⟩) hS.2.2 hdg hlocks
theorem zr_z {post : Int32 → Heap → Prop} {v : Int32} (hexec : p.tables.exec = Jvm.exec) (hb : c.code = cc) (hr : meth.sig.returnType = some .boolean) (hlocks : meth.locks = false) (hS : va_S A s.heap H locs) (hn : v = 0 ∨ v = 1) (h : post v H) (hdg : decode cc pc = .ok (.ireturn, 1)) : W p l e R s m args below meth c H locs cells slots (MQ below (zQi post A) args s cells slots A) (F0 m pc ls [.int v]) :=
  W.zret hexec hb hr (by rcases hn with rfl | rfl <;> rfl) (fun t ht _ => ⟨⟨v, rfl, by rw [ht]; exact h⟩, hS.F ht⟩) hS.2.2 hdg hlocks
theorem zr_si {post : Int32 → Prop} {v : Int32} (hexec : p.tables.exec = Jvm.exec) (hb : c.code = cc) (hr : meth.sig.returnType = some .int) (hlocks : meth.locks = false) (h : post v) (hdg : decode cc pc = .ok (.ireturn, 1)) : W p l e R s m args below meth c s.heap [] cells slots (MQ below (vp_Si post) args s cells slots (fun _ => False)) (F0 m pc ls [.int v]) :=
  W.iret hexec hb hr (fun t ht _ => ⟨v, rfl, h, ht⟩) (fun _ h => by cases h) hdg hlocks
theorem zr_sz {post : Int32 → Prop} {v : Int32} (hexec : p.tables.exec = Jvm.exec) (hb : c.code = cc) (hr : meth.sig.returnType = some .boolean) (hlocks : meth.locks = false) (hn : v = 0 ∨ v = 1) (h : post v) (hdg : decode cc pc = .ok (.ireturn, 1)) : W p l e R s m args below meth c s.heap [] cells slots (MQ below (vp_Si post) args s cells slots (fun _ => False)) (F0 m pc ls [.int v]) :=
  W.zret hexec hb hr (by rcases hn with rfl | rfl <;> rfl) (fun t ht _ => ⟨v, rfl, h, ht⟩) (fun _ h => by cases h) hdg hlocks
theorem zr_sq {post : Option Nat → Prop} {r : Option Nat} {C : String} (hexec : p.tables.exec = Jvm.exec) (hb : c.code = cc) (hr : meth.sig.returnType = some (.object C)) (hlocks : meth.locks = false) (h : post r) (hdg : decode cc pc = .ok (.areturn, 1)) : W p l e R s m args below meth c s.heap [] cells slots (MQ below (va_Sq post) args s cells slots (fun _ => False)) (F0 m pc ls [va_rf r]) :=
  W.aret hexec hb hr (Or.inl ⟨C, rfl⟩) (va_rf_or r) (fun t ht _ => ⟨r, rfl, h, ht⟩) (fun _ h => by cases h) hdg hlocks
-- arrays at a place that is a number
theorem z_iald {V : zV} (hexec : p.tables.exec = Jvm.exec) (hb : c.code = cc) (hE : zE V s) (hP : va_P V.1 vwCl ws H) (q0 : Nat) {n : Nat} {f : Nat → Int32} (ha : ws[q0]? = some (q, .inl (V.2.1, n, .inl f))) {k : Nat} (hk : k < n) (hn : n < 2 ^ 31) (hdg : decode cc pc = .ok (.iaload, 1))
    (kk : W p l e R s m args below meth c H locs cells slots Q (F0 m (pc + 1) ls (.int (f k) :: rest))) : W p l e R s m args below meth c H locs cells slots Q (F0 m pc ls (.int (nI k) :: .ref q :: rest)) := by
  refine va_iald hexec hb hE.1 hP q0 0 ha rfl (vp_in_nI hk hn) hdg ?_
  rw [nI_clamp (Nat.lt_trans hk hn)]
  exact kk
theorem z_zald {V : zV} (hexec : p.tables.exec = Jvm.exec) (hb : c.code = cc) (hE : zE V s) (hP : va_P V.1 vwCl ws H) (q0 : Nat) {n : Nat} {f : Nat → Int32} (ha : ws[q0]? = some (q, .inl (V.2.2.1, n, .inl f))) {k : Nat} (hk : k < n) (hn : n < 2 ^ 31) (hdg : decode cc pc = .ok (.baload, 1))
    (kk : W p l e R s m args below meth c H locs cells slots Q (F0 m (pc + 1) ls (.int (f k) :: rest))) : W p l e R s m args below meth c H locs cells slots Q (F0 m pc ls (.int (nI k) :: .ref q :: rest)) := by
  refine va_zald hexec hb hE.1 hP q0 1 ha rfl (vp_in_nI hk hn) hdg ?_
  rw [nI_clamp (Nat.lt_trans hk hn)]
  exact kk
theorem z_aald {V : zV} (hexec : p.tables.exec = Jvm.exec) (hb : c.code = cc) (hE : zE V s) (hP : va_P V.1 vwCl ws H) (q0 : Nat) {n : Nat} {f : Nat → Option Nat} (ha : ws[q0]? = some (q, .inl (V.2.2.2, n, .inr (.inr (.inr (.inr f)))))) {k : Nat} (hk : k < n) (hn : n < 2 ^ 31) (hdg : decode cc pc = .ok (.aaload, 1))
    (kk : W p l e R s m args below meth c H locs cells slots Q (F0 m (pc + 1) ls (va_rf (f k) :: rest))) : W p l e R s m args below meth c H locs cells slots Q (F0 m pc ls (.int (nI k) :: .ref q :: rest)) := by
  refine va_aldq hexec hb hE.1 hP q0 2 ha rfl (vp_in_nI hk hn) hdg ?_
  rw [nI_clamp (Nat.lt_trans hk hn)]
  exact kk
theorem z_iast {V : zV} (hexec : p.tables.exec = Jvm.exec) (hb : c.code = cc) (hE : zE V s) (hP : va_P V.1 vwCl ws H) (hD : va_D A ws) (hS : va_S A H0 H locs) (q0 : Nat) {n : Nat} {f : Nat → Int32} (ha : ws[q0]? = some (q, .inl (V.2.1, n, .inl f))) {k : Nat} {x : Int32} (hk : k < n) (hn : n < 2 ^ 31) (hdg : decode cc pc = .ok (.iastore, 1))
    (kk : ∀ (H1 : Heap) (locs1 : List Loc), va_P V.1 vwCl (ws.set q0 (q, .inl (V.2.1, n, .inl (upd f k x)))) H1 → va_S A H0 H1 locs1 → W p l e R s m args below meth c H1 locs1 cells slots Q (F0 m (pc + 1) ls rest)) : W p l e R s m args below meth c H locs cells slots Q (F0 m pc ls (.int x :: .int (nI k) :: .ref q :: rest)) := by
  refine va_iast hexec hb hE.1 hP hD hS q0 0 ha rfl (vp_in_nI hk hn) hdg (fun H1 locs1 h1 _ h3 => ?_)
  rw [nI_clamp (Nat.lt_trans hk hn)] at h1
  exact kk H1 locs1 h1 h3
theorem z_zast {V : zV} (hexec : p.tables.exec = Jvm.exec) (hb : c.code = cc) (hE : zE V s) (hP : va_P V.1 vwCl ws H) (hD : va_D A ws) (hS : va_S A H0 H locs) (q0 : Nat) {n : Nat} {f : Nat → Int32} (ha : ws[q0]? = some (q, .inl (V.2.2.1, n, .inl f))) {k : Nat} {x : Int32} (hx1 : vp_nar .boolean x = x) (hk : k < n) (hn : n < 2 ^ 31) (hdg : decode cc pc = .ok (.bastore, 1))
    (kk : ∀ (H1 : Heap) (locs1 : List Loc), va_P V.1 vwCl (ws.set q0 (q, .inl (V.2.2.1, n, .inl (upd f k x)))) H1 → va_S A H0 H1 locs1 → W p l e R s m args below meth c H1 locs1 cells slots Q (F0 m (pc + 1) ls rest)) : W p l e R s m args below meth c H locs cells slots Q (F0 m pc ls (.int x :: .int (nI k) :: .ref q :: rest)) := by
  refine va_zast hexec hb hE.1 hP hD hS q0 1 ha rfl (vp_in_nI hk hn) hdg (fun H1 locs1 h1 _ h3 => ?_)
  rw [nI_clamp (Nat.lt_trans hk hn), hx1] at h1
  exact kk H1 locs1 h1 h3
end ZC
-- worlds by places
def zWd (N : Nat) (g : Nat → Nat) (E : Nat → va_E) : va_W := (List.range N).map (fun p => (g p, E p))
def zIn (N : Nat) (g : Nat → Nat) : Nat → Prop := fun q => ∃ p, p < N ∧ q = g p
def zInj (N : Nat) (g : Nat → Nat) : Prop := ∀ i j, i < N → j < N → g i = g j → i = j
theorem zWd_at {N p : Nat} {g : Nat → Nat} {E : Nat → va_E} (hp : p < N) : (zWd N g E)[p]? = some (g p, E p) := by
  simp [zWd, List.getElem?_map, List.getElem?_range hp]
theorem zWd_of {N k : Nat} {g : Nat → Nat} {E : Nat → va_E} {q : Nat × va_E} (h : (zWd N g E)[k]? = some q) : k < N ∧ q = (g k, E k) := by
  have hl : k < (zWd N g E).length := (List.getElem?_eq_some_iff.mp h).1
  have hk : k < N := by simpa [zWd] using hl
  refine ⟨hk, ?_⟩
  rw [zWd_at hk] at h
  exact (Option.some.inj h).symm
theorem zWd_set {N p : Nat} {g : Nat → Nat} {E E' : Nat → va_E} {x : va_E} (hp : p < N) (he : E' p = x) (ho : ∀ q, q < N → q ≠ p → E' q = E q) : (zWd N g E).set p (g p, x) = zWd N g E' := by
  refine List.ext_getElem? (fun k => ?_)
  by_cases hk : k < N
  · rw [zWd_at hk]
    by_cases h : k = p
    · subst h
      rw [List.getElem?_set_self (by simpa [zWd] using hk), he]
    · rw [List.getElem?_set_ne (Ne.symm h), zWd_at hk, ho k hk h]
  · rw [List.getElem?_eq_none (by simpa [zWd] using hk), List.getElem?_eq_none (by simpa [zWd] using hk)]
theorem zD {N : Nat} {g : Nat → Nat} {E : Nat → va_E} (h : zInj N g) : va_D (zIn N g) (zWd N g E) := by
  refine ⟨fun i j x y hi hj hxy => ?_, fun k q hk => ?_⟩
  · obtain ⟨h1, rfl⟩ := zWd_of hi
    obtain ⟨h2, rfl⟩ := zWd_of hj
    exact h i j h1 h2 hxy
  · obtain ⟨h1, rfl⟩ := zWd_of hk
    exact ⟨k, h1, rfl⟩
theorem zP_mk {D : va_G} {cl : List vw_C} {N : Nat} {g : Nat → Nat} {E : Nat → va_E} {H : Heap} (h : ∀ p, p < N → va_at D cl (g p, E p) H) : va_P D cl (zWd N g E) H := by
  intro k q hk
  obtain ⟨h1, rfl⟩ := zWd_of hk
  exact h k h1
theorem zP_at {D : va_G} {cl : List vw_C} {N p : Nat} {g : Nat → Nat} {E : Nat → va_E} {H : Heap} (h : va_P D cl (zWd N g E) H) (hp : p < N) : va_at D cl (g p, E p) H := h p _ (zWd_at hp)
/-- a part of a world, by places -/
theorem zP_sub {D : va_G} {cl : List vw_C} {N M : Nat} {g g' : Nat → Nat} {E E' : Nat → va_E} {H : Heap} (h : va_P D cl (zWd N g E) H) (f : Nat → Nat) (hf : ∀ p, p < M → f p < N ∧ g' p = g (f p) ∧ E' p = E (f p)) : va_P D cl (zWd M g' E') H :=
  zP_mk (fun p hp => by obtain ⟨h1, h2, h3⟩ := hf p hp; rw [h2, h3]; exact zP_at h h1)
/-- a world behind a call: its own places changed as the callee says, the others stay -/
theorem zP_join {D : va_G} {cl : List vw_C} {N : Nat} {g : Nat → Nat} {E E' : Nat → va_E} {A1 : Nat → Prop} {H H1 : Heap} (h : va_P D cl (zWd N g E) H) (hk : ∀ q : Nat, q < H.size → ¬ A1 q → H1[q]? = H[q]?) (hn : ∀ p, p < N → va_at D cl (g p, E' p) H1 ∨ (E' p = E p ∧ ¬ A1 (g p))) : va_P D cl (zWd N g E') H1 :=
  zP_mk (fun p hp => by
    rcases hn p hp with h1 | ⟨h1, h2⟩
    · exact h1
    · have h3 := zP_at h hp
      rw [h1]
      exact h3.kept (hk _ h3.lt h2))
theorem z_arr {cA : ClassId} {n : Nat} {f f' : Nat → Int32} (h : ∀ j, j < n → f j = f' j) : vp_cell cA (n, .inl f) = vp_cell cA (n, .inl f') := by
  rw [vp_cell_i, vp_cell_i]
  unfold arrV
  congr 2
  funext j
  exact congrArg Value.int (h j.val j.isLt)
theorem z_atx {D : va_G} {cl : List vw_C} {a : Nat} {cA : ClassId} {n : Nat} {f f' : Nat → Int32} {H : Heap} (h : va_at D cl (a, .inl (cA, n, .inl f)) H) (hf : ∀ j, j < n → f j = f' j) : va_at D cl (a, .inl (cA, n, .inl f')) H := by
  show H[a]? = some (vp_cell cA (n, .inl f'))
  rw [← z_arr hf]
  exact h
theorem zUp_s {α : Type} (f : Nat → α) (k : Nat) (v : α) : va_up f k v k = v := if_pos rfl
theorem zUp_n {α : Type} (f : Nat → α) {k j : Nat} (v : α) (h : j ≠ k) : va_up f k v j = f j := if_neg h
section ZB
variable {p : Program} {l : Launch} {e : Env} {R : Room} {s : State} {m : MethodId} {args : Array Value} {below : List Frame} {meth : Method} {c : Code} {H : Heap} {locs : List Loc} {cells slots : Nat} {Q : State → Prop}
variable {pc : Nat} {ls : Array Slot} {rest : List Value} {cc : ByteArray}
theorem zb_eq (hexec : p.tables.exec = Jvm.exec) (hb : c.code = cc) {x y : Nat} {off : Int} {tgt : Nat} (hdg : decode cc pc = .ok (.if_icmp .eq off, 3)) (ht : (pc : Int) + off = (tgt : Int)) (hx : x < 2 ^ 31) (hy : y < 2 ^ 31) (kt : x = y → W p l e R s m args below meth c H locs cells slots Q (F0 m tgt ls rest)) (kf : x ≠ y → W p l e R s m args below meth c H locs cells slots Q (F0 m (pc + 3) ls rest)) : W p l e R s m args below meth c H locs cells slots Q (F0 m pc ls (.int (nI y) :: .int (nI x) :: rest)) :=
  lv_icmp_eq hexec hb hdg ht (fun h => kt ((nI_eq hx hy).mp h)) (fun h => kf (fun z => h (by rw [z])))
theorem zb_ne (hexec : p.tables.exec = Jvm.exec) (hb : c.code = cc) {x y : Nat} {off : Int} {tgt : Nat} (hdg : decode cc pc = .ok (.if_icmp .ne off, 3)) (ht : (pc : Int) + off = (tgt : Int)) (hx : x < 2 ^ 31) (hy : y < 2 ^ 31) (kt : x ≠ y → W p l e R s m args below meth c H locs cells slots Q (F0 m tgt ls rest)) (kf : x = y → W p l e R s m args below meth c H locs cells slots Q (F0 m (pc + 3) ls rest)) : W p l e R s m args below meth c H locs cells slots Q (F0 m pc ls (.int (nI y) :: .int (nI x) :: rest)) :=
  lv_icmp_ne hexec hb hdg ht (fun h => kt (fun z => h (by rw [z]))) (fun h => kf ((nI_eq hx hy).mp h))
theorem zb_lt (hexec : p.tables.exec = Jvm.exec) (hb : c.code = cc) {x y : Nat} {off : Int} {tgt : Nat} (hdg : decode cc pc = .ok (.if_icmp .lt off, 3)) (ht : (pc : Int) + off = (tgt : Int)) (hx : x < 2 ^ 31) (hy : y < 2 ^ 31) (kt : x < y → W p l e R s m args below meth c H locs cells slots Q (F0 m tgt ls rest)) (kf : y ≤ x → W p l e R s m args below meth c H locs cells slots Q (F0 m (pc + 3) ls rest)) : W p l e R s m args below meth c H locs cells slots Q (F0 m pc ls (.int (nI y) :: .int (nI x) :: rest)) :=
  lv_icmp_lt hexec hb hdg ht (fun h => kt ((nI_ltI hx hy).mp h)) (fun h => kf (Nat.not_lt.mp (fun z => h (nI_lt z hy))))
theorem zb_ge (hexec : p.tables.exec = Jvm.exec) (hb : c.code = cc) {x y : Nat} {off : Int} {tgt : Nat} (hdg : decode cc pc = .ok (.if_icmp .ge off, 3)) (ht : (pc : Int) + off = (tgt : Int)) (hx : x < 2 ^ 31) (hy : y < 2 ^ 31) (kt : y ≤ x → W p l e R s m args below meth c H locs cells slots Q (F0 m tgt ls rest)) (kf : x < y → W p l e R s m args below meth c H locs cells slots Q (F0 m (pc + 3) ls rest)) : W p l e R s m args below meth c H locs cells slots Q (F0 m pc ls (.int (nI y) :: .int (nI x) :: rest)) :=
  lv_icmp_ge hexec hb hdg ht (fun h => kt ((nI_leI hy hx).mp h)) (fun h => kf (Nat.not_le.mp (fun z => h (nI_le z hx))))
theorem zb_gt (hexec : p.tables.exec = Jvm.exec) (hb : c.code = cc) {x y : Nat} {off : Int} {tgt : Nat} (hdg : decode cc pc = .ok (.if_icmp .gt off, 3)) (ht : (pc : Int) + off = (tgt : Int)) (hx : x < 2 ^ 31) (hy : y < 2 ^ 31) (kt : y < x → W p l e R s m args below meth c H locs cells slots Q (F0 m tgt ls rest)) (kf : x ≤ y → W p l e R s m args below meth c H locs cells slots Q (F0 m (pc + 3) ls rest)) : W p l e R s m args below meth c H locs cells slots Q (F0 m pc ls (.int (nI y) :: .int (nI x) :: rest)) :=
  lv_icmp_gt hexec hb hdg ht (fun h => kt ((nI_ltI hy hx).mp h)) (fun h => kf (Nat.not_lt.mp (fun z => h (nI_lt z hx))))
theorem zb_le (hexec : p.tables.exec = Jvm.exec) (hb : c.code = cc) {x y : Nat} {off : Int} {tgt : Nat} (hdg : decode cc pc = .ok (.if_icmp .le off, 3)) (ht : (pc : Int) + off = (tgt : Int)) (hx : x < 2 ^ 31) (hy : y < 2 ^ 31) (kt : x ≤ y → W p l e R s m args below meth c H locs cells slots Q (F0 m tgt ls rest)) (kf : y < x → W p l e R s m args below meth c H locs cells slots Q (F0 m (pc + 3) ls rest)) : W p l e R s m args below meth c H locs cells slots Q (F0 m pc ls (.int (nI y) :: .int (nI x) :: rest)) :=
  lv_icmp_le hexec hb hdg ht (fun h => kt ((nI_leI hx hy).mp h)) (fun h => kf (Nat.not_le.mp (fun z => h (nI_le z hy))))
theorem zb0_eq (hexec : p.tables.exec = Jvm.exec) (hb : c.code = cc) {x : Nat} {off : Int} {tgt : Nat} (hdg : decode cc pc = .ok (.ifCond .eq off, 3)) (ht : (pc : Int) + off = (tgt : Int)) (hx : x < 2 ^ 31) (kt : x = 0 → W p l e R s m args below meth c H locs cells slots Q (F0 m tgt ls rest)) (kf : x ≠ 0 → W p l e R s m args below meth c H locs cells slots Q (F0 m (pc + 3) ls rest)) : W p l e R s m args below meth c H locs cells slots Q (F0 m pc ls (.int (nI x) :: rest)) :=
  lv_if_eq hexec hb hdg ht (fun h => kt ((nI_eq hx (by decide)).mp h)) (fun h => kf (fun z => h (by rw [z]; rfl)))
theorem zb0_ne (hexec : p.tables.exec = Jvm.exec) (hb : c.code = cc) {x : Nat} {off : Int} {tgt : Nat} (hdg : decode cc pc = .ok (.ifCond .ne off, 3)) (ht : (pc : Int) + off = (tgt : Int)) (hx : x < 2 ^ 31) (kt : x ≠ 0 → W p l e R s m args below meth c H locs cells slots Q (F0 m tgt ls rest)) (kf : x = 0 → W p l e R s m args below meth c H locs cells slots Q (F0 m (pc + 3) ls rest)) : W p l e R s m args below meth c H locs cells slots Q (F0 m pc ls (.int (nI x) :: rest)) :=
  lv_if_ne hexec hb hdg ht (fun h => kt (fun z => h (by rw [z]; rfl))) (fun h => kf ((nI_eq hx (by decide)).mp h))
theorem zb0_gt (hexec : p.tables.exec = Jvm.exec) (hb : c.code = cc) {x : Nat} {off : Int} {tgt : Nat} (hdg : decode cc pc = .ok (.ifCond .gt off, 3)) (ht : (pc : Int) + off = (tgt : Int)) (hx : x < 2 ^ 31) (kt : 0 < x → W p l e R s m args below meth c H locs cells slots Q (F0 m tgt ls rest)) (kf : x = 0 → W p l e R s m args below meth c H locs cells slots Q (F0 m (pc + 3) ls rest)) : W p l e R s m args below meth c H locs cells slots Q (F0 m pc ls (.int (nI x) :: rest)) :=
  lv_if_gt hexec hb hdg ht (fun h => kt ((nI_ltI (a := 0) (by decide) hx).mp h)) (fun h => kf (Nat.eq_zero_of_not_pos (fun q => h ((nI_ltI (a := 0) (by decide) hx).mpr q))))
theorem zb0_le (hexec : p.tables.exec = Jvm.exec) (hb : c.code = cc) {x : Nat} {off : Int} {tgt : Nat} (hdg : decode cc pc = .ok (.ifCond .le off, 3)) (ht : (pc : Int) + off = (tgt : Int)) (hx : x < 2 ^ 31) (kt : x = 0 → W p l e R s m args below meth c H locs cells slots Q (F0 m tgt ls rest)) (kf : 0 < x → W p l e R s m args below meth c H locs cells slots Q (F0 m (pc + 3) ls rest)) : W p l e R s m args below meth c H locs cells slots Q (F0 m pc ls (.int (nI x) :: rest)) :=
  lv_if_le hexec hb hdg ht (fun h => kt (Nat.le_zero.mp ((nI_leI (b := 0) hx (by decide)).mp h))) (fun h => kf (Nat.pos_of_ne_zero (fun q => h (by rw [q]; decide))))
theorem zb0_lt (hexec : p.tables.exec = Jvm.exec) (hb : c.code = cc) {x : Nat} {off : Int} {tgt : Nat} (hdg : decode cc pc = .ok (.ifCond .lt off, 3)) (ht : (pc : Int) + off = (tgt : Int)) (hx : x < 2 ^ 31) (kt : False → W p l e R s m args below meth c H locs cells slots Q (F0 m tgt ls rest)) (kf : True → W p l e R s m args below meth c H locs cells slots Q (F0 m (pc + 3) ls rest)) : W p l e R s m args below meth c H locs cells slots Q (F0 m pc ls (.int (nI x) :: rest)) :=
  lv_if_lt hexec hb hdg ht (fun h => kt (nI_pos hx h)) (fun h => kf trivial)
theorem zb0_ge (hexec : p.tables.exec = Jvm.exec) (hb : c.code = cc) {x : Nat} {off : Int} {tgt : Nat} (hdg : decode cc pc = .ok (.ifCond .ge off, 3)) (ht : (pc : Int) + off = (tgt : Int)) (hx : x < 2 ^ 31) (kt : True → W p l e R s m args below meth c H locs cells slots Q (F0 m tgt ls rest)) (kf : False → W p l e R s m args below meth c H locs cells slots Q (F0 m (pc + 3) ls rest)) : W p l e R s m args below meth c H locs cells slots Q (F0 m pc ls (.int (nI x) :: rest)) :=
  lv_if_ge hexec hb hdg ht (fun h => kt trivial) (fun h => kf (h (nI_pos' hx)))
theorem zbp_eq {P : Prop} [Decidable P] (hexec : p.tables.exec = Jvm.exec) (hb : c.code = cc) {off : Int} {tgt : Nat} (hdg : decode cc pc = .ok (.ifCond .eq off, 3)) (ht : (pc : Int) + off = (tgt : Int)) (kt : ¬ P → W p l e R s m args below meth c H locs cells slots Q (F0 m tgt ls rest)) (kf : P → W p l e R s m args below meth c H locs cells slots Q (F0 m (pc + 3) ls rest)) : W p l e R s m args below meth c H locs cells slots Q (F0 m pc ls (.int (if P then 1 else 0) :: rest)) := by
  by_cases h : P
  · rw [if_pos h]
    exact lv_if_eq hexec hb hdg ht (fun q => by first | exact absurd q (by decide) | exact kt h) (fun q => by first | exact kf h | exact absurd q (by decide))
  · rw [if_neg h]
    exact lv_if_eq hexec hb hdg ht (fun q => by first | exact kt h | exact absurd q (by decide)) (fun q => by first | exact absurd q (by decide) | exact kf h)
theorem zbp_ne {P : Prop} [Decidable P] (hexec : p.tables.exec = Jvm.exec) (hb : c.code = cc) {off : Int} {tgt : Nat} (hdg : decode cc pc = .ok (.ifCond .ne off, 3)) (ht : (pc : Int) + off = (tgt : Int)) (kt : P → W p l e R s m args below meth c H locs cells slots Q (F0 m tgt ls rest)) (kf : ¬ P → W p l e R s m args below meth c H locs cells slots Q (F0 m (pc + 3) ls rest)) : W p l e R s m args below meth c H locs cells slots Q (F0 m pc ls (.int (if P then 1 else 0) :: rest)) := by
  by_cases h : P
  · rw [if_pos h]
    exact lv_if_ne hexec hb hdg ht (fun q => by first | exact absurd q (by decide) | exact kt h) (fun q => by first | exact kf h | exact absurd q (by decide))
  · rw [if_neg h]
    exact lv_if_ne hexec hb hdg ht (fun q => by first | exact kt h | exact absurd q (by decide)) (fun q => by first | exact absurd q (by decide) | exact kf h)
theorem zbz_ne {P : Prop} [Decidable P] (hexec : p.tables.exec = Jvm.exec) (hb : c.code = cc) {off : Int} {tgt : Nat} (hdg : decode cc pc = .ok (.ifCond .ne off, 3)) (ht : (pc : Int) + off = (tgt : Int)) (kt : ¬ P → W p l e R s m args below meth c H locs cells slots Q (F0 m tgt ls rest)) (kf : P → W p l e R s m args below meth c H locs cells slots Q (F0 m (pc + 3) ls rest)) : W p l e R s m args below meth c H locs cells slots Q (F0 m pc ls (.int (if P then 0 else -3) :: rest)) := by
  by_cases h : P
  · rw [if_pos h]
    exact lv_if_ne hexec hb hdg ht (fun q => absurd rfl q) (fun _ => kf h)
  · rw [if_neg h]
    exact lv_if_ne hexec hb hdg ht (fun _ => kt h) (fun q => absurd q (by decide))
theorem z_add {a b c : Nat} (h : a + b = c) : nI a + nI b = nI c := by rw [nI_add, h]
theorem z_mul {a b c : Nat} (h : a * b = c) : nI a * nI b = nI c := by rw [pk_mul, h]
theorem z_sub {a b c : Nat} (h : b ≤ a) (h2 : a - b = c) : nI a - nI b = nI c := by rw [pk_sub h, h2]
theorem z_rng (x : Int32) (n : Nat) (hn : n < 2 ^ 31) : (∃ k, k < n ∧ x = nI k) ∨ (x.toInt < 0 ∨ (n : Int) - 1 < x.toInt) := by
  by_cases h : vp_in x n
  · obtain ⟨j, h1, h2⟩ := vp_in_of h hn
    exact Or.inl ⟨j, h1, h2⟩
  · rw [vp_in_iff] at h
    refine Or.inr ?_
    omega
theorem z_ite01 {P : Prop} [Decidable P] : (if P then (1 : Int32) else 0) = 0 ∨ (if P then (1 : Int32) else 0) = 1 := by by_cases h : P <;> simp [h]
theorem z_inc1 (a : Nat) : nI a + Int32.ofInt 1 = nI (a + 1) := nI_1 a
theorem zJ {G : JFrame → Prop} {α : Type} {g : JFrame} (P : α → Prop) (f : α → JFrame) (J : ∀ x, P x → G (f x)) (k : (∀ x, P x → G (f x)) → G g) : G g := k J
end ZB
end
section
theorem dX8_init_0 : decode cX8_init 0 = .ok (.aload_n 0, 1) := by decide +kernel
theorem dX8_init_1 : decode cX8_init 1 = .ok (.invokespecial 1, 3) := by decide +kernel
theorem dX8_init_4 : decode cX8_init 4 = .ok (.aload_n 0, 1) := by decide +kernel
theorem dX8_init_5 : decode cX8_init 5 = .ok (.sipush 258, 3) := by decide +kernel
theorem dX8_init_8 : decode cX8_init 8 = .ok (.newarray .int, 2) := by decide +kernel
theorem dX8_init_10 : decode cX8_init 10 = .ok (.putfield 7, 3) := by decide +kernel
theorem dX8_init_13 : decode cX8_init 13 = .ok (.aload_n 0, 1) := by decide +kernel
theorem dX8_init_14 : decode cX8_init 14 = .ok (.sipush 1548, 3) := by decide +kernel
theorem dX8_init_17 : decode cX8_init 17 = .ok (.newarray .int, 2) := by decide +kernel
theorem dX8_init_19 : decode cX8_init 19 = .ok (.putfield 13, 3) := by decide +kernel
theorem dX8_init_22 : decode cX8_init 22 = .ok (.aload_n 0, 1) := by decide +kernel
theorem dX8_init_23 : decode cX8_init 23 = .ok (.sipush 258, 3) := by decide +kernel
theorem dX8_init_26 : decode cX8_init 26 = .ok (.newarray .int, 2) := by decide +kernel
theorem dX8_init_28 : decode cX8_init 28 = .ok (.putfield 16, 3) := by decide +kernel
theorem dX8_init_31 : decode cX8_init 31 = .ok (.aload_n 0, 1) := by decide +kernel
theorem dX8_init_32 : decode cX8_init 32 = .ok (.sipush 258, 3) := by decide +kernel
theorem dX8_init_35 : decode cX8_init 35 = .ok (.newarray .int, 2) := by decide +kernel
theorem dX8_init_37 : decode cX8_init 37 = .ok (.putfield 19, 3) := by decide +kernel
theorem dX8_init_40 : decode cX8_init 40 = .ok (.aload_n 0, 1) := by decide +kernel
theorem dX8_init_41 : decode cX8_init 41 = .ok (.sipush 516, 3) := by decide +kernel
theorem dX8_init_44 : decode cX8_init 44 = .ok (.newarray .int, 2) := by decide +kernel
theorem dX8_init_46 : decode cX8_init 46 = .ok (.putfield 22, 3) := by decide +kernel
theorem dX8_init_49 : decode cX8_init 49 = .ok (.aload_n 0, 1) := by decide +kernel
theorem dX8_init_50 : decode cX8_init 50 = .ok (.iconst 2, 1) := by decide +kernel
theorem dX8_init_51 : decode cX8_init 51 = .ok (.newarray .boolean, 2) := by decide +kernel
theorem dX8_init_53 : decode cX8_init 53 = .ok (.putfield 25, 3) := by decide +kernel
theorem dX8_init_56 : decode cX8_init 56 = .ok (.aload_n 0, 1) := by decide +kernel
theorem dX8_init_57 : decode cX8_init 57 = .ok (.bipush 80, 2) := by decide +kernel
theorem dX8_init_59 : decode cX8_init 59 = .ok (.newarray .int, 2) := by decide +kernel
theorem dX8_init_61 : decode cX8_init 61 = .ok (.putfield 29, 3) := by decide +kernel
theorem dX8_init_64 : decode cX8_init 64 = .ok (.aload_n 0, 1) := by decide +kernel
theorem dX8_init_65 : decode cX8_init 65 = .ok (.bipush 8, 2) := by decide +kernel
theorem dX8_init_67 : decode cX8_init 67 = .ok (.newarray .int, 2) := by decide +kernel
theorem dX8_init_69 : decode cX8_init 69 = .ok (.putfield 32, 3) := by decide +kernel
theorem dX8_init_72 : decode cX8_init 72 = .ok (.aload_n 0, 1) := by decide +kernel
theorem dX8_init_73 : decode cX8_init 73 = .ok (.getfield 7, 3) := by decide +kernel
theorem dX8_init_76 : decode cX8_init 76 = .ok (.iconst 0, 1) := by decide +kernel
theorem dX8_init_77 : decode cX8_init 77 = .ok (.bipush 50, 2) := by decide +kernel
theorem dX8_init_79 : decode cX8_init 79 = .ok (.iastore, 1) := by decide +kernel
theorem dX8_init_80 : decode cX8_init 80 = .ok (.aload_n 0, 1) := by decide +kernel
theorem dX8_init_81 : decode cX8_init 81 = .ok (.getfield 7, 3) := by decide +kernel
theorem dX8_init_84 : decode cX8_init 84 = .ok (.iconst 1, 1) := by decide +kernel
theorem dX8_init_85 : decode cX8_init 85 = .ok (.sipush 200, 3) := by decide +kernel
theorem dX8_init_88 : decode cX8_init 88 = .ok (.iastore, 1) := by decide +kernel
theorem dX8_init_89 : decode cX8_init 89 = .ok (.aload_n 0, 1) := by decide +kernel
theorem dX8_init_90 : decode cX8_init 90 = .ok (.getfield 7, 3) := by decide +kernel
theorem dX8_init_93 : decode cX8_init 93 = .ok (.iconst 2, 1) := by decide +kernel
theorem dX8_init_94 : decode cX8_init 94 = .ok (.iconst 4, 1) := by decide +kernel
theorem dX8_init_95 : decode cX8_init 95 = .ok (.iastore, 1) := by decide +kernel
theorem dX8_init_96 : decode cX8_init 96 = .ok (.aload_n 0, 1) := by decide +kernel
theorem dX8_init_97 : decode cX8_init 97 = .ok (.getfield 7, 3) := by decide +kernel
theorem dX8_init_100 : decode cX8_init 100 = .ok (.iconst 3, 1) := by decide +kernel
theorem dX8_init_101 : decode cX8_init 101 = .ok (.iconst 2, 1) := by decide +kernel
theorem dX8_init_102 : decode cX8_init 102 = .ok (.iastore, 1) := by decide +kernel
theorem dX8_init_103 : decode cX8_init 103 = .ok (.aload_n 0, 1) := by decide +kernel
theorem dX8_init_104 : decode cX8_init 104 = .ok (.getfield 7, 3) := by decide +kernel
theorem dX8_init_107 : decode cX8_init 107 = .ok (.iconst 4, 1) := by decide +kernel
theorem dX8_init_108 : decode cX8_init 108 = .ok (.iconst 1, 1) := by decide +kernel
theorem dX8_init_109 : decode cX8_init 109 = .ok (.iastore, 1) := by decide +kernel
theorem dX8_init_110 : decode cX8_init 110 = .ok (.aload_n 0, 1) := by decide +kernel
theorem dX8_init_111 : decode cX8_init 111 = .ok (.getfield 7, 3) := by decide +kernel
theorem dX8_init_114 : decode cX8_init 114 = .ok (.iconst 5, 1) := by decide +kernel
theorem dX8_init_115 : decode cX8_init 115 = .ok (.iconst 2, 1) := by decide +kernel
theorem dX8_init_116 : decode cX8_init 116 = .ok (.iastore, 1) := by decide +kernel
theorem dX8_init_117 : decode cX8_init 117 = .ok (.aload_n 0, 1) := by decide +kernel
theorem dX8_init_118 : decode cX8_init 118 = .ok (.getfield 7, 3) := by decide +kernel
theorem dX8_init_121 : decode cX8_init 121 = .ok (.bipush 16, 2) := by decide +kernel
theorem dX8_init_123 : decode cX8_init 123 = .ok (.iconst 2, 1) := by decide +kernel
theorem dX8_init_124 : decode cX8_init 124 = .ok (.iastore, 1) := by decide +kernel
theorem dX8_init_125 : decode cX8_init 125 = .ok (.return_, 1) := by decide +kernel
theorem dX8_in_0 : decode cX8_in 0 = .ok (.lload_n 0, 1) := by decide +kernel
theorem dX8_in_1 : decode cX8_in 1 = .ok (.iload_n 2, 1) := by decide +kernel
theorem dX8_in_2 : decode cX8_in 2 = .ok (.i2l, 1) := by decide +kernel
theorem dX8_in_3 : decode cX8_in 3 = .ok (.lcmp, 1) := by decide +kernel
theorem dX8_in_4 : decode cX8_in 4 = .ok (.ifCond .lt 14, 3) := by decide +kernel
theorem dX8_in_7 : decode cX8_in 7 = .ok (.lload_n 0, 1) := by decide +kernel
theorem dX8_in_8 : decode cX8_in 8 = .ok (.iload_n 3, 1) := by decide +kernel
theorem dX8_in_9 : decode cX8_in 9 = .ok (.i2l, 1) := by decide +kernel
theorem dX8_in_10 : decode cX8_in 10 = .ok (.lcmp, 1) := by decide +kernel
theorem dX8_in_11 : decode cX8_in 11 = .ok (.ifCond .gt 7, 3) := by decide +kernel
theorem dX8_in_14 : decode cX8_in 14 = .ok (.iconst 1, 1) := by decide +kernel
theorem dX8_in_15 : decode cX8_in 15 = .ok (.goto 4, 3) := by decide +kernel
theorem dX8_in_18 : decode cX8_in 18 = .ok (.iconst 0, 1) := by decide +kernel
theorem dX8_in_19 : decode cX8_in 19 = .ok (.ireturn, 1) := by decide +kernel
theorem dX8_far_0 : decode cX8_far 0 = .ok (.iload_n 0, 1) := by decide +kernel
theorem dX8_far_1 : decode cX8_far 1 = .ok (.iload_n 1, 1) := by decide +kernel
theorem dX8_far_2 : decode cX8_far 2 = .ok (.if_icmp .ge 9, 3) := by decide +kernel
theorem dX8_far_5 : decode cX8_far 5 = .ok (.iload_n 1, 1) := by decide +kernel
theorem dX8_far_6 : decode cX8_far 6 = .ok (.iload_n 0, 1) := by decide +kernel
theorem dX8_far_7 : decode cX8_far 7 = .ok (.isub, 1) := by decide +kernel
theorem dX8_far_8 : decode cX8_far 8 = .ok (.goto 6, 3) := by decide +kernel
theorem dX8_far_11 : decode cX8_far 11 = .ok (.iload_n 0, 1) := by decide +kernel
theorem dX8_far_12 : decode cX8_far 12 = .ok (.iload_n 1, 1) := by decide +kernel
theorem dX8_far_13 : decode cX8_far 13 = .ok (.isub, 1) := by decide +kernel
theorem dX8_far_14 : decode cX8_far 14 = .ok (.ireturn, 1) := by decide +kernel
theorem dX8_its_0 : decode cX8_its 0 = .ok (.aload_n 0, 1) := by decide +kernel
theorem dX8_its_1 : decode cX8_its 1 = .ok (.getfield 7, 3) := by decide +kernel
theorem dX8_its_4 : decode cX8_its 4 = .ok (.bipush 78, 2) := by decide +kernel
theorem dX8_its_6 : decode cX8_its 6 = .ok (.bipush 6, 2) := by decide +kernel
theorem dX8_its_8 : decode cX8_its 8 = .ok (.iload_n 1, 1) := by decide +kernel
theorem dX8_its_9 : decode cX8_its 9 = .ok (.imul, 1) := by decide +kernel
theorem dX8_its_10 : decode cX8_its 10 = .ok (.iadd, 1) := by decide +kernel
theorem dX8_its_11 : decode cX8_its 11 = .ok (.iload_n 2, 1) := by decide +kernel
theorem dX8_its_12 : decode cX8_its 12 = .ok (.iadd, 1) := by decide +kernel
theorem dX8_its_13 : decode cX8_its 13 = .ok (.iaload, 1) := by decide +kernel
theorem dX8_its_14 : decode cX8_its 14 = .ok (.ireturn, 1) := by decide +kernel
theorem dX8_lastOf_0 : decode cX8_lastOf 0 = .ok (.aload_n 0, 1) := by decide +kernel
theorem dX8_lastOf_1 : decode cX8_lastOf 1 = .ok (.iload_n 1, 1) := by decide +kernel
theorem dX8_lastOf_2 : decode cX8_lastOf 2 = .ok (.iconst 2, 1) := by decide +kernel
theorem dX8_lastOf_3 : decode cX8_lastOf 3 = .ok (.invokevirtual 35, 3) := by decide +kernel
theorem dX8_lastOf_6 : decode cX8_lastOf 6 = .ok (.aload_n 0, 1) := by decide +kernel
theorem dX8_lastOf_7 : decode cX8_lastOf 7 = .ok (.iload_n 1, 1) := by decide +kernel
theorem dX8_lastOf_8 : decode cX8_lastOf 8 = .ok (.iconst 3, 1) := by decide +kernel
theorem dX8_lastOf_9 : decode cX8_lastOf 9 = .ok (.invokevirtual 35, 3) := by decide +kernel
theorem dX8_lastOf_12 : decode cX8_lastOf 12 = .ok (.iadd, 1) := by decide +kernel
theorem dX8_lastOf_13 : decode cX8_lastOf 13 = .ok (.iconst 1, 1) := by decide +kernel
theorem dX8_lastOf_14 : decode cX8_lastOf 14 = .ok (.isub, 1) := by decide +kernel
theorem dX8_lastOf_15 : decode cX8_lastOf 15 = .ok (.ireturn, 1) := by decide +kernel
theorem dX8_find_0 : decode cX8_find 0 = .ok (.iconst 0, 1) := by decide +kernel
theorem dX8_find_1 : decode cX8_find 1 = .ok (.istore_n 2, 1) := by decide +kernel
theorem dX8_find_2 : decode cX8_find 2 = .ok (.iload_n 2, 1) := by decide +kernel
theorem dX8_find_3 : decode cX8_find 3 = .ok (.aload_n 0, 1) := by decide +kernel
theorem dX8_find_4 : decode cX8_find 4 = .ok (.getfield 7, 3) := by decide +kernel
theorem dX8_find_7 : decode cX8_find 7 = .ok (.bipush 7, 2) := by decide +kernel
theorem dX8_find_9 : decode cX8_find 9 = .ok (.iaload, 1) := by decide +kernel
theorem dX8_find_10 : decode cX8_find 10 = .ok (.if_icmp .ge 21, 3) := by decide +kernel
theorem dX8_find_13 : decode cX8_find 13 = .ok (.aload_n 0, 1) := by decide +kernel
theorem dX8_find_14 : decode cX8_find 14 = .ok (.iload_n 2, 1) := by decide +kernel
theorem dX8_find_15 : decode cX8_find 15 = .ok (.iconst 0, 1) := by decide +kernel
theorem dX8_find_16 : decode cX8_find 16 = .ok (.invokevirtual 35, 3) := by decide +kernel
theorem dX8_find_19 : decode cX8_find 19 = .ok (.iload_n 1, 1) := by decide +kernel
theorem dX8_find_20 : decode cX8_find 20 = .ok (.if_icmp .ne 5, 3) := by decide +kernel
theorem dX8_find_23 : decode cX8_find 23 = .ok (.iload_n 2, 1) := by decide +kernel
theorem dX8_find_24 : decode cX8_find 24 = .ok (.ireturn, 1) := by decide +kernel
theorem dX8_find_25 : decode cX8_find 25 = .ok (.iinc 2 1, 3) := by decide +kernel
theorem dX8_find_28 : decode cX8_find 28 = .ok (.goto (-26), 3) := by decide +kernel
theorem dX8_find_31 : decode cX8_find 31 = .ok (.bipush (-6), 2) := by decide +kernel
theorem dX8_find_33 : decode cX8_find 33 = .ok (.ireturn, 1) := by decide +kernel
theorem dX8_many_0 : decode cX8_many 0 = .ok (.iconst 0, 1) := by decide +kernel
theorem dX8_many_1 : decode cX8_many 1 = .ok (.istore_n 2, 1) := by decide +kernel
theorem dX8_many_2 : decode cX8_many 2 = .ok (.iconst 0, 1) := by decide +kernel
theorem dX8_many_3 : decode cX8_many 3 = .ok (.istore_n 3, 1) := by decide +kernel
theorem dX8_many_4 : decode cX8_many 4 = .ok (.iload_n 3, 1) := by decide +kernel
theorem dX8_many_5 : decode cX8_many 5 = .ok (.aload_n 0, 1) := by decide +kernel
theorem dX8_many_6 : decode cX8_many 6 = .ok (.getfield 7, 3) := by decide +kernel
theorem dX8_many_9 : decode cX8_many 9 = .ok (.bipush 7, 2) := by decide +kernel
theorem dX8_many_11 : decode cX8_many 11 = .ok (.iaload, 1) := by decide +kernel
theorem dX8_many_12 : decode cX8_many 12 = .ok (.if_icmp .ge 27, 3) := by decide +kernel
theorem dX8_many_15 : decode cX8_many 15 = .ok (.iload_n 2, 1) := by decide +kernel
theorem dX8_many_16 : decode cX8_many 16 = .ok (.aload_n 0, 1) := by decide +kernel
theorem dX8_many_17 : decode cX8_many 17 = .ok (.iload_n 3, 1) := by decide +kernel
theorem dX8_many_18 : decode cX8_many 18 = .ok (.iconst 1, 1) := by decide +kernel
theorem dX8_many_19 : decode cX8_many 19 = .ok (.invokevirtual 35, 3) := by decide +kernel
theorem dX8_many_22 : decode cX8_many 22 = .ok (.iload_n 1, 1) := by decide +kernel
theorem dX8_many_23 : decode cX8_many 23 = .ok (.if_icmp .ne 7, 3) := by decide +kernel
theorem dX8_many_26 : decode cX8_many 26 = .ok (.iconst 1, 1) := by decide +kernel
theorem dX8_many_27 : decode cX8_many 27 = .ok (.goto 4, 3) := by decide +kernel
theorem dX8_many_30 : decode cX8_many 30 = .ok (.iconst 0, 1) := by decide +kernel
theorem dX8_many_31 : decode cX8_many 31 = .ok (.iadd, 1) := by decide +kernel
theorem dX8_many_32 : decode cX8_many 32 = .ok (.istore_n 2, 1) := by decide +kernel
theorem dX8_many_33 : decode cX8_many 33 = .ok (.iinc 3 1, 3) := by decide +kernel
theorem dX8_many_36 : decode cX8_many 36 = .ok (.goto (-32), 3) := by decide +kernel
theorem dX8_many_39 : decode cX8_many 39 = .ok (.iload_n 2, 1) := by decide +kernel
theorem dX8_many_40 : decode cX8_many 40 = .ok (.ireturn, 1) := by decide +kernel
theorem dX8_remember_0 : decode cX8_remember 0 = .ok (.iconst 0, 1) := by decide +kernel
theorem dX8_remember_1 : decode cX8_remember 1 = .ok (.istore_n 1, 1) := by decide +kernel
theorem dX8_remember_2 : decode cX8_remember 2 = .ok (.iload_n 1, 1) := by decide +kernel
theorem dX8_remember_3 : decode cX8_remember 3 = .ok (.sipush 258, 3) := by decide +kernel
theorem dX8_remember_6 : decode cX8_remember 6 = .ok (.if_icmp .ge 21, 3) := by decide +kernel
theorem dX8_remember_9 : decode cX8_remember 9 = .ok (.aload_n 0, 1) := by decide +kernel
theorem dX8_remember_10 : decode cX8_remember 10 = .ok (.getfield 16, 3) := by decide +kernel
theorem dX8_remember_13 : decode cX8_remember 13 = .ok (.iload_n 1, 1) := by decide +kernel
theorem dX8_remember_14 : decode cX8_remember 14 = .ok (.aload_n 0, 1) := by decide +kernel
theorem dX8_remember_15 : decode cX8_remember 15 = .ok (.getfield 7, 3) := by decide +kernel
theorem dX8_remember_18 : decode cX8_remember 18 = .ok (.iload_n 1, 1) := by decide +kernel
theorem dX8_remember_19 : decode cX8_remember 19 = .ok (.iaload, 1) := by decide +kernel
theorem dX8_remember_20 : decode cX8_remember 20 = .ok (.iastore, 1) := by decide +kernel
theorem dX8_remember_21 : decode cX8_remember 21 = .ok (.iinc 1 1, 3) := by decide +kernel
theorem dX8_remember_24 : decode cX8_remember 24 = .ok (.goto (-22), 3) := by decide +kernel
theorem dX8_remember_27 : decode cX8_remember 27 = .ok (.return_, 1) := by decide +kernel
theorem dX8_record_0 : decode cX8_record 0 = .ok (.iload_n 1, 1) := by decide +kernel
theorem dX8_record_1 : decode cX8_record 1 = .ok (.ifCond .ge 5, 3) := by decide +kernel
theorem dX8_record_4 : decode cX8_record 4 = .ok (.iload_n 1, 1) := by decide +kernel
theorem dX8_record_5 : decode cX8_record 5 = .ok (.ireturn, 1) := by decide +kernel
theorem dX8_record_6 : decode cX8_record 6 = .ok (.aload_n 0, 1) := by decide +kernel
theorem dX8_record_7 : decode cX8_record 7 = .ok (.getfield 39, 3) := by decide +kernel
theorem dX8_record_10 : decode cX8_record 10 = .ok (.bipush 6, 2) := by decide +kernel
theorem dX8_record_12 : decode cX8_record 12 = .ok (.if_icmp .ne 44, 3) := by decide +kernel
theorem dX8_record_15 : decode cX8_record 15 = .ok (.iconst 0, 1) := by decide +kernel
theorem dX8_record_16 : decode cX8_record 16 = .ok (.istore_n 2, 1) := by decide +kernel
theorem dX8_record_17 : decode cX8_record 17 = .ok (.iload_n 2, 1) := by decide +kernel
theorem dX8_record_18 : decode cX8_record 18 = .ok (.sipush 1290, 3) := by decide +kernel
theorem dX8_record_21 : decode cX8_record 21 = .ok (.if_icmp .ge 25, 3) := by decide +kernel
theorem dX8_record_24 : decode cX8_record 24 = .ok (.aload_n 0, 1) := by decide +kernel
theorem dX8_record_25 : decode cX8_record 25 = .ok (.getfield 13, 3) := by decide +kernel
theorem dX8_record_28 : decode cX8_record 28 = .ok (.iload_n 2, 1) := by decide +kernel
theorem dX8_record_29 : decode cX8_record 29 = .ok (.aload_n 0, 1) := by decide +kernel
theorem dX8_record_30 : decode cX8_record 30 = .ok (.getfield 13, 3) := by decide +kernel
theorem dX8_record_33 : decode cX8_record 33 = .ok (.sipush 258, 3) := by decide +kernel
theorem dX8_record_36 : decode cX8_record 36 = .ok (.iload_n 2, 1) := by decide +kernel
theorem dX8_record_37 : decode cX8_record 37 = .ok (.iadd, 1) := by decide +kernel
theorem dX8_record_38 : decode cX8_record 38 = .ok (.iaload, 1) := by decide +kernel
theorem dX8_record_39 : decode cX8_record 39 = .ok (.iastore, 1) := by decide +kernel
theorem dX8_record_40 : decode cX8_record 40 = .ok (.iinc 2 1, 3) := by decide +kernel
theorem dX8_record_43 : decode cX8_record 43 = .ok (.goto (-26), 3) := by decide +kernel
theorem dX8_record_46 : decode cX8_record 46 = .ok (.aload_n 0, 1) := by decide +kernel
theorem dX8_record_47 : decode cX8_record 47 = .ok (.dup, 1) := by decide +kernel
theorem dX8_record_48 : decode cX8_record 48 = .ok (.getfield 39, 3) := by decide +kernel
theorem dX8_record_51 : decode cX8_record 51 = .ok (.iconst 1, 1) := by decide +kernel
theorem dX8_record_52 : decode cX8_record 52 = .ok (.isub, 1) := by decide +kernel
theorem dX8_record_53 : decode cX8_record 53 = .ok (.putfield 39, 3) := by decide +kernel
theorem dX8_record_56 : decode cX8_record 56 = .ok (.iconst 0, 1) := by decide +kernel
theorem dX8_record_57 : decode cX8_record 57 = .ok (.istore_n 2, 1) := by decide +kernel
theorem dX8_record_58 : decode cX8_record 58 = .ok (.iload_n 2, 1) := by decide +kernel
theorem dX8_record_59 : decode cX8_record 59 = .ok (.sipush 258, 3) := by decide +kernel
theorem dX8_record_62 : decode cX8_record 62 = .ok (.if_icmp .ge 30, 3) := by decide +kernel
theorem dX8_record_65 : decode cX8_record 65 = .ok (.aload_n 0, 1) := by decide +kernel
theorem dX8_record_66 : decode cX8_record 66 = .ok (.getfield 13, 3) := by decide +kernel
theorem dX8_record_69 : decode cX8_record 69 = .ok (.sipush 258, 3) := by decide +kernel
theorem dX8_record_72 : decode cX8_record 72 = .ok (.aload_n 0, 1) := by decide +kernel
theorem dX8_record_73 : decode cX8_record 73 = .ok (.getfield 39, 3) := by decide +kernel
theorem dX8_record_76 : decode cX8_record 76 = .ok (.imul, 1) := by decide +kernel
theorem dX8_record_77 : decode cX8_record 77 = .ok (.iload_n 2, 1) := by decide +kernel
theorem dX8_record_78 : decode cX8_record 78 = .ok (.iadd, 1) := by decide +kernel
theorem dX8_record_79 : decode cX8_record 79 = .ok (.aload_n 0, 1) := by decide +kernel
theorem dX8_record_80 : decode cX8_record 80 = .ok (.getfield 16, 3) := by decide +kernel
theorem dX8_record_83 : decode cX8_record 83 = .ok (.iload_n 2, 1) := by decide +kernel
theorem dX8_record_84 : decode cX8_record 84 = .ok (.iaload, 1) := by decide +kernel
theorem dX8_record_85 : decode cX8_record 85 = .ok (.iastore, 1) := by decide +kernel
theorem dX8_record_86 : decode cX8_record 86 = .ok (.iinc 2 1, 3) := by decide +kernel
theorem dX8_record_89 : decode cX8_record 89 = .ok (.goto (-31), 3) := by decide +kernel
theorem dX8_record_92 : decode cX8_record 92 = .ok (.aload_n 0, 1) := by decide +kernel
theorem dX8_record_93 : decode cX8_record 93 = .ok (.dup, 1) := by decide +kernel
theorem dX8_record_94 : decode cX8_record 94 = .ok (.getfield 39, 3) := by decide +kernel
theorem dX8_record_97 : decode cX8_record 97 = .ok (.iconst 1, 1) := by decide +kernel
theorem dX8_record_98 : decode cX8_record 98 = .ok (.iadd, 1) := by decide +kernel
theorem dX8_record_99 : decode cX8_record 99 = .ok (.putfield 39, 3) := by decide +kernel
theorem dX8_record_102 : decode cX8_record 102 = .ok (.iload_n 1, 1) := by decide +kernel
theorem dX8_record_103 : decode cX8_record 103 = .ok (.ireturn, 1) := by decide +kernel
theorem dX8_undo_0 : decode cX8_undo 0 = .ok (.aload_n 0, 1) := by decide +kernel
theorem dX8_undo_1 : decode cX8_undo 1 = .ok (.getfield 39, 3) := by decide +kernel
theorem dX8_undo_4 : decode cX8_undo 4 = .ok (.ifCond .ne 6, 3) := by decide +kernel
theorem dX8_undo_7 : decode cX8_undo 7 = .ok (.bipush (-5), 2) := by decide +kernel
theorem dX8_undo_9 : decode cX8_undo 9 = .ok (.ireturn, 1) := by decide +kernel
theorem dX8_undo_10 : decode cX8_undo 10 = .ok (.aload_n 0, 1) := by decide +kernel
theorem dX8_undo_11 : decode cX8_undo 11 = .ok (.dup, 1) := by decide +kernel
theorem dX8_undo_12 : decode cX8_undo 12 = .ok (.getfield 39, 3) := by decide +kernel
theorem dX8_undo_15 : decode cX8_undo 15 = .ok (.iconst 1, 1) := by decide +kernel
theorem dX8_undo_16 : decode cX8_undo 16 = .ok (.isub, 1) := by decide +kernel
theorem dX8_undo_17 : decode cX8_undo 17 = .ok (.putfield 39, 3) := by decide +kernel
theorem dX8_undo_20 : decode cX8_undo 20 = .ok (.iconst 0, 1) := by decide +kernel
theorem dX8_undo_21 : decode cX8_undo 21 = .ok (.istore_n 1, 1) := by decide +kernel
theorem dX8_undo_22 : decode cX8_undo 22 = .ok (.iload_n 1, 1) := by decide +kernel
theorem dX8_undo_23 : decode cX8_undo 23 = .ok (.sipush 258, 3) := by decide +kernel
theorem dX8_undo_26 : decode cX8_undo 26 = .ok (.if_icmp .ge 30, 3) := by decide +kernel
theorem dX8_undo_29 : decode cX8_undo 29 = .ok (.aload_n 0, 1) := by decide +kernel
theorem dX8_undo_30 : decode cX8_undo 30 = .ok (.getfield 7, 3) := by decide +kernel
theorem dX8_undo_33 : decode cX8_undo 33 = .ok (.iload_n 1, 1) := by decide +kernel
theorem dX8_undo_34 : decode cX8_undo 34 = .ok (.aload_n 0, 1) := by decide +kernel
theorem dX8_undo_35 : decode cX8_undo 35 = .ok (.getfield 13, 3) := by decide +kernel
theorem dX8_undo_38 : decode cX8_undo 38 = .ok (.sipush 258, 3) := by decide +kernel
theorem dX8_undo_41 : decode cX8_undo 41 = .ok (.aload_n 0, 1) := by decide +kernel
theorem dX8_undo_42 : decode cX8_undo 42 = .ok (.getfield 39, 3) := by decide +kernel
theorem dX8_undo_45 : decode cX8_undo 45 = .ok (.imul, 1) := by decide +kernel
theorem dX8_undo_46 : decode cX8_undo 46 = .ok (.iload_n 1, 1) := by decide +kernel
theorem dX8_undo_47 : decode cX8_undo 47 = .ok (.iadd, 1) := by decide +kernel
theorem dX8_undo_48 : decode cX8_undo 48 = .ok (.iaload, 1) := by decide +kernel
theorem dX8_undo_49 : decode cX8_undo 49 = .ok (.iastore, 1) := by decide +kernel
theorem dX8_undo_50 : decode cX8_undo 50 = .ok (.iinc 1 1, 3) := by decide +kernel
theorem dX8_undo_53 : decode cX8_undo 53 = .ok (.goto (-31), 3) := by decide +kernel
theorem dX8_undo_56 : decode cX8_undo 56 = .ok (.aload_n 0, 1) := by decide +kernel
theorem dX8_undo_57 : decode cX8_undo 57 = .ok (.getfield 39, 3) := by decide +kernel
theorem dX8_undo_60 : decode cX8_undo 60 = .ok (.ireturn, 1) := by decide +kernel
theorem dX8_save_0 : decode cX8_save 0 = .ok (.iload_n 1, 1) := by decide +kernel
theorem dX8_save_1 : decode cX8_save 1 = .ok (.i2l, 1) := by decide +kernel
theorem dX8_save_2 : decode cX8_save 2 = .ok (.iconst 0, 1) := by decide +kernel
theorem dX8_save_3 : decode cX8_save 3 = .ok (.iconst 1, 1) := by decide +kernel
theorem dX8_save_4 : decode cX8_save 4 = .ok (.invokestatic 43, 3) := by decide +kernel
theorem dX8_save_7 : decode cX8_save 7 = .ok (.ifCond .ne 6, 3) := by decide +kernel
theorem dX8_save_10 : decode cX8_save 10 = .ok (.bipush (-2), 2) := by decide +kernel
theorem dX8_save_12 : decode cX8_save 12 = .ok (.ireturn, 1) := by decide +kernel
theorem dX8_save_13 : decode cX8_save 13 = .ok (.iconst 0, 1) := by decide +kernel
theorem dX8_save_14 : decode cX8_save 14 = .ok (.istore_n 2, 1) := by decide +kernel
theorem dX8_save_15 : decode cX8_save 15 = .ok (.iload_n 2, 1) := by decide +kernel
theorem dX8_save_16 : decode cX8_save 16 = .ok (.sipush 258, 3) := by decide +kernel
theorem dX8_save_19 : decode cX8_save 19 = .ok (.if_icmp .ge 27, 3) := by decide +kernel
theorem dX8_save_22 : decode cX8_save 22 = .ok (.aload_n 0, 1) := by decide +kernel
theorem dX8_save_23 : decode cX8_save 23 = .ok (.getfield 22, 3) := by decide +kernel
theorem dX8_save_26 : decode cX8_save 26 = .ok (.sipush 258, 3) := by decide +kernel
theorem dX8_save_29 : decode cX8_save 29 = .ok (.iload_n 1, 1) := by decide +kernel
theorem dX8_save_30 : decode cX8_save 30 = .ok (.imul, 1) := by decide +kernel
theorem dX8_save_31 : decode cX8_save 31 = .ok (.iload_n 2, 1) := by decide +kernel
theorem dX8_save_32 : decode cX8_save 32 = .ok (.iadd, 1) := by decide +kernel
theorem dX8_save_33 : decode cX8_save 33 = .ok (.aload_n 0, 1) := by decide +kernel
theorem dX8_save_34 : decode cX8_save 34 = .ok (.getfield 7, 3) := by decide +kernel
theorem dX8_save_37 : decode cX8_save 37 = .ok (.iload_n 2, 1) := by decide +kernel
theorem dX8_save_38 : decode cX8_save 38 = .ok (.iaload, 1) := by decide +kernel
theorem dX8_save_39 : decode cX8_save 39 = .ok (.iastore, 1) := by decide +kernel
theorem dX8_save_40 : decode cX8_save 40 = .ok (.iinc 2 1, 3) := by decide +kernel
theorem dX8_save_43 : decode cX8_save 43 = .ok (.goto (-28), 3) := by decide +kernel
theorem dX8_save_46 : decode cX8_save 46 = .ok (.aload_n 0, 1) := by decide +kernel
theorem dX8_save_47 : decode cX8_save 47 = .ok (.getfield 25, 3) := by decide +kernel
theorem dX8_save_50 : decode cX8_save 50 = .ok (.iload_n 1, 1) := by decide +kernel
theorem dX8_save_51 : decode cX8_save 51 = .ok (.iconst 1, 1) := by decide +kernel
theorem dX8_save_52 : decode cX8_save 52 = .ok (.bastore, 1) := by decide +kernel
theorem dX8_save_53 : decode cX8_save 53 = .ok (.aload_n 0, 1) := by decide +kernel
theorem dX8_save_54 : decode cX8_save 54 = .ok (.getfield 7, 3) := by decide +kernel
theorem dX8_save_57 : decode cX8_save 57 = .ok (.bipush 7, 2) := by decide +kernel
theorem dX8_save_59 : decode cX8_save 59 = .ok (.iaload, 1) := by decide +kernel
theorem dX8_save_60 : decode cX8_save 60 = .ok (.ireturn, 1) := by decide +kernel
theorem dX8_restore_0 : decode cX8_restore 0 = .ok (.iload_n 1, 1) := by decide +kernel
theorem dX8_restore_1 : decode cX8_restore 1 = .ok (.i2l, 1) := by decide +kernel
theorem dX8_restore_2 : decode cX8_restore 2 = .ok (.iconst 0, 1) := by decide +kernel
theorem dX8_restore_3 : decode cX8_restore 3 = .ok (.iconst 1, 1) := by decide +kernel
theorem dX8_restore_4 : decode cX8_restore 4 = .ok (.invokestatic 43, 3) := by decide +kernel
theorem dX8_restore_7 : decode cX8_restore 7 = .ok (.ifCond .ne 6, 3) := by decide +kernel
theorem dX8_restore_10 : decode cX8_restore 10 = .ok (.bipush (-2), 2) := by decide +kernel
theorem dX8_restore_12 : decode cX8_restore 12 = .ok (.ireturn, 1) := by decide +kernel
theorem dX8_restore_13 : decode cX8_restore 13 = .ok (.aload_n 0, 1) := by decide +kernel
theorem dX8_restore_14 : decode cX8_restore 14 = .ok (.getfield 25, 3) := by decide +kernel
theorem dX8_restore_17 : decode cX8_restore 17 = .ok (.iload_n 1, 1) := by decide +kernel
theorem dX8_restore_18 : decode cX8_restore 18 = .ok (.baload, 1) := by decide +kernel
theorem dX8_restore_19 : decode cX8_restore 19 = .ok (.ifCond .ne 6, 3) := by decide +kernel
theorem dX8_restore_22 : decode cX8_restore 22 = .ok (.bipush (-5), 2) := by decide +kernel
theorem dX8_restore_24 : decode cX8_restore 24 = .ok (.ireturn, 1) := by decide +kernel
theorem dX8_restore_25 : decode cX8_restore 25 = .ok (.aload_n 0, 1) := by decide +kernel
theorem dX8_restore_26 : decode cX8_restore 26 = .ok (.invokevirtual 47, 3) := by decide +kernel
theorem dX8_restore_29 : decode cX8_restore 29 = .ok (.iconst 0, 1) := by decide +kernel
theorem dX8_restore_30 : decode cX8_restore 30 = .ok (.istore_n 2, 1) := by decide +kernel
theorem dX8_restore_31 : decode cX8_restore 31 = .ok (.iload_n 2, 1) := by decide +kernel
theorem dX8_restore_32 : decode cX8_restore 32 = .ok (.sipush 258, 3) := by decide +kernel
theorem dX8_restore_35 : decode cX8_restore 35 = .ok (.if_icmp .ge 27, 3) := by decide +kernel
theorem dX8_restore_38 : decode cX8_restore 38 = .ok (.aload_n 0, 1) := by decide +kernel
theorem dX8_restore_39 : decode cX8_restore 39 = .ok (.getfield 7, 3) := by decide +kernel
theorem dX8_restore_42 : decode cX8_restore 42 = .ok (.iload_n 2, 1) := by decide +kernel
theorem dX8_restore_43 : decode cX8_restore 43 = .ok (.aload_n 0, 1) := by decide +kernel
theorem dX8_restore_44 : decode cX8_restore 44 = .ok (.getfield 22, 3) := by decide +kernel
theorem dX8_restore_47 : decode cX8_restore 47 = .ok (.sipush 258, 3) := by decide +kernel
theorem dX8_restore_50 : decode cX8_restore 50 = .ok (.iload_n 1, 1) := by decide +kernel
theorem dX8_restore_51 : decode cX8_restore 51 = .ok (.imul, 1) := by decide +kernel
theorem dX8_restore_52 : decode cX8_restore 52 = .ok (.iload_n 2, 1) := by decide +kernel
theorem dX8_restore_53 : decode cX8_restore 53 = .ok (.iadd, 1) := by decide +kernel
theorem dX8_restore_54 : decode cX8_restore 54 = .ok (.iaload, 1) := by decide +kernel
theorem dX8_restore_55 : decode cX8_restore 55 = .ok (.iastore, 1) := by decide +kernel
theorem dX8_restore_56 : decode cX8_restore 56 = .ok (.iinc 2 1, 3) := by decide +kernel
theorem dX8_restore_59 : decode cX8_restore 59 = .ok (.goto (-28), 3) := by decide +kernel
theorem dX8_restore_62 : decode cX8_restore 62 = .ok (.aload_n 0, 1) := by decide +kernel
theorem dX8_restore_63 : decode cX8_restore 63 = .ok (.aload_n 0, 1) := by decide +kernel
theorem dX8_restore_64 : decode cX8_restore 64 = .ok (.getfield 7, 3) := by decide +kernel
theorem dX8_restore_67 : decode cX8_restore 67 = .ok (.bipush 7, 2) := by decide +kernel
theorem dX8_restore_69 : decode cX8_restore 69 = .ok (.iaload, 1) := by decide +kernel
theorem dX8_restore_70 : decode cX8_restore 70 = .ok (.invokevirtual 50, 3) := by decide +kernel
theorem dX8_restore_73 : decode cX8_restore 73 = .ok (.ireturn, 1) := by decide +kernel
theorem dX8_layAside_0 : decode cX8_layAside 0 = .ok (.iconst 0, 1) := by decide +kernel
theorem dX8_layAside_1 : decode cX8_layAside 1 = .ok (.istore_n 1, 1) := by decide +kernel
theorem dX8_layAside_2 : decode cX8_layAside 2 = .ok (.iload_n 1, 1) := by decide +kernel
theorem dX8_layAside_3 : decode cX8_layAside 3 = .ok (.sipush 258, 3) := by decide +kernel
theorem dX8_layAside_6 : decode cX8_layAside 6 = .ok (.if_icmp .ge 21, 3) := by decide +kernel
theorem dX8_layAside_9 : decode cX8_layAside 9 = .ok (.aload_n 0, 1) := by decide +kernel
theorem dX8_layAside_10 : decode cX8_layAside 10 = .ok (.getfield 19, 3) := by decide +kernel
theorem dX8_layAside_13 : decode cX8_layAside 13 = .ok (.iload_n 1, 1) := by decide +kernel
theorem dX8_layAside_14 : decode cX8_layAside 14 = .ok (.aload_n 0, 1) := by decide +kernel
theorem dX8_layAside_15 : decode cX8_layAside 15 = .ok (.getfield 7, 3) := by decide +kernel
theorem dX8_layAside_18 : decode cX8_layAside 18 = .ok (.iload_n 1, 1) := by decide +kernel
theorem dX8_layAside_19 : decode cX8_layAside 19 = .ok (.iaload, 1) := by decide +kernel
theorem dX8_layAside_20 : decode cX8_layAside 20 = .ok (.iastore, 1) := by decide +kernel
theorem dX8_layAside_21 : decode cX8_layAside 21 = .ok (.iinc 1 1, 3) := by decide +kernel
theorem dX8_layAside_24 : decode cX8_layAside 24 = .ok (.goto (-22), 3) := by decide +kernel
theorem dX8_layAside_27 : decode cX8_layAside 27 = .ok (.return_, 1) := by decide +kernel
theorem dX8_putBack_0 : decode cX8_putBack 0 = .ok (.iconst 0, 1) := by decide +kernel
theorem dX8_putBack_1 : decode cX8_putBack 1 = .ok (.istore_n 1, 1) := by decide +kernel
theorem dX8_putBack_2 : decode cX8_putBack 2 = .ok (.iload_n 1, 1) := by decide +kernel
theorem dX8_putBack_3 : decode cX8_putBack 3 = .ok (.sipush 258, 3) := by decide +kernel
theorem dX8_putBack_6 : decode cX8_putBack 6 = .ok (.if_icmp .ge 21, 3) := by decide +kernel
theorem dX8_putBack_9 : decode cX8_putBack 9 = .ok (.aload_n 0, 1) := by decide +kernel
theorem dX8_putBack_10 : decode cX8_putBack 10 = .ok (.getfield 7, 3) := by decide +kernel
theorem dX8_putBack_13 : decode cX8_putBack 13 = .ok (.iload_n 1, 1) := by decide +kernel
theorem dX8_putBack_14 : decode cX8_putBack 14 = .ok (.aload_n 0, 1) := by decide +kernel
theorem dX8_putBack_15 : decode cX8_putBack 15 = .ok (.getfield 19, 3) := by decide +kernel
theorem dX8_putBack_18 : decode cX8_putBack 18 = .ok (.iload_n 1, 1) := by decide +kernel
theorem dX8_putBack_19 : decode cX8_putBack 19 = .ok (.iaload, 1) := by decide +kernel
theorem dX8_putBack_20 : decode cX8_putBack 20 = .ok (.iastore, 1) := by decide +kernel
theorem dX8_putBack_21 : decode cX8_putBack 21 = .ok (.iinc 1 1, 3) := by decide +kernel
theorem dX8_putBack_24 : decode cX8_putBack 24 = .ok (.goto (-22), 3) := by decide +kernel
theorem dX8_putBack_27 : decode cX8_putBack 27 = .ok (.return_, 1) := by decide +kernel
theorem dX8_lowest_0 : decode cX8_lowest 0 = .ok (.bipush (-6), 2) := by decide +kernel
theorem dX8_lowest_2 : decode cX8_lowest 2 = .ok (.istore_n 3, 1) := by decide +kernel
theorem dX8_lowest_3 : decode cX8_lowest 3 = .ok (.iconst 0, 1) := by decide +kernel
theorem dX8_lowest_4 : decode cX8_lowest 4 = .ok (.istore 4, 2) := by decide +kernel
theorem dX8_lowest_6 : decode cX8_lowest 6 = .ok (.iload 4, 2) := by decide +kernel
theorem dX8_lowest_8 : decode cX8_lowest 8 = .ok (.aload_n 0, 1) := by decide +kernel
theorem dX8_lowest_9 : decode cX8_lowest 9 = .ok (.getfield 7, 3) := by decide +kernel
theorem dX8_lowest_12 : decode cX8_lowest 12 = .ok (.bipush 7, 2) := by decide +kernel
theorem dX8_lowest_14 : decode cX8_lowest 14 = .ok (.iaload, 1) := by decide +kernel
theorem dX8_lowest_15 : decode cX8_lowest 15 = .ok (.if_icmp .ge 72, 3) := by decide +kernel
theorem dX8_lowest_18 : decode cX8_lowest 18 = .ok (.aload_n 0, 1) := by decide +kernel
theorem dX8_lowest_19 : decode cX8_lowest 19 = .ok (.iload 4, 2) := by decide +kernel
theorem dX8_lowest_21 : decode cX8_lowest 21 = .ok (.iconst 1, 1) := by decide +kernel
theorem dX8_lowest_22 : decode cX8_lowest 22 = .ok (.invokevirtual 35, 3) := by decide +kernel
theorem dX8_lowest_25 : decode cX8_lowest 25 = .ok (.iload_n 1, 1) := by decide +kernel
theorem dX8_lowest_26 : decode cX8_lowest 26 = .ok (.if_icmp .ne 18, 3) := by decide +kernel
theorem dX8_lowest_29 : decode cX8_lowest 29 = .ok (.aload_n 0, 1) := by decide +kernel
theorem dX8_lowest_30 : decode cX8_lowest 30 = .ok (.iload 4, 2) := by decide +kernel
theorem dX8_lowest_32 : decode cX8_lowest 32 = .ok (.iconst 2, 1) := by decide +kernel
theorem dX8_lowest_33 : decode cX8_lowest 33 = .ok (.invokevirtual 35, 3) := by decide +kernel
theorem dX8_lowest_36 : decode cX8_lowest 36 = .ok (.iload_n 2, 1) := by decide +kernel
theorem dX8_lowest_37 : decode cX8_lowest 37 = .ok (.if_icmp .lt 7, 3) := by decide +kernel
theorem dX8_lowest_40 : decode cX8_lowest 40 = .ok (.iconst 1, 1) := by decide +kernel
theorem dX8_lowest_41 : decode cX8_lowest 41 = .ok (.goto 4, 3) := by decide +kernel
theorem dX8_lowest_44 : decode cX8_lowest 44 = .ok (.iconst 0, 1) := by decide +kernel
theorem dX8_lowest_45 : decode cX8_lowest 45 = .ok (.istore 5, 2) := by decide +kernel
theorem dX8_lowest_47 : decode cX8_lowest 47 = .ok (.iload 5, 2) := by decide +kernel
theorem dX8_lowest_49 : decode cX8_lowest 49 = .ok (.ifCond .eq 30, 3) := by decide +kernel
theorem dX8_lowest_52 : decode cX8_lowest 52 = .ok (.iload_n 3, 1) := by decide +kernel
theorem dX8_lowest_53 : decode cX8_lowest 53 = .ok (.bipush (-6), 2) := by decide +kernel
theorem dX8_lowest_55 : decode cX8_lowest 55 = .ok (.if_icmp .eq 19, 3) := by decide +kernel
theorem dX8_lowest_58 : decode cX8_lowest 58 = .ok (.aload_n 0, 1) := by decide +kernel
theorem dX8_lowest_59 : decode cX8_lowest 59 = .ok (.iload 4, 2) := by decide +kernel
theorem dX8_lowest_61 : decode cX8_lowest 61 = .ok (.iconst 2, 1) := by decide +kernel
theorem dX8_lowest_62 : decode cX8_lowest 62 = .ok (.invokevirtual 35, 3) := by decide +kernel
theorem dX8_lowest_65 : decode cX8_lowest 65 = .ok (.aload_n 0, 1) := by decide +kernel
theorem dX8_lowest_66 : decode cX8_lowest 66 = .ok (.iload_n 3, 1) := by decide +kernel
theorem dX8_lowest_67 : decode cX8_lowest 67 = .ok (.iconst 2, 1) := by decide +kernel
theorem dX8_lowest_68 : decode cX8_lowest 68 = .ok (.invokevirtual 35, 3) := by decide +kernel
theorem dX8_lowest_71 : decode cX8_lowest 71 = .ok (.if_icmp .ge 8, 3) := by decide +kernel
theorem dX8_lowest_74 : decode cX8_lowest 74 = .ok (.iload 4, 2) := by decide +kernel
theorem dX8_lowest_76 : decode cX8_lowest 76 = .ok (.goto 4, 3) := by decide +kernel
theorem dX8_lowest_79 : decode cX8_lowest 79 = .ok (.iload_n 3, 1) := by decide +kernel
theorem dX8_lowest_80 : decode cX8_lowest 80 = .ok (.istore_n 3, 1) := by decide +kernel
theorem dX8_lowest_81 : decode cX8_lowest 81 = .ok (.iinc 4 1, 3) := by decide +kernel
theorem dX8_lowest_84 : decode cX8_lowest 84 = .ok (.goto (-78), 3) := by decide +kernel
theorem dX8_lowest_87 : decode cX8_lowest 87 = .ok (.iload_n 3, 1) := by decide +kernel
theorem dX8_lowest_88 : decode cX8_lowest 88 = .ok (.ireturn, 1) := by decide +kernel
theorem dX8_oldest_0 : decode cX8_oldest 0 = .ok (.bipush (-6), 2) := by decide +kernel
theorem dX8_oldest_2 : decode cX8_oldest 2 = .ok (.istore_n 2, 1) := by decide +kernel
theorem dX8_oldest_3 : decode cX8_oldest 3 = .ok (.iconst 0, 1) := by decide +kernel
theorem dX8_oldest_4 : decode cX8_oldest 4 = .ok (.istore_n 3, 1) := by decide +kernel
theorem dX8_oldest_5 : decode cX8_oldest 5 = .ok (.iload_n 3, 1) := by decide +kernel
theorem dX8_oldest_6 : decode cX8_oldest 6 = .ok (.aload_n 0, 1) := by decide +kernel
theorem dX8_oldest_7 : decode cX8_oldest 7 = .ok (.getfield 7, 3) := by decide +kernel
theorem dX8_oldest_10 : decode cX8_oldest 10 = .ok (.bipush 7, 2) := by decide +kernel
theorem dX8_oldest_12 : decode cX8_oldest 12 = .ok (.iaload, 1) := by decide +kernel
theorem dX8_oldest_13 : decode cX8_oldest 13 = .ok (.if_icmp .ge 46, 3) := by decide +kernel
theorem dX8_oldest_16 : decode cX8_oldest 16 = .ok (.aload_n 0, 1) := by decide +kernel
theorem dX8_oldest_17 : decode cX8_oldest 17 = .ok (.iload_n 3, 1) := by decide +kernel
theorem dX8_oldest_18 : decode cX8_oldest 18 = .ok (.iconst 1, 1) := by decide +kernel
theorem dX8_oldest_19 : decode cX8_oldest 19 = .ok (.invokevirtual 35, 3) := by decide +kernel
theorem dX8_oldest_22 : decode cX8_oldest 22 = .ok (.iload_n 1, 1) := by decide +kernel
theorem dX8_oldest_23 : decode cX8_oldest 23 = .ok (.if_icmp .ne 28, 3) := by decide +kernel
theorem dX8_oldest_26 : decode cX8_oldest 26 = .ok (.iload_n 2, 1) := by decide +kernel
theorem dX8_oldest_27 : decode cX8_oldest 27 = .ok (.bipush (-6), 2) := by decide +kernel
theorem dX8_oldest_29 : decode cX8_oldest 29 = .ok (.if_icmp .eq 18, 3) := by decide +kernel
theorem dX8_oldest_32 : decode cX8_oldest 32 = .ok (.aload_n 0, 1) := by decide +kernel
theorem dX8_oldest_33 : decode cX8_oldest 33 = .ok (.iload_n 3, 1) := by decide +kernel
theorem dX8_oldest_34 : decode cX8_oldest 34 = .ok (.iconst 4, 1) := by decide +kernel
theorem dX8_oldest_35 : decode cX8_oldest 35 = .ok (.invokevirtual 35, 3) := by decide +kernel
theorem dX8_oldest_38 : decode cX8_oldest 38 = .ok (.aload_n 0, 1) := by decide +kernel
theorem dX8_oldest_39 : decode cX8_oldest 39 = .ok (.iload_n 2, 1) := by decide +kernel
theorem dX8_oldest_40 : decode cX8_oldest 40 = .ok (.iconst 4, 1) := by decide +kernel
theorem dX8_oldest_41 : decode cX8_oldest 41 = .ok (.invokevirtual 35, 3) := by decide +kernel
theorem dX8_oldest_44 : decode cX8_oldest 44 = .ok (.if_icmp .ge 7, 3) := by decide +kernel
theorem dX8_oldest_47 : decode cX8_oldest 47 = .ok (.iload_n 3, 1) := by decide +kernel
theorem dX8_oldest_48 : decode cX8_oldest 48 = .ok (.goto 4, 3) := by decide +kernel
theorem dX8_oldest_51 : decode cX8_oldest 51 = .ok (.iload_n 2, 1) := by decide +kernel
theorem dX8_oldest_52 : decode cX8_oldest 52 = .ok (.istore_n 2, 1) := by decide +kernel
theorem dX8_oldest_53 : decode cX8_oldest 53 = .ok (.iinc 3 1, 3) := by decide +kernel
theorem dX8_oldest_56 : decode cX8_oldest 56 = .ok (.goto (-51), 3) := by decide +kernel
theorem dX8_oldest_59 : decode cX8_oldest 59 = .ok (.iload_n 2, 1) := by decide +kernel
theorem dX8_oldest_60 : decode cX8_oldest 60 = .ok (.ireturn, 1) := by decide +kernel
theorem dX8_isOld_0 : decode cX8_isOld 0 = .ok (.aload_n 0, 1) := by decide +kernel
theorem dX8_isOld_1 : decode cX8_isOld 1 = .ok (.getfield 7, 3) := by decide +kernel
theorem dX8_isOld_4 : decode cX8_isOld 4 = .ok (.bipush 6, 2) := by decide +kernel
theorem dX8_isOld_6 : decode cX8_isOld 6 = .ok (.iaload, 1) := by decide +kernel
theorem dX8_isOld_7 : decode cX8_isOld 7 = .ok (.aload_n 0, 1) := by decide +kernel
theorem dX8_isOld_8 : decode cX8_isOld 8 = .ok (.iload_n 1, 1) := by decide +kernel
theorem dX8_isOld_9 : decode cX8_isOld 9 = .ok (.iconst 4, 1) := by decide +kernel
theorem dX8_isOld_10 : decode cX8_isOld 10 = .ok (.invokevirtual 35, 3) := by decide +kernel
theorem dX8_isOld_13 : decode cX8_isOld 13 = .ok (.isub, 1) := by decide +kernel
theorem dX8_isOld_14 : decode cX8_isOld 14 = .ok (.aload_n 0, 1) := by decide +kernel
theorem dX8_isOld_15 : decode cX8_isOld 15 = .ok (.getfield 7, 3) := by decide +kernel
theorem dX8_isOld_18 : decode cX8_isOld 18 = .ok (.aload_n 0, 1) := by decide +kernel
theorem dX8_isOld_19 : decode cX8_isOld 19 = .ok (.iload_n 1, 1) := by decide +kernel
theorem dX8_isOld_20 : decode cX8_isOld 20 = .ok (.iconst 1, 1) := by decide +kernel
theorem dX8_isOld_21 : decode cX8_isOld 21 = .ok (.invokevirtual 35, 3) := by decide +kernel
theorem dX8_isOld_24 : decode cX8_isOld 24 = .ok (.iaload, 1) := by decide +kernel
theorem dX8_isOld_25 : decode cX8_isOld 25 = .ok (.if_icmp .lt 7, 3) := by decide +kernel
theorem dX8_isOld_28 : decode cX8_isOld 28 = .ok (.iconst 1, 1) := by decide +kernel
theorem dX8_isOld_29 : decode cX8_isOld 29 = .ok (.goto 4, 3) := by decide +kernel
theorem dX8_isOld_32 : decode cX8_isOld 32 = .ok (.iconst 0, 1) := by decide +kernel
theorem dX8_isOld_33 : decode cX8_isOld 33 = .ok (.ireturn, 1) := by decide +kernel
theorem dX8_nextSort_0 : decode cX8_nextSort 0 = .ok (.aload_n 0, 1) := by decide +kernel
theorem dX8_nextSort_1 : decode cX8_nextSort 1 = .ok (.iconst 1, 1) := by decide +kernel
theorem dX8_nextSort_2 : decode cX8_nextSort 2 = .ok (.invokevirtual 54, 3) := by decide +kernel
theorem dX8_nextSort_5 : decode cX8_nextSort 5 = .ok (.istore_n 1, 1) := by decide +kernel
theorem dX8_nextSort_6 : decode cX8_nextSort 6 = .ok (.iload_n 1, 1) := by decide +kernel
theorem dX8_nextSort_7 : decode cX8_nextSort 7 = .ok (.aload_n 0, 1) := by decide +kernel
theorem dX8_nextSort_8 : decode cX8_nextSort 8 = .ok (.getfield 7, 3) := by decide +kernel
theorem dX8_nextSort_11 : decode cX8_nextSort 11 = .ok (.bipush 7, 2) := by decide +kernel
theorem dX8_nextSort_13 : decode cX8_nextSort 13 = .ok (.iaload, 1) := by decide +kernel
theorem dX8_nextSort_14 : decode cX8_nextSort 14 = .ok (.if_icmp .ne 7, 3) := by decide +kernel
theorem dX8_nextSort_17 : decode cX8_nextSort 17 = .ok (.iconst 1, 1) := by decide +kernel
theorem dX8_nextSort_18 : decode cX8_nextSort 18 = .ok (.goto 32, 3) := by decide +kernel
theorem dX8_nextSort_21 : decode cX8_nextSort 21 = .ok (.iload_n 1, 1) := by decide +kernel
theorem dX8_nextSort_22 : decode cX8_nextSort 22 = .ok (.ifCond .ne 7, 3) := by decide +kernel
theorem dX8_nextSort_25 : decode cX8_nextSort 25 = .ok (.iconst 0, 1) := by decide +kernel
theorem dX8_nextSort_26 : decode cX8_nextSort 26 = .ok (.goto 24, 3) := by decide +kernel
theorem dX8_nextSort_29 : decode cX8_nextSort 29 = .ok (.aload_n 0, 1) := by decide +kernel
theorem dX8_nextSort_30 : decode cX8_nextSort 30 = .ok (.getfield 7, 3) := by decide +kernel
theorem dX8_nextSort_33 : decode cX8_nextSort 33 = .ok (.bipush 15, 2) := by decide +kernel
theorem dX8_nextSort_35 : decode cX8_nextSort 35 = .ok (.iaload, 1) := by decide +kernel
theorem dX8_nextSort_36 : decode cX8_nextSort 36 = .ok (.aload_n 0, 1) := by decide +kernel
theorem dX8_nextSort_37 : decode cX8_nextSort 37 = .ok (.getfield 7, 3) := by decide +kernel
theorem dX8_nextSort_40 : decode cX8_nextSort 40 = .ok (.iconst 3, 1) := by decide +kernel
theorem dX8_nextSort_41 : decode cX8_nextSort 41 = .ok (.iaload, 1) := by decide +kernel
theorem dX8_nextSort_42 : decode cX8_nextSort 42 = .ok (.if_icmp .lt 7, 3) := by decide +kernel
theorem dX8_nextSort_45 : decode cX8_nextSort 45 = .ok (.iconst 1, 1) := by decide +kernel
theorem dX8_nextSort_46 : decode cX8_nextSort 46 = .ok (.goto 4, 3) := by decide +kernel
theorem dX8_nextSort_49 : decode cX8_nextSort 49 = .ok (.iconst 0, 1) := by decide +kernel
theorem dX8_nextSort_50 : decode cX8_nextSort 50 = .ok (.ireturn, 1) := by decide +kernel
theorem dX8_look_0 : decode cX8_look 0 = .ok (.aload_n 0, 1) := by decide +kernel
theorem dX8_look_1 : decode cX8_look 1 = .ok (.aload_n 0, 1) := by decide +kernel
theorem dX8_look_2 : decode cX8_look 2 = .ok (.getfield 7, 3) := by decide +kernel
theorem dX8_look_5 : decode cX8_look 5 = .ok (.bipush 16, 2) := by decide +kernel
theorem dX8_look_7 : decode cX8_look 7 = .ok (.iaload, 1) := by decide +kernel
theorem dX8_look_8 : decode cX8_look 8 = .ok (.iconst 2, 1) := by decide +kernel
theorem dX8_look_9 : decode cX8_look 9 = .ok (.if_icmp .eq 40, 3) := by decide +kernel
theorem dX8_look_12 : decode cX8_look 12 = .ok (.aload_n 0, 1) := by decide +kernel
theorem dX8_look_13 : decode cX8_look 13 = .ok (.getfield 7, 3) := by decide +kernel
theorem dX8_look_16 : decode cX8_look 16 = .ok (.bipush 14, 2) := by decide +kernel
theorem dX8_look_18 : decode cX8_look 18 = .ok (.iaload, 1) := by decide +kernel
theorem dX8_look_19 : decode cX8_look 19 = .ok (.aload_n 0, 1) := by decide +kernel
theorem dX8_look_20 : decode cX8_look 20 = .ok (.getfield 7, 3) := by decide +kernel
theorem dX8_look_23 : decode cX8_look 23 = .ok (.iconst 2, 1) := by decide +kernel
theorem dX8_look_24 : decode cX8_look 24 = .ok (.iaload, 1) := by decide +kernel
theorem dX8_look_25 : decode cX8_look 25 = .ok (.if_icmp .ge 24, 3) := by decide +kernel
theorem dX8_look_28 : decode cX8_look 28 = .ok (.aload_n 0, 1) := by decide +kernel
theorem dX8_look_29 : decode cX8_look 29 = .ok (.aload_n 0, 1) := by decide +kernel
theorem dX8_look_30 : decode cX8_look 30 = .ok (.getfield 7, 3) := by decide +kernel
theorem dX8_look_33 : decode cX8_look 33 = .ok (.bipush 16, 2) := by decide +kernel
theorem dX8_look_35 : decode cX8_look 35 = .ok (.iaload, 1) := by decide +kernel
theorem dX8_look_36 : decode cX8_look 36 = .ok (.aload_n 0, 1) := by decide +kernel
theorem dX8_look_37 : decode cX8_look 37 = .ok (.getfield 7, 3) := by decide +kernel
theorem dX8_look_40 : decode cX8_look 40 = .ok (.bipush 9, 2) := by decide +kernel
theorem dX8_look_42 : decode cX8_look 42 = .ok (.iaload, 1) := by decide +kernel
theorem dX8_look_43 : decode cX8_look 43 = .ok (.invokevirtual 57, 3) := by decide +kernel
theorem dX8_look_46 : decode cX8_look 46 = .ok (.goto 5, 3) := by decide +kernel
theorem dX8_look_49 : decode cX8_look 49 = .ok (.bipush (-6), 2) := by decide +kernel
theorem dX8_look_51 : decode cX8_look 51 = .ok (.putfield 60, 3) := by decide +kernel
theorem dX8_look_54 : decode cX8_look 54 = .ok (.aload_n 0, 1) := by decide +kernel
theorem dX8_look_55 : decode cX8_look 55 = .ok (.iconst 0, 1) := by decide +kernel
theorem dX8_look_56 : decode cX8_look 56 = .ok (.putfield 63, 3) := by decide +kernel
theorem dX8_look_59 : decode cX8_look 59 = .ok (.aload_n 0, 1) := by decide +kernel
theorem dX8_look_60 : decode cX8_look 60 = .ok (.getfield 60, 3) := by decide +kernel
theorem dX8_look_63 : decode cX8_look 63 = .ok (.bipush (-6), 2) := by decide +kernel
theorem dX8_look_65 : decode cX8_look 65 = .ok (.if_icmp .eq 4, 3) := by decide +kernel
theorem dX8_look_68 : decode cX8_look 68 = .ok (.return_, 1) := by decide +kernel
theorem dX8_look_69 : decode cX8_look 69 = .ok (.aload_n 0, 1) := by decide +kernel
theorem dX8_look_70 : decode cX8_look 70 = .ok (.invokevirtual 66, 3) := by decide +kernel
theorem dX8_look_73 : decode cX8_look 73 = .ok (.istore_n 1, 1) := by decide +kernel
theorem dX8_look_74 : decode cX8_look 74 = .ok (.aload_n 0, 1) := by decide +kernel
theorem dX8_look_75 : decode cX8_look 75 = .ok (.aload_n 0, 1) := by decide +kernel
theorem dX8_look_76 : decode cX8_look 76 = .ok (.iload_n 1, 1) := by decide +kernel
theorem dX8_look_77 : decode cX8_look 77 = .ok (.invokevirtual 70, 3) := by decide +kernel
theorem dX8_look_80 : decode cX8_look 80 = .ok (.putfield 60, 3) := by decide +kernel
theorem dX8_look_83 : decode cX8_look 83 = .ok (.aload_n 0, 1) := by decide +kernel
theorem dX8_look_84 : decode cX8_look 84 = .ok (.iconst 1, 1) := by decide +kernel
theorem dX8_look_85 : decode cX8_look 85 = .ok (.putfield 63, 3) := by decide +kernel
theorem dX8_look_88 : decode cX8_look 88 = .ok (.aload_n 0, 1) := by decide +kernel
theorem dX8_look_89 : decode cX8_look 89 = .ok (.aload_n 0, 1) := by decide +kernel
theorem dX8_look_90 : decode cX8_look 90 = .ok (.getfield 60, 3) := by decide +kernel
theorem dX8_look_93 : decode cX8_look 93 = .ok (.invokevirtual 73, 3) := by decide +kernel
theorem dX8_look_96 : decode cX8_look 96 = .ok (.ifCond .ne 24, 3) := by decide +kernel
theorem dX8_look_99 : decode cX8_look 99 = .ok (.aload_n 0, 1) := by decide +kernel
theorem dX8_look_100 : decode cX8_look 100 = .ok (.aload_n 0, 1) := by decide +kernel
theorem dX8_look_101 : decode cX8_look 101 = .ok (.iload_n 1, 1) := by decide +kernel
theorem dX8_look_102 : decode cX8_look 102 = .ok (.aload_n 0, 1) := by decide +kernel
theorem dX8_look_103 : decode cX8_look 103 = .ok (.getfield 7, 3) := by decide +kernel
theorem dX8_look_106 : decode cX8_look 106 = .ok (.bipush 9, 2) := by decide +kernel
theorem dX8_look_108 : decode cX8_look 108 = .ok (.iaload, 1) := by decide +kernel
theorem dX8_look_109 : decode cX8_look 109 = .ok (.invokevirtual 57, 3) := by decide +kernel
theorem dX8_look_112 : decode cX8_look 112 = .ok (.putfield 60, 3) := by decide +kernel
theorem dX8_look_115 : decode cX8_look 115 = .ok (.aload_n 0, 1) := by decide +kernel
theorem dX8_look_116 : decode cX8_look 116 = .ok (.iconst 2, 1) := by decide +kernel
theorem dX8_look_117 : decode cX8_look 117 = .ok (.putfield 63, 3) := by decide +kernel
theorem dX8_look_120 : decode cX8_look 120 = .ok (.aload_n 0, 1) := by decide +kernel
theorem dX8_look_121 : decode cX8_look 121 = .ok (.getfield 60, 3) := by decide +kernel
theorem dX8_look_124 : decode cX8_look 124 = .ok (.bipush (-6), 2) := by decide +kernel
theorem dX8_look_126 : decode cX8_look 126 = .ok (.if_icmp .ne 18, 3) := by decide +kernel
theorem dX8_look_129 : decode cX8_look 129 = .ok (.aload_n 0, 1) := by decide +kernel
theorem dX8_look_130 : decode cX8_look 130 = .ok (.aload_n 0, 1) := by decide +kernel
theorem dX8_look_131 : decode cX8_look 131 = .ok (.iload_n 1, 1) := by decide +kernel
theorem dX8_look_132 : decode cX8_look 132 = .ok (.iconst 0, 1) := by decide +kernel
theorem dX8_look_133 : decode cX8_look 133 = .ok (.invokevirtual 57, 3) := by decide +kernel
theorem dX8_look_136 : decode cX8_look 136 = .ok (.putfield 60, 3) := by decide +kernel
theorem dX8_look_139 : decode cX8_look 139 = .ok (.aload_n 0, 1) := by decide +kernel
theorem dX8_look_140 : decode cX8_look 140 = .ok (.iconst 3, 1) := by decide +kernel
theorem dX8_look_141 : decode cX8_look 141 = .ok (.putfield 63, 3) := by decide +kernel
theorem dX8_look_144 : decode cX8_look 144 = .ok (.return_, 1) := by decide +kernel
theorem dX8_minute_0 : decode cX8_minute 0 = .ok (.aload_n 0, 1) := by decide +kernel
theorem dX8_minute_1 : decode cX8_minute 1 = .ok (.getfield 7, 3) := by decide +kernel
theorem dX8_minute_4 : decode cX8_minute 4 = .ok (.bipush 6, 2) := by decide +kernel
theorem dX8_minute_6 : decode cX8_minute 6 = .ok (.iaload, 1) := by decide +kernel
theorem dX8_minute_7 : decode cX8_minute 7 = .ok (.aload_n 0, 1) := by decide +kernel
theorem dX8_minute_8 : decode cX8_minute 8 = .ok (.getfield 7, 3) := by decide +kernel
theorem dX8_minute_11 : decode cX8_minute 11 = .ok (.iconst 4, 1) := by decide +kernel
theorem dX8_minute_12 : decode cX8_minute 12 = .ok (.iaload, 1) := by decide +kernel
theorem dX8_minute_13 : decode cX8_minute 13 = .ok (.aload_n 0, 1) := by decide +kernel
theorem dX8_minute_14 : decode cX8_minute 14 = .ok (.aload_n 0, 1) := by decide +kernel
theorem dX8_minute_15 : decode cX8_minute 15 = .ok (.getfield 60, 3) := by decide +kernel
theorem dX8_minute_18 : decode cX8_minute 18 = .ok (.iconst 2, 1) := by decide +kernel
theorem dX8_minute_19 : decode cX8_minute 19 = .ok (.invokevirtual 35, 3) := by decide +kernel
theorem dX8_minute_22 : decode cX8_minute 22 = .ok (.aload_n 0, 1) := by decide +kernel
theorem dX8_minute_23 : decode cX8_minute 23 = .ok (.getfield 7, 3) := by decide +kernel
theorem dX8_minute_26 : decode cX8_minute 26 = .ok (.bipush 9, 2) := by decide +kernel
theorem dX8_minute_28 : decode cX8_minute 28 = .ok (.iaload, 1) := by decide +kernel
theorem dX8_minute_29 : decode cX8_minute 29 = .ok (.invokestatic 77, 3) := by decide +kernel
theorem dX8_minute_32 : decode cX8_minute 32 = .ok (.imul, 1) := by decide +kernel
theorem dX8_minute_33 : decode cX8_minute 33 = .ok (.iadd, 1) := by decide +kernel
theorem dX8_minute_34 : decode cX8_minute 34 = .ok (.aload_n 0, 1) := by decide +kernel
theorem dX8_minute_35 : decode cX8_minute 35 = .ok (.getfield 7, 3) := by decide +kernel
theorem dX8_minute_38 : decode cX8_minute 38 = .ok (.iconst 5, 1) := by decide +kernel
theorem dX8_minute_39 : decode cX8_minute 39 = .ok (.iaload, 1) := by decide +kernel
theorem dX8_minute_40 : decode cX8_minute 40 = .ok (.aload_n 0, 1) := by decide +kernel
theorem dX8_minute_41 : decode cX8_minute 41 = .ok (.aload_n 0, 1) := by decide +kernel
theorem dX8_minute_42 : decode cX8_minute 42 = .ok (.getfield 60, 3) := by decide +kernel
theorem dX8_minute_45 : decode cX8_minute 45 = .ok (.iconst 3, 1) := by decide +kernel
theorem dX8_minute_46 : decode cX8_minute 46 = .ok (.invokevirtual 35, 3) := by decide +kernel
theorem dX8_minute_49 : decode cX8_minute 49 = .ok (.imul, 1) := by decide +kernel
theorem dX8_minute_50 : decode cX8_minute 50 = .ok (.iadd, 1) := by decide +kernel
theorem dX8_minute_51 : decode cX8_minute 51 = .ok (.ireturn, 1) := by decide +kernel
theorem dX8_drop_0 : decode cX8_drop 0 = .ok (.aload_n 0, 1) := by decide +kernel
theorem dX8_drop_1 : decode cX8_drop 1 = .ok (.getfield 7, 3) := by decide +kernel
theorem dX8_drop_4 : decode cX8_drop 4 = .ok (.bipush 7, 2) := by decide +kernel
theorem dX8_drop_6 : decode cX8_drop 6 = .ok (.dup2, 1) := by decide +kernel
theorem dX8_drop_7 : decode cX8_drop 7 = .ok (.iaload, 1) := by decide +kernel
theorem dX8_drop_8 : decode cX8_drop 8 = .ok (.iconst 1, 1) := by decide +kernel
theorem dX8_drop_9 : decode cX8_drop 9 = .ok (.isub, 1) := by decide +kernel
theorem dX8_drop_10 : decode cX8_drop 10 = .ok (.iastore, 1) := by decide +kernel
theorem dX8_drop_11 : decode cX8_drop 11 = .ok (.bipush 78, 2) := by decide +kernel
theorem dX8_drop_13 : decode cX8_drop 13 = .ok (.bipush 6, 2) := by decide +kernel
theorem dX8_drop_15 : decode cX8_drop 15 = .ok (.iload_n 1, 1) := by decide +kernel
theorem dX8_drop_16 : decode cX8_drop 16 = .ok (.imul, 1) := by decide +kernel
theorem dX8_drop_17 : decode cX8_drop 17 = .ok (.iadd, 1) := by decide +kernel
theorem dX8_drop_18 : decode cX8_drop 18 = .ok (.istore_n 2, 1) := by decide +kernel
theorem dX8_drop_19 : decode cX8_drop 19 = .ok (.iload_n 2, 1) := by decide +kernel
theorem dX8_drop_20 : decode cX8_drop 20 = .ok (.bipush 78, 2) := by decide +kernel
theorem dX8_drop_22 : decode cX8_drop 22 = .ok (.bipush 6, 2) := by decide +kernel
theorem dX8_drop_24 : decode cX8_drop 24 = .ok (.aload_n 0, 1) := by decide +kernel
theorem dX8_drop_25 : decode cX8_drop 25 = .ok (.getfield 7, 3) := by decide +kernel
theorem dX8_drop_28 : decode cX8_drop 28 = .ok (.bipush 7, 2) := by decide +kernel
theorem dX8_drop_30 : decode cX8_drop 30 = .ok (.iaload, 1) := by decide +kernel
theorem dX8_drop_31 : decode cX8_drop 31 = .ok (.imul, 1) := by decide +kernel
theorem dX8_drop_32 : decode cX8_drop 32 = .ok (.iadd, 1) := by decide +kernel
theorem dX8_drop_33 : decode cX8_drop 33 = .ok (.if_icmp .ge 24, 3) := by decide +kernel
theorem dX8_drop_36 : decode cX8_drop 36 = .ok (.aload_n 0, 1) := by decide +kernel
theorem dX8_drop_37 : decode cX8_drop 37 = .ok (.getfield 7, 3) := by decide +kernel
theorem dX8_drop_40 : decode cX8_drop 40 = .ok (.iload_n 2, 1) := by decide +kernel
theorem dX8_drop_41 : decode cX8_drop 41 = .ok (.aload_n 0, 1) := by decide +kernel
theorem dX8_drop_42 : decode cX8_drop 42 = .ok (.getfield 7, 3) := by decide +kernel
theorem dX8_drop_45 : decode cX8_drop 45 = .ok (.iload_n 2, 1) := by decide +kernel
theorem dX8_drop_46 : decode cX8_drop 46 = .ok (.bipush 6, 2) := by decide +kernel
theorem dX8_drop_48 : decode cX8_drop 48 = .ok (.iadd, 1) := by decide +kernel
theorem dX8_drop_49 : decode cX8_drop 49 = .ok (.iaload, 1) := by decide +kernel
theorem dX8_drop_50 : decode cX8_drop 50 = .ok (.iastore, 1) := by decide +kernel
theorem dX8_drop_51 : decode cX8_drop 51 = .ok (.iinc 2 1, 3) := by decide +kernel
theorem dX8_drop_54 : decode cX8_drop 54 = .ok (.goto (-35), 3) := by decide +kernel
theorem dX8_drop_57 : decode cX8_drop 57 = .ok (.iconst 0, 1) := by decide +kernel
theorem dX8_drop_58 : decode cX8_drop 58 = .ok (.istore_n 2, 1) := by decide +kernel
theorem dX8_drop_59 : decode cX8_drop 59 = .ok (.iload_n 2, 1) := by decide +kernel
theorem dX8_drop_60 : decode cX8_drop 60 = .ok (.bipush 6, 2) := by decide +kernel
theorem dX8_drop_62 : decode cX8_drop 62 = .ok (.if_icmp .ge 30, 3) := by decide +kernel
theorem dX8_drop_65 : decode cX8_drop 65 = .ok (.aload_n 0, 1) := by decide +kernel
theorem dX8_drop_66 : decode cX8_drop 66 = .ok (.getfield 7, 3) := by decide +kernel
theorem dX8_drop_69 : decode cX8_drop 69 = .ok (.bipush 78, 2) := by decide +kernel
theorem dX8_drop_71 : decode cX8_drop 71 = .ok (.bipush 6, 2) := by decide +kernel
theorem dX8_drop_73 : decode cX8_drop 73 = .ok (.aload_n 0, 1) := by decide +kernel
theorem dX8_drop_74 : decode cX8_drop 74 = .ok (.getfield 7, 3) := by decide +kernel
theorem dX8_drop_77 : decode cX8_drop 77 = .ok (.bipush 7, 2) := by decide +kernel
theorem dX8_drop_79 : decode cX8_drop 79 = .ok (.iaload, 1) := by decide +kernel
theorem dX8_drop_80 : decode cX8_drop 80 = .ok (.imul, 1) := by decide +kernel
theorem dX8_drop_81 : decode cX8_drop 81 = .ok (.iadd, 1) := by decide +kernel
theorem dX8_drop_82 : decode cX8_drop 82 = .ok (.iload_n 2, 1) := by decide +kernel
theorem dX8_drop_83 : decode cX8_drop 83 = .ok (.iadd, 1) := by decide +kernel
theorem dX8_drop_84 : decode cX8_drop 84 = .ok (.iconst 0, 1) := by decide +kernel
theorem dX8_drop_85 : decode cX8_drop 85 = .ok (.iastore, 1) := by decide +kernel
theorem dX8_drop_86 : decode cX8_drop 86 = .ok (.iinc 2 1, 3) := by decide +kernel
theorem dX8_drop_89 : decode cX8_drop 89 = .ok (.goto (-30), 3) := by decide +kernel
theorem dX8_drop_92 : decode cX8_drop 92 = .ok (.return_, 1) := by decide +kernel
theorem dX8_note_0 : decode cX8_note 0 = .ok (.bipush 77, 2) := by decide +kernel
theorem dX8_note_2 : decode cX8_note 2 = .ok (.istore 4, 2) := by decide +kernel
theorem dX8_note_4 : decode cX8_note 4 = .ok (.iload 4, 2) := by decide +kernel
theorem dX8_note_6 : decode cX8_note 6 = .ok (.bipush 21, 2) := by decide +kernel
theorem dX8_note_8 : decode cX8_note 8 = .ok (.if_icmp .lt 25, 3) := by decide +kernel
theorem dX8_note_11 : decode cX8_note 11 = .ok (.aload_n 0, 1) := by decide +kernel
theorem dX8_note_12 : decode cX8_note 12 = .ok (.getfield 7, 3) := by decide +kernel
theorem dX8_note_15 : decode cX8_note 15 = .ok (.iload 4, 2) := by decide +kernel
theorem dX8_note_17 : decode cX8_note 17 = .ok (.aload_n 0, 1) := by decide +kernel
theorem dX8_note_18 : decode cX8_note 18 = .ok (.getfield 7, 3) := by decide +kernel
theorem dX8_note_21 : decode cX8_note 21 = .ok (.iload 4, 2) := by decide +kernel
theorem dX8_note_23 : decode cX8_note 23 = .ok (.iconst 3, 1) := by decide +kernel
theorem dX8_note_24 : decode cX8_note 24 = .ok (.isub, 1) := by decide +kernel
theorem dX8_note_25 : decode cX8_note 25 = .ok (.iaload, 1) := by decide +kernel
theorem dX8_note_26 : decode cX8_note 26 = .ok (.iastore, 1) := by decide +kernel
theorem dX8_note_27 : decode cX8_note 27 = .ok (.iinc 4 (-1), 3) := by decide +kernel
theorem dX8_note_30 : decode cX8_note 30 = .ok (.goto (-26), 3) := by decide +kernel
theorem dX8_note_33 : decode cX8_note 33 = .ok (.aload_n 0, 1) := by decide +kernel
theorem dX8_note_34 : decode cX8_note 34 = .ok (.getfield 7, 3) := by decide +kernel
theorem dX8_note_37 : decode cX8_note 37 = .ok (.bipush 18, 2) := by decide +kernel
theorem dX8_note_39 : decode cX8_note 39 = .ok (.iload_n 1, 1) := by decide +kernel
theorem dX8_note_40 : decode cX8_note 40 = .ok (.iastore, 1) := by decide +kernel
theorem dX8_note_41 : decode cX8_note 41 = .ok (.aload_n 0, 1) := by decide +kernel
theorem dX8_note_42 : decode cX8_note 42 = .ok (.getfield 7, 3) := by decide +kernel
theorem dX8_note_45 : decode cX8_note 45 = .ok (.bipush 19, 2) := by decide +kernel
theorem dX8_note_47 : decode cX8_note 47 = .ok (.iload_n 2, 1) := by decide +kernel
theorem dX8_note_48 : decode cX8_note 48 = .ok (.iastore, 1) := by decide +kernel
theorem dX8_note_49 : decode cX8_note 49 = .ok (.aload_n 0, 1) := by decide +kernel
theorem dX8_note_50 : decode cX8_note 50 = .ok (.getfield 7, 3) := by decide +kernel
theorem dX8_note_53 : decode cX8_note 53 = .ok (.bipush 20, 2) := by decide +kernel
theorem dX8_note_55 : decode cX8_note 55 = .ok (.iload_n 3, 1) := by decide +kernel
theorem dX8_note_56 : decode cX8_note 56 = .ok (.iastore, 1) := by decide +kernel
theorem dX8_note_57 : decode cX8_note 57 = .ok (.aload_n 0, 1) := by decide +kernel
theorem dX8_note_58 : decode cX8_note 58 = .ok (.getfield 7, 3) := by decide +kernel
theorem dX8_note_61 : decode cX8_note 61 = .ok (.bipush 17, 2) := by decide +kernel
theorem dX8_note_63 : decode cX8_note 63 = .ok (.dup2, 1) := by decide +kernel
theorem dX8_note_64 : decode cX8_note 64 = .ok (.iaload, 1) := by decide +kernel
theorem dX8_note_65 : decode cX8_note 65 = .ok (.aload_n 0, 1) := by decide +kernel
theorem dX8_note_66 : decode cX8_note 66 = .ok (.getfield 7, 3) := by decide +kernel
theorem dX8_note_69 : decode cX8_note 69 = .ok (.bipush 17, 2) := by decide +kernel
theorem dX8_note_71 : decode cX8_note 71 = .ok (.iaload, 1) := by decide +kernel
theorem dX8_note_72 : decode cX8_note 72 = .ok (.bipush 20, 2) := by decide +kernel
theorem dX8_note_74 : decode cX8_note 74 = .ok (.if_icmp .ge 7, 3) := by decide +kernel
theorem dX8_note_77 : decode cX8_note 77 = .ok (.iconst 1, 1) := by decide +kernel
theorem dX8_note_78 : decode cX8_note 78 = .ok (.goto 4, 3) := by decide +kernel
theorem dX8_note_81 : decode cX8_note 81 = .ok (.iconst 0, 1) := by decide +kernel
theorem dX8_note_82 : decode cX8_note 82 = .ok (.iadd, 1) := by decide +kernel
theorem dX8_note_83 : decode cX8_note 83 = .ok (.iastore, 1) := by decide +kernel
theorem dX8_note_84 : decode cX8_note 84 = .ok (.return_, 1) := by decide +kernel
theorem dX8_serveOne_0 : decode cX8_serveOne 0 = .ok (.aload_n 0, 1) := by decide +kernel
theorem dX8_serveOne_1 : decode cX8_serveOne 1 = .ok (.invokevirtual 80, 3) := by decide +kernel
theorem dX8_serveOne_4 : decode cX8_serveOne 4 = .ok (.aload_n 0, 1) := by decide +kernel
theorem dX8_serveOne_5 : decode cX8_serveOne 5 = .ok (.aload_n 0, 1) := by decide +kernel
theorem dX8_serveOne_6 : decode cX8_serveOne 6 = .ok (.getfield 60, 3) := by decide +kernel
theorem dX8_serveOne_9 : decode cX8_serveOne 9 = .ok (.iconst 1, 1) := by decide +kernel
theorem dX8_serveOne_10 : decode cX8_serveOne 10 = .ok (.invokevirtual 35, 3) := by decide +kernel
theorem dX8_serveOne_13 : decode cX8_serveOne 13 = .ok (.istore_n 1, 1) := by decide +kernel
theorem dX8_serveOne_14 : decode cX8_serveOne 14 = .ok (.aload_n 0, 1) := by decide +kernel
theorem dX8_serveOne_15 : decode cX8_serveOne 15 = .ok (.getfield 63, 3) := by decide +kernel
theorem dX8_serveOne_18 : decode cX8_serveOne 18 = .ok (.ifCond .le 67, 3) := by decide +kernel
theorem dX8_serveOne_21 : decode cX8_serveOne 21 = .ok (.aload_n 0, 1) := by decide +kernel
theorem dX8_serveOne_22 : decode cX8_serveOne 22 = .ok (.getfield 7, 3) := by decide +kernel
theorem dX8_serveOne_25 : decode cX8_serveOne 25 = .ok (.bipush 15, 2) := by decide +kernel
theorem dX8_serveOne_27 : decode cX8_serveOne 27 = .ok (.iload_n 1, 1) := by decide +kernel
theorem dX8_serveOne_28 : decode cX8_serveOne 28 = .ok (.iconst 1, 1) := by decide +kernel
theorem dX8_serveOne_29 : decode cX8_serveOne 29 = .ok (.if_icmp .ne 7, 3) := by decide +kernel
theorem dX8_serveOne_32 : decode cX8_serveOne 32 = .ok (.iconst 0, 1) := by decide +kernel
theorem dX8_serveOne_33 : decode cX8_serveOne 33 = .ok (.goto 24, 3) := by decide +kernel
theorem dX8_serveOne_36 : decode cX8_serveOne 36 = .ok (.aload_n 0, 1) := by decide +kernel
theorem dX8_serveOne_37 : decode cX8_serveOne 37 = .ok (.getfield 7, 3) := by decide +kernel
theorem dX8_serveOne_40 : decode cX8_serveOne 40 = .ok (.bipush 15, 2) := by decide +kernel
theorem dX8_serveOne_42 : decode cX8_serveOne 42 = .ok (.iaload, 1) := by decide +kernel
theorem dX8_serveOne_43 : decode cX8_serveOne 43 = .ok (.aload_n 0, 1) := by decide +kernel
theorem dX8_serveOne_44 : decode cX8_serveOne 44 = .ok (.iconst 1, 1) := by decide +kernel
theorem dX8_serveOne_45 : decode cX8_serveOne 45 = .ok (.invokevirtual 54, 3) := by decide +kernel
theorem dX8_serveOne_48 : decode cX8_serveOne 48 = .ok (.ifCond .le 7, 3) := by decide +kernel
theorem dX8_serveOne_51 : decode cX8_serveOne 51 = .ok (.iconst 1, 1) := by decide +kernel
theorem dX8_serveOne_52 : decode cX8_serveOne 52 = .ok (.goto 4, 3) := by decide +kernel
theorem dX8_serveOne_55 : decode cX8_serveOne 55 = .ok (.iconst 0, 1) := by decide +kernel
theorem dX8_serveOne_56 : decode cX8_serveOne 56 = .ok (.iadd, 1) := by decide +kernel
theorem dX8_serveOne_57 : decode cX8_serveOne 57 = .ok (.iastore, 1) := by decide +kernel
theorem dX8_serveOne_58 : decode cX8_serveOne 58 = .ok (.aload_n 0, 1) := by decide +kernel
theorem dX8_serveOne_59 : decode cX8_serveOne 59 = .ok (.getfield 7, 3) := by decide +kernel
theorem dX8_serveOne_62 : decode cX8_serveOne 62 = .ok (.bipush 13, 2) := by decide +kernel
theorem dX8_serveOne_64 : decode cX8_serveOne 64 = .ok (.dup2, 1) := by decide +kernel
theorem dX8_serveOne_65 : decode cX8_serveOne 65 = .ok (.iaload, 1) := by decide +kernel
theorem dX8_serveOne_66 : decode cX8_serveOne 66 = .ok (.iconst 1, 1) := by decide +kernel
theorem dX8_serveOne_67 : decode cX8_serveOne 67 = .ok (.iadd, 1) := by decide +kernel
theorem dX8_serveOne_68 : decode cX8_serveOne 68 = .ok (.iastore, 1) := by decide +kernel
theorem dX8_serveOne_69 : decode cX8_serveOne 69 = .ok (.aload_n 0, 1) := by decide +kernel
theorem dX8_serveOne_70 : decode cX8_serveOne 70 = .ok (.getfield 7, 3) := by decide +kernel
theorem dX8_serveOne_73 : decode cX8_serveOne 73 = .ok (.bipush 14, 2) := by decide +kernel
theorem dX8_serveOne_75 : decode cX8_serveOne 75 = .ok (.iconst 0, 1) := by decide +kernel
theorem dX8_serveOne_76 : decode cX8_serveOne 76 = .ok (.iastore, 1) := by decide +kernel
theorem dX8_serveOne_77 : decode cX8_serveOne 77 = .ok (.aload_n 0, 1) := by decide +kernel
theorem dX8_serveOne_78 : decode cX8_serveOne 78 = .ok (.getfield 7, 3) := by decide +kernel
theorem dX8_serveOne_81 : decode cX8_serveOne 81 = .ok (.bipush 16, 2) := by decide +kernel
theorem dX8_serveOne_83 : decode cX8_serveOne 83 = .ok (.iload_n 1, 1) := by decide +kernel
theorem dX8_serveOne_84 : decode cX8_serveOne 84 = .ok (.iastore, 1) := by decide +kernel
theorem dX8_serveOne_85 : decode cX8_serveOne 85 = .ok (.aload_n 0, 1) := by decide +kernel
theorem dX8_serveOne_86 : decode cX8_serveOne 86 = .ok (.getfield 7, 3) := by decide +kernel
theorem dX8_serveOne_89 : decode cX8_serveOne 89 = .ok (.bipush 14, 2) := by decide +kernel
theorem dX8_serveOne_91 : decode cX8_serveOne 91 = .ok (.dup2, 1) := by decide +kernel
theorem dX8_serveOne_92 : decode cX8_serveOne 92 = .ok (.iaload, 1) := by decide +kernel
theorem dX8_serveOne_93 : decode cX8_serveOne 93 = .ok (.iconst 1, 1) := by decide +kernel
theorem dX8_serveOne_94 : decode cX8_serveOne 94 = .ok (.iadd, 1) := by decide +kernel
theorem dX8_serveOne_95 : decode cX8_serveOne 95 = .ok (.iastore, 1) := by decide +kernel
theorem dX8_serveOne_96 : decode cX8_serveOne 96 = .ok (.aload_n 0, 1) := by decide +kernel
theorem dX8_serveOne_97 : decode cX8_serveOne 97 = .ok (.invokevirtual 83, 3) := by decide +kernel
theorem dX8_serveOne_100 : decode cX8_serveOne 100 = .ok (.istore_n 2, 1) := by decide +kernel
theorem dX8_serveOne_101 : decode cX8_serveOne 101 = .ok (.iload_n 2, 1) := by decide +kernel
theorem dX8_serveOne_102 : decode cX8_serveOne 102 = .ok (.aload_n 0, 1) := by decide +kernel
theorem dX8_serveOne_103 : decode cX8_serveOne 103 = .ok (.aload_n 0, 1) := by decide +kernel
theorem dX8_serveOne_104 : decode cX8_serveOne 104 = .ok (.getfield 60, 3) := by decide +kernel
theorem dX8_serveOne_107 : decode cX8_serveOne 107 = .ok (.iconst 4, 1) := by decide +kernel
theorem dX8_serveOne_108 : decode cX8_serveOne 108 = .ok (.invokevirtual 35, 3) := by decide +kernel
theorem dX8_serveOne_111 : decode cX8_serveOne 111 = .ok (.isub, 1) := by decide +kernel
theorem dX8_serveOne_112 : decode cX8_serveOne 112 = .ok (.istore_n 3, 1) := by decide +kernel
theorem dX8_serveOne_113 : decode cX8_serveOne 113 = .ok (.aload_n 0, 1) := by decide +kernel
theorem dX8_serveOne_114 : decode cX8_serveOne 114 = .ok (.getfield 7, 3) := by decide +kernel
theorem dX8_serveOne_117 : decode cX8_serveOne 117 = .ok (.bipush 12, 2) := by decide +kernel
theorem dX8_serveOne_119 : decode cX8_serveOne 119 = .ok (.dup2, 1) := by decide +kernel
theorem dX8_serveOne_120 : decode cX8_serveOne 120 = .ok (.iaload, 1) := by decide +kernel
theorem dX8_serveOne_121 : decode cX8_serveOne 121 = .ok (.aload_n 0, 1) := by decide +kernel
theorem dX8_serveOne_122 : decode cX8_serveOne 122 = .ok (.aload_n 0, 1) := by decide +kernel
theorem dX8_serveOne_123 : decode cX8_serveOne 123 = .ok (.getfield 60, 3) := by decide +kernel
theorem dX8_serveOne_126 : decode cX8_serveOne 126 = .ok (.iconst 2, 1) := by decide +kernel
theorem dX8_serveOne_127 : decode cX8_serveOne 127 = .ok (.invokevirtual 35, 3) := by decide +kernel
theorem dX8_serveOne_130 : decode cX8_serveOne 130 = .ok (.aload_n 0, 1) := by decide +kernel
theorem dX8_serveOne_131 : decode cX8_serveOne 131 = .ok (.getfield 7, 3) := by decide +kernel
theorem dX8_serveOne_134 : decode cX8_serveOne 134 = .ok (.bipush 9, 2) := by decide +kernel
theorem dX8_serveOne_136 : decode cX8_serveOne 136 = .ok (.iaload, 1) := by decide +kernel
theorem dX8_serveOne_137 : decode cX8_serveOne 137 = .ok (.invokestatic 77, 3) := by decide +kernel
theorem dX8_serveOne_140 : decode cX8_serveOne 140 = .ok (.iadd, 1) := by decide +kernel
theorem dX8_serveOne_141 : decode cX8_serveOne 141 = .ok (.iastore, 1) := by decide +kernel
theorem dX8_serveOne_142 : decode cX8_serveOne 142 = .ok (.aload_n 0, 1) := by decide +kernel
theorem dX8_serveOne_143 : decode cX8_serveOne 143 = .ok (.getfield 7, 3) := by decide +kernel
theorem dX8_serveOne_146 : decode cX8_serveOne 146 = .ok (.bipush 9, 2) := by decide +kernel
theorem dX8_serveOne_148 : decode cX8_serveOne 148 = .ok (.aload_n 0, 1) := by decide +kernel
theorem dX8_serveOne_149 : decode cX8_serveOne 149 = .ok (.aload_n 0, 1) := by decide +kernel
theorem dX8_serveOne_150 : decode cX8_serveOne 150 = .ok (.getfield 60, 3) := by decide +kernel
theorem dX8_serveOne_153 : decode cX8_serveOne 153 = .ok (.invokevirtual 86, 3) := by decide +kernel
theorem dX8_serveOne_156 : decode cX8_serveOne 156 = .ok (.bipush 99, 2) := by decide +kernel
theorem dX8_serveOne_158 : decode cX8_serveOne 158 = .ok (.if_icmp .ge 16, 3) := by decide +kernel
theorem dX8_serveOne_161 : decode cX8_serveOne 161 = .ok (.aload_n 0, 1) := by decide +kernel
theorem dX8_serveOne_162 : decode cX8_serveOne 162 = .ok (.aload_n 0, 1) := by decide +kernel
theorem dX8_serveOne_163 : decode cX8_serveOne 163 = .ok (.getfield 60, 3) := by decide +kernel
theorem dX8_serveOne_166 : decode cX8_serveOne 166 = .ok (.invokevirtual 86, 3) := by decide +kernel
theorem dX8_serveOne_169 : decode cX8_serveOne 169 = .ok (.iconst 1, 1) := by decide +kernel
theorem dX8_serveOne_170 : decode cX8_serveOne 170 = .ok (.iadd, 1) := by decide +kernel
theorem dX8_serveOne_171 : decode cX8_serveOne 171 = .ok (.goto 5, 3) := by decide +kernel
theorem dX8_serveOne_174 : decode cX8_serveOne 174 = .ok (.bipush 99, 2) := by decide +kernel
theorem dX8_serveOne_176 : decode cX8_serveOne 176 = .ok (.iastore, 1) := by decide +kernel
theorem dX8_serveOne_177 : decode cX8_serveOne 177 = .ok (.aload_n 0, 1) := by decide +kernel
theorem dX8_serveOne_178 : decode cX8_serveOne 178 = .ok (.getfield 7, 3) := by decide +kernel
theorem dX8_serveOne_181 : decode cX8_serveOne 181 = .ok (.bipush 6, 2) := by decide +kernel
theorem dX8_serveOne_183 : decode cX8_serveOne 183 = .ok (.iload_n 2, 1) := by decide +kernel
theorem dX8_serveOne_184 : decode cX8_serveOne 184 = .ok (.iastore, 1) := by decide +kernel
theorem dX8_serveOne_185 : decode cX8_serveOne 185 = .ok (.aload_n 0, 1) := by decide +kernel
theorem dX8_serveOne_186 : decode cX8_serveOne 186 = .ok (.getfield 7, 3) := by decide +kernel
theorem dX8_serveOne_189 : decode cX8_serveOne 189 = .ok (.bipush 10, 2) := by decide +kernel
theorem dX8_serveOne_191 : decode cX8_serveOne 191 = .ok (.dup2, 1) := by decide +kernel
theorem dX8_serveOne_192 : decode cX8_serveOne 192 = .ok (.iaload, 1) := by decide +kernel
theorem dX8_serveOne_193 : decode cX8_serveOne 193 = .ok (.iconst 1, 1) := by decide +kernel
theorem dX8_serveOne_194 : decode cX8_serveOne 194 = .ok (.iadd, 1) := by decide +kernel
theorem dX8_serveOne_195 : decode cX8_serveOne 195 = .ok (.iastore, 1) := by decide +kernel
theorem dX8_serveOne_196 : decode cX8_serveOne 196 = .ok (.aload_n 0, 1) := by decide +kernel
theorem dX8_serveOne_197 : decode cX8_serveOne 197 = .ok (.getfield 7, 3) := by decide +kernel
theorem dX8_serveOne_200 : decode cX8_serveOne 200 = .ok (.bipush 11, 2) := by decide +kernel
theorem dX8_serveOne_202 : decode cX8_serveOne 202 = .ok (.iload_n 3, 1) := by decide +kernel
theorem dX8_serveOne_203 : decode cX8_serveOne 203 = .ok (.aload_n 0, 1) := by decide +kernel
theorem dX8_serveOne_204 : decode cX8_serveOne 204 = .ok (.getfield 7, 3) := by decide +kernel
theorem dX8_serveOne_207 : decode cX8_serveOne 207 = .ok (.bipush 11, 2) := by decide +kernel
theorem dX8_serveOne_209 : decode cX8_serveOne 209 = .ok (.iaload, 1) := by decide +kernel
theorem dX8_serveOne_210 : decode cX8_serveOne 210 = .ok (.if_icmp .le 7, 3) := by decide +kernel
theorem dX8_serveOne_213 : decode cX8_serveOne 213 = .ok (.iload_n 3, 1) := by decide +kernel
theorem dX8_serveOne_214 : decode cX8_serveOne 214 = .ok (.goto 10, 3) := by decide +kernel
theorem dX8_serveOne_217 : decode cX8_serveOne 217 = .ok (.aload_n 0, 1) := by decide +kernel
theorem dX8_serveOne_218 : decode cX8_serveOne 218 = .ok (.getfield 7, 3) := by decide +kernel
theorem dX8_serveOne_221 : decode cX8_serveOne 221 = .ok (.bipush 11, 2) := by decide +kernel
theorem dX8_serveOne_223 : decode cX8_serveOne 223 = .ok (.iaload, 1) := by decide +kernel
theorem dX8_serveOne_224 : decode cX8_serveOne 224 = .ok (.iastore, 1) := by decide +kernel
theorem dX8_serveOne_225 : decode cX8_serveOne 225 = .ok (.aload_n 0, 1) := by decide +kernel
theorem dX8_serveOne_226 : decode cX8_serveOne 226 = .ok (.aload_n 0, 1) := by decide +kernel
theorem dX8_serveOne_227 : decode cX8_serveOne 227 = .ok (.aload_n 0, 1) := by decide +kernel
theorem dX8_serveOne_228 : decode cX8_serveOne 228 = .ok (.getfield 60, 3) := by decide +kernel
theorem dX8_serveOne_231 : decode cX8_serveOne 231 = .ok (.iconst 0, 1) := by decide +kernel
theorem dX8_serveOne_232 : decode cX8_serveOne 232 = .ok (.invokevirtual 35, 3) := by decide +kernel
theorem dX8_serveOne_235 : decode cX8_serveOne 235 = .ok (.iload_n 3, 1) := by decide +kernel
theorem dX8_serveOne_236 : decode cX8_serveOne 236 = .ok (.iload_n 1, 1) := by decide +kernel
theorem dX8_serveOne_237 : decode cX8_serveOne 237 = .ok (.invokevirtual 89, 3) := by decide +kernel
theorem dX8_serveOne_240 : decode cX8_serveOne 240 = .ok (.aload_n 0, 1) := by decide +kernel
theorem dX8_serveOne_241 : decode cX8_serveOne 241 = .ok (.aload_n 0, 1) := by decide +kernel
theorem dX8_serveOne_242 : decode cX8_serveOne 242 = .ok (.getfield 60, 3) := by decide +kernel
theorem dX8_serveOne_245 : decode cX8_serveOne 245 = .ok (.invokevirtual 93, 3) := by decide +kernel
theorem dX8_serveOne_248 : decode cX8_serveOne 248 = .ok (.return_, 1) := by decide +kernel
theorem dX8_isSlip_0 : decode cX8_isSlip 0 = .ok (.iload_n 0, 1) := by decide +kernel
theorem dX8_isSlip_1 : decode cX8_isSlip 1 = .ok (.i2l, 1) := by decide +kernel
theorem dX8_isSlip_2 : decode cX8_isSlip 2 = .ok (.iconst 0, 1) := by decide +kernel
theorem dX8_isSlip_3 : decode cX8_isSlip 3 = .ok (.iconst 1, 1) := by decide +kernel
theorem dX8_isSlip_4 : decode cX8_isSlip 4 = .ok (.invokestatic 43, 3) := by decide +kernel
theorem dX8_isSlip_7 : decode cX8_isSlip 7 = .ok (.ifCond .eq 37, 3) := by decide +kernel
theorem dX8_isSlip_10 : decode cX8_isSlip 10 = .ok (.iload_n 1, 1) := by decide +kernel
theorem dX8_isSlip_11 : decode cX8_isSlip 11 = .ok (.i2l, 1) := by decide +kernel
theorem dX8_isSlip_12 : decode cX8_isSlip 12 = .ok (.iconst 0, 1) := by decide +kernel
theorem dX8_isSlip_13 : decode cX8_isSlip 13 = .ok (.bipush 99, 2) := by decide +kernel
theorem dX8_isSlip_15 : decode cX8_isSlip 15 = .ok (.invokestatic 43, 3) := by decide +kernel
theorem dX8_isSlip_18 : decode cX8_isSlip 18 = .ok (.ifCond .eq 26, 3) := by decide +kernel
theorem dX8_isSlip_21 : decode cX8_isSlip 21 = .ok (.iload_n 2, 1) := by decide +kernel
theorem dX8_isSlip_22 : decode cX8_isSlip 22 = .ok (.i2l, 1) := by decide +kernel
theorem dX8_isSlip_23 : decode cX8_isSlip 23 = .ok (.iconst 1, 1) := by decide +kernel
theorem dX8_isSlip_24 : decode cX8_isSlip 24 = .ok (.bipush 9, 2) := by decide +kernel
theorem dX8_isSlip_26 : decode cX8_isSlip 26 = .ok (.invokestatic 43, 3) := by decide +kernel
theorem dX8_isSlip_29 : decode cX8_isSlip 29 = .ok (.ifCond .eq 15, 3) := by decide +kernel
theorem dX8_isSlip_32 : decode cX8_isSlip 32 = .ok (.iload_n 1, 1) := by decide +kernel
theorem dX8_isSlip_33 : decode cX8_isSlip 33 = .ok (.iload_n 2, 1) := by decide +kernel
theorem dX8_isSlip_34 : decode cX8_isSlip 34 = .ok (.iadd, 1) := by decide +kernel
theorem dX8_isSlip_35 : decode cX8_isSlip 35 = .ok (.bipush 100, 2) := by decide +kernel
theorem dX8_isSlip_37 : decode cX8_isSlip 37 = .ok (.if_icmp .gt 7, 3) := by decide +kernel
theorem dX8_isSlip_40 : decode cX8_isSlip 40 = .ok (.iconst 1, 1) := by decide +kernel
theorem dX8_isSlip_41 : decode cX8_isSlip 41 = .ok (.goto 4, 3) := by decide +kernel
theorem dX8_isSlip_44 : decode cX8_isSlip 44 = .ok (.iconst 0, 1) := by decide +kernel
theorem dX8_isSlip_45 : decode cX8_isSlip 45 = .ok (.ireturn, 1) := by decide +kernel
theorem dX8_partner_0 : decode cX8_partner 0 = .ok (.iconst 0, 1) := by decide +kernel
theorem dX8_partner_1 : decode cX8_partner 1 = .ok (.istore 4, 2) := by decide +kernel
theorem dX8_partner_3 : decode cX8_partner 3 = .ok (.iload 4, 2) := by decide +kernel
theorem dX8_partner_5 : decode cX8_partner 5 = .ok (.aload_n 0, 1) := by decide +kernel
theorem dX8_partner_6 : decode cX8_partner 6 = .ok (.getfield 7, 3) := by decide +kernel
theorem dX8_partner_9 : decode cX8_partner 9 = .ok (.bipush 7, 2) := by decide +kernel
theorem dX8_partner_11 : decode cX8_partner 11 = .ok (.iaload, 1) := by decide +kernel
theorem dX8_partner_12 : decode cX8_partner 12 = .ok (.if_icmp .ge 49, 3) := by decide +kernel
theorem dX8_partner_15 : decode cX8_partner 15 = .ok (.aload_n 0, 1) := by decide +kernel
theorem dX8_partner_16 : decode cX8_partner 16 = .ok (.iload 4, 2) := by decide +kernel
theorem dX8_partner_18 : decode cX8_partner 18 = .ok (.iconst 1, 1) := by decide +kernel
theorem dX8_partner_19 : decode cX8_partner 19 = .ok (.invokevirtual 35, 3) := by decide +kernel
theorem dX8_partner_22 : decode cX8_partner 22 = .ok (.iload_n 1, 1) := by decide +kernel
theorem dX8_partner_23 : decode cX8_partner 23 = .ok (.if_icmp .ne 32, 3) := by decide +kernel
theorem dX8_partner_26 : decode cX8_partner 26 = .ok (.aload_n 0, 1) := by decide +kernel
theorem dX8_partner_27 : decode cX8_partner 27 = .ok (.iload 4, 2) := by decide +kernel
theorem dX8_partner_29 : decode cX8_partner 29 = .ok (.invokevirtual 86, 3) := by decide +kernel
theorem dX8_partner_32 : decode cX8_partner 32 = .ok (.iload_n 2, 1) := by decide +kernel
theorem dX8_partner_33 : decode cX8_partner 33 = .ok (.iconst 1, 1) := by decide +kernel
theorem dX8_partner_34 : decode cX8_partner 34 = .ok (.isub, 1) := by decide +kernel
theorem dX8_partner_35 : decode cX8_partner 35 = .ok (.if_icmp .ne 20, 3) := by decide +kernel
theorem dX8_partner_38 : decode cX8_partner 38 = .ok (.aload_n 0, 1) := by decide +kernel
theorem dX8_partner_39 : decode cX8_partner 39 = .ok (.iload 4, 2) := by decide +kernel
theorem dX8_partner_41 : decode cX8_partner 41 = .ok (.iconst 3, 1) := by decide +kernel
theorem dX8_partner_42 : decode cX8_partner 42 = .ok (.invokevirtual 35, 3) := by decide +kernel
theorem dX8_partner_45 : decode cX8_partner 45 = .ok (.iload_n 3, 1) := by decide +kernel
theorem dX8_partner_46 : decode cX8_partner 46 = .ok (.iadd, 1) := by decide +kernel
theorem dX8_partner_47 : decode cX8_partner 47 = .ok (.bipush 9, 2) := by decide +kernel
theorem dX8_partner_49 : decode cX8_partner 49 = .ok (.if_icmp .gt 6, 3) := by decide +kernel
theorem dX8_partner_52 : decode cX8_partner 52 = .ok (.iload 4, 2) := by decide +kernel
theorem dX8_partner_54 : decode cX8_partner 54 = .ok (.ireturn, 1) := by decide +kernel
theorem dX8_partner_55 : decode cX8_partner 55 = .ok (.iinc 4 1, 3) := by decide +kernel
theorem dX8_partner_58 : decode cX8_partner 58 = .ok (.goto (-55), 3) := by decide +kernel
theorem dX8_partner_61 : decode cX8_partner 61 = .ok (.bipush (-6), 2) := by decide +kernel
theorem dX8_partner_63 : decode cX8_partner 63 = .ok (.ireturn, 1) := by decide +kernel
theorem dX8_comes_0 : decode cX8_comes 0 = .ok (.iload_n 1, 1) := by decide +kernel
theorem dX8_comes_1 : decode cX8_comes 1 = .ok (.iload_n 2, 1) := by decide +kernel
theorem dX8_comes_2 : decode cX8_comes 2 = .ok (.iload_n 3, 1) := by decide +kernel
theorem dX8_comes_3 : decode cX8_comes 3 = .ok (.invokestatic 97, 3) := by decide +kernel
theorem dX8_comes_6 : decode cX8_comes 6 = .ok (.ifCond .ne 6, 3) := by decide +kernel
theorem dX8_comes_9 : decode cX8_comes 9 = .ok (.bipush (-2), 2) := by decide +kernel
theorem dX8_comes_11 : decode cX8_comes 11 = .ok (.ireturn, 1) := by decide +kernel
theorem dX8_comes_12 : decode cX8_comes 12 = .ok (.aload_n 0, 1) := by decide +kernel
theorem dX8_comes_13 : decode cX8_comes 13 = .ok (.iload_n 1, 1) := by decide +kernel
theorem dX8_comes_14 : decode cX8_comes 14 = .ok (.iload_n 2, 1) := by decide +kernel
theorem dX8_comes_15 : decode cX8_comes 15 = .ok (.iload_n 3, 1) := by decide +kernel
theorem dX8_comes_16 : decode cX8_comes 16 = .ok (.invokevirtual 101, 3) := by decide +kernel
theorem dX8_comes_19 : decode cX8_comes 19 = .ok (.istore 4, 2) := by decide +kernel
theorem dX8_comes_21 : decode cX8_comes 21 = .ok (.iload 4, 2) := by decide +kernel
theorem dX8_comes_23 : decode cX8_comes 23 = .ok (.bipush (-6), 2) := by decide +kernel
theorem dX8_comes_25 : decode cX8_comes 25 = .ok (.if_icmp .eq 49, 3) := by decide +kernel
theorem dX8_comes_28 : decode cX8_comes 28 = .ok (.aload_n 0, 1) := by decide +kernel
theorem dX8_comes_29 : decode cX8_comes 29 = .ok (.getfield 7, 3) := by decide +kernel
theorem dX8_comes_32 : decode cX8_comes 32 = .ok (.bipush 78, 2) := by decide +kernel
theorem dX8_comes_34 : decode cX8_comes 34 = .ok (.bipush 6, 2) := by decide +kernel
theorem dX8_comes_36 : decode cX8_comes 36 = .ok (.iload 4, 2) := by decide +kernel
theorem dX8_comes_38 : decode cX8_comes 38 = .ok (.imul, 1) := by decide +kernel
theorem dX8_comes_39 : decode cX8_comes 39 = .ok (.iadd, 1) := by decide +kernel
theorem dX8_comes_40 : decode cX8_comes 40 = .ok (.iconst 3, 1) := by decide +kernel
theorem dX8_comes_41 : decode cX8_comes 41 = .ok (.iadd, 1) := by decide +kernel
theorem dX8_comes_42 : decode cX8_comes 42 = .ok (.dup2, 1) := by decide +kernel
theorem dX8_comes_43 : decode cX8_comes 43 = .ok (.iaload, 1) := by decide +kernel
theorem dX8_comes_44 : decode cX8_comes 44 = .ok (.iload_n 3, 1) := by decide +kernel
theorem dX8_comes_45 : decode cX8_comes 45 = .ok (.iadd, 1) := by decide +kernel
theorem dX8_comes_46 : decode cX8_comes 46 = .ok (.iastore, 1) := by decide +kernel
theorem dX8_comes_47 : decode cX8_comes 47 = .ok (.aload_n 0, 1) := by decide +kernel
theorem dX8_comes_48 : decode cX8_comes 48 = .ok (.getfield 7, 3) := by decide +kernel
theorem dX8_comes_51 : decode cX8_comes 51 = .ok (.bipush 78, 2) := by decide +kernel
theorem dX8_comes_53 : decode cX8_comes 53 = .ok (.bipush 6, 2) := by decide +kernel
theorem dX8_comes_55 : decode cX8_comes 55 = .ok (.iload 4, 2) := by decide +kernel
theorem dX8_comes_57 : decode cX8_comes 57 = .ok (.imul, 1) := by decide +kernel
theorem dX8_comes_58 : decode cX8_comes 58 = .ok (.iadd, 1) := by decide +kernel
theorem dX8_comes_59 : decode cX8_comes 59 = .ok (.iconst 5, 1) := by decide +kernel
theorem dX8_comes_60 : decode cX8_comes 60 = .ok (.iadd, 1) := by decide +kernel
theorem dX8_comes_61 : decode cX8_comes 61 = .ok (.dup2, 1) := by decide +kernel
theorem dX8_comes_62 : decode cX8_comes 62 = .ok (.iaload, 1) := by decide +kernel
theorem dX8_comes_63 : decode cX8_comes 63 = .ok (.iconst 1, 1) := by decide +kernel
theorem dX8_comes_64 : decode cX8_comes 64 = .ok (.iadd, 1) := by decide +kernel
theorem dX8_comes_65 : decode cX8_comes 65 = .ok (.iastore, 1) := by decide +kernel
theorem dX8_comes_66 : decode cX8_comes 66 = .ok (.aload_n 0, 1) := by decide +kernel
theorem dX8_comes_67 : decode cX8_comes 67 = .ok (.iload 4, 2) := by decide +kernel
theorem dX8_comes_69 : decode cX8_comes 69 = .ok (.iconst 0, 1) := by decide +kernel
theorem dX8_comes_70 : decode cX8_comes 70 = .ok (.invokevirtual 35, 3) := by decide +kernel
theorem dX8_comes_73 : decode cX8_comes 73 = .ok (.ireturn, 1) := by decide +kernel
theorem dX8_comes_74 : decode cX8_comes 74 = .ok (.aload_n 0, 1) := by decide +kernel
theorem dX8_comes_75 : decode cX8_comes 75 = .ok (.getfield 7, 3) := by decide +kernel
theorem dX8_comes_78 : decode cX8_comes 78 = .ok (.bipush 7, 2) := by decide +kernel
theorem dX8_comes_80 : decode cX8_comes 80 = .ok (.iaload, 1) := by decide +kernel
theorem dX8_comes_81 : decode cX8_comes 81 = .ok (.bipush 30, 2) := by decide +kernel
theorem dX8_comes_83 : decode cX8_comes 83 = .ok (.if_icmp .ne 6, 3) := by decide +kernel
theorem dX8_comes_86 : decode cX8_comes 86 = .ok (.bipush (-4), 2) := by decide +kernel
theorem dX8_comes_88 : decode cX8_comes 88 = .ok (.ireturn, 1) := by decide +kernel
theorem dX8_comes_89 : decode cX8_comes 89 = .ok (.bipush 78, 2) := by decide +kernel
theorem dX8_comes_91 : decode cX8_comes 91 = .ok (.bipush 6, 2) := by decide +kernel
theorem dX8_comes_93 : decode cX8_comes 93 = .ok (.aload_n 0, 1) := by decide +kernel
theorem dX8_comes_94 : decode cX8_comes 94 = .ok (.getfield 7, 3) := by decide +kernel
theorem dX8_comes_97 : decode cX8_comes 97 = .ok (.bipush 7, 2) := by decide +kernel
theorem dX8_comes_99 : decode cX8_comes 99 = .ok (.iaload, 1) := by decide +kernel
theorem dX8_comes_100 : decode cX8_comes 100 = .ok (.imul, 1) := by decide +kernel
theorem dX8_comes_101 : decode cX8_comes 101 = .ok (.iadd, 1) := by decide +kernel
theorem dX8_comes_102 : decode cX8_comes 102 = .ok (.istore 5, 2) := by decide +kernel
theorem dX8_comes_104 : decode cX8_comes 104 = .ok (.aload_n 0, 1) := by decide +kernel
theorem dX8_comes_105 : decode cX8_comes 105 = .ok (.getfield 7, 3) := by decide +kernel
theorem dX8_comes_108 : decode cX8_comes 108 = .ok (.iload 5, 2) := by decide +kernel
theorem dX8_comes_110 : decode cX8_comes 110 = .ok (.iconst 0, 1) := by decide +kernel
theorem dX8_comes_111 : decode cX8_comes 111 = .ok (.iadd, 1) := by decide +kernel
theorem dX8_comes_112 : decode cX8_comes 112 = .ok (.aload_n 0, 1) := by decide +kernel
theorem dX8_comes_113 : decode cX8_comes 113 = .ok (.getfield 7, 3) := by decide +kernel
theorem dX8_comes_116 : decode cX8_comes 116 = .ok (.bipush 8, 2) := by decide +kernel
theorem dX8_comes_118 : decode cX8_comes 118 = .ok (.iaload, 1) := by decide +kernel
theorem dX8_comes_119 : decode cX8_comes 119 = .ok (.iastore, 1) := by decide +kernel
theorem dX8_comes_120 : decode cX8_comes 120 = .ok (.aload_n 0, 1) := by decide +kernel
theorem dX8_comes_121 : decode cX8_comes 121 = .ok (.getfield 7, 3) := by decide +kernel
theorem dX8_comes_124 : decode cX8_comes 124 = .ok (.iload 5, 2) := by decide +kernel
theorem dX8_comes_126 : decode cX8_comes 126 = .ok (.iconst 1, 1) := by decide +kernel
theorem dX8_comes_127 : decode cX8_comes 127 = .ok (.iadd, 1) := by decide +kernel
theorem dX8_comes_128 : decode cX8_comes 128 = .ok (.iload_n 1, 1) := by decide +kernel
theorem dX8_comes_129 : decode cX8_comes 129 = .ok (.iastore, 1) := by decide +kernel
theorem dX8_comes_130 : decode cX8_comes 130 = .ok (.aload_n 0, 1) := by decide +kernel
theorem dX8_comes_131 : decode cX8_comes 131 = .ok (.getfield 7, 3) := by decide +kernel
theorem dX8_comes_134 : decode cX8_comes 134 = .ok (.iload 5, 2) := by decide +kernel
theorem dX8_comes_136 : decode cX8_comes 136 = .ok (.iconst 2, 1) := by decide +kernel
theorem dX8_comes_137 : decode cX8_comes 137 = .ok (.iadd, 1) := by decide +kernel
theorem dX8_comes_138 : decode cX8_comes 138 = .ok (.iload_n 2, 1) := by decide +kernel
theorem dX8_comes_139 : decode cX8_comes 139 = .ok (.iastore, 1) := by decide +kernel
theorem dX8_comes_140 : decode cX8_comes 140 = .ok (.aload_n 0, 1) := by decide +kernel
theorem dX8_comes_141 : decode cX8_comes 141 = .ok (.getfield 7, 3) := by decide +kernel
theorem dX8_comes_144 : decode cX8_comes 144 = .ok (.iload 5, 2) := by decide +kernel
theorem dX8_comes_146 : decode cX8_comes 146 = .ok (.iconst 3, 1) := by decide +kernel
theorem dX8_comes_147 : decode cX8_comes 147 = .ok (.iadd, 1) := by decide +kernel
theorem dX8_comes_148 : decode cX8_comes 148 = .ok (.iload_n 3, 1) := by decide +kernel
theorem dX8_comes_149 : decode cX8_comes 149 = .ok (.iastore, 1) := by decide +kernel
theorem dX8_comes_150 : decode cX8_comes 150 = .ok (.aload_n 0, 1) := by decide +kernel
theorem dX8_comes_151 : decode cX8_comes 151 = .ok (.getfield 7, 3) := by decide +kernel
theorem dX8_comes_154 : decode cX8_comes 154 = .ok (.iload 5, 2) := by decide +kernel
theorem dX8_comes_156 : decode cX8_comes 156 = .ok (.iconst 4, 1) := by decide +kernel
theorem dX8_comes_157 : decode cX8_comes 157 = .ok (.iadd, 1) := by decide +kernel
theorem dX8_comes_158 : decode cX8_comes 158 = .ok (.aload_n 0, 1) := by decide +kernel
theorem dX8_comes_159 : decode cX8_comes 159 = .ok (.getfield 7, 3) := by decide +kernel
theorem dX8_comes_162 : decode cX8_comes 162 = .ok (.bipush 6, 2) := by decide +kernel
theorem dX8_comes_164 : decode cX8_comes 164 = .ok (.iaload, 1) := by decide +kernel
theorem dX8_comes_165 : decode cX8_comes 165 = .ok (.iastore, 1) := by decide +kernel
theorem dX8_comes_166 : decode cX8_comes 166 = .ok (.aload_n 0, 1) := by decide +kernel
theorem dX8_comes_167 : decode cX8_comes 167 = .ok (.getfield 7, 3) := by decide +kernel
theorem dX8_comes_170 : decode cX8_comes 170 = .ok (.iload 5, 2) := by decide +kernel
theorem dX8_comes_172 : decode cX8_comes 172 = .ok (.iconst 5, 1) := by decide +kernel
theorem dX8_comes_173 : decode cX8_comes 173 = .ok (.iadd, 1) := by decide +kernel
theorem dX8_comes_174 : decode cX8_comes 174 = .ok (.iconst 0, 1) := by decide +kernel
theorem dX8_comes_175 : decode cX8_comes 175 = .ok (.iastore, 1) := by decide +kernel
theorem dX8_comes_176 : decode cX8_comes 176 = .ok (.aload_n 0, 1) := by decide +kernel
theorem dX8_comes_177 : decode cX8_comes 177 = .ok (.getfield 7, 3) := by decide +kernel
theorem dX8_comes_180 : decode cX8_comes 180 = .ok (.bipush 7, 2) := by decide +kernel
theorem dX8_comes_182 : decode cX8_comes 182 = .ok (.dup2, 1) := by decide +kernel
theorem dX8_comes_183 : decode cX8_comes 183 = .ok (.iaload, 1) := by decide +kernel
theorem dX8_comes_184 : decode cX8_comes 184 = .ok (.iconst 1, 1) := by decide +kernel
theorem dX8_comes_185 : decode cX8_comes 185 = .ok (.iadd, 1) := by decide +kernel
theorem dX8_comes_186 : decode cX8_comes 186 = .ok (.iastore, 1) := by decide +kernel
theorem dX8_comes_187 : decode cX8_comes 187 = .ok (.aload_n 0, 1) := by decide +kernel
theorem dX8_comes_188 : decode cX8_comes 188 = .ok (.getfield 7, 3) := by decide +kernel
theorem dX8_comes_191 : decode cX8_comes 191 = .ok (.bipush 8, 2) := by decide +kernel
theorem dX8_comes_193 : decode cX8_comes 193 = .ok (.dup2, 1) := by decide +kernel
theorem dX8_comes_194 : decode cX8_comes 194 = .ok (.iaload, 1) := by decide +kernel
theorem dX8_comes_195 : decode cX8_comes 195 = .ok (.iconst 1, 1) := by decide +kernel
theorem dX8_comes_196 : decode cX8_comes 196 = .ok (.iadd, 1) := by decide +kernel
theorem dX8_comes_197 : decode cX8_comes 197 = .ok (.iastore, 1) := by decide +kernel
theorem dX8_comes_198 : decode cX8_comes 198 = .ok (.aload_n 0, 1) := by decide +kernel
theorem dX8_comes_199 : decode cX8_comes 199 = .ok (.getfield 7, 3) := by decide +kernel
theorem dX8_comes_202 : decode cX8_comes 202 = .ok (.bipush 8, 2) := by decide +kernel
theorem dX8_comes_204 : decode cX8_comes 204 = .ok (.iaload, 1) := by decide +kernel
theorem dX8_comes_205 : decode cX8_comes 205 = .ok (.iconst 1, 1) := by decide +kernel
theorem dX8_comes_206 : decode cX8_comes 206 = .ok (.isub, 1) := by decide +kernel
theorem dX8_comes_207 : decode cX8_comes 207 = .ok (.ireturn, 1) := by decide +kernel
theorem dX8_serves_0 : decode cX8_serves 0 = .ok (.iload_n 1, 1) := by decide +kernel
theorem dX8_serves_1 : decode cX8_serves 1 = .ok (.i2l, 1) := by decide +kernel
theorem dX8_serves_2 : decode cX8_serves 2 = .ok (.iconst 1, 1) := by decide +kernel
theorem dX8_serves_3 : decode cX8_serves 3 = .ok (.bipush 30, 2) := by decide +kernel
theorem dX8_serves_5 : decode cX8_serves 5 = .ok (.invokestatic 43, 3) := by decide +kernel
theorem dX8_serves_8 : decode cX8_serves 8 = .ok (.ifCond .ne 6, 3) := by decide +kernel
theorem dX8_serves_11 : decode cX8_serves 11 = .ok (.bipush (-2), 2) := by decide +kernel
theorem dX8_serves_13 : decode cX8_serves 13 = .ok (.ireturn, 1) := by decide +kernel
theorem dX8_serves_14 : decode cX8_serves 14 = .ok (.aload_n 0, 1) := by decide +kernel
theorem dX8_serves_15 : decode cX8_serves 15 = .ok (.getfield 7, 3) := by decide +kernel
theorem dX8_serves_18 : decode cX8_serves 18 = .ok (.bipush 7, 2) := by decide +kernel
theorem dX8_serves_20 : decode cX8_serves 20 = .ok (.iaload, 1) := by decide +kernel
theorem dX8_serves_21 : decode cX8_serves 21 = .ok (.ifCond .ne 6, 3) := by decide +kernel
theorem dX8_serves_24 : decode cX8_serves 24 = .ok (.bipush (-5), 2) := by decide +kernel
theorem dX8_serves_26 : decode cX8_serves 26 = .ok (.ireturn, 1) := by decide +kernel
theorem dX8_serves_27 : decode cX8_serves 27 = .ok (.aload_n 0, 1) := by decide +kernel
theorem dX8_serves_28 : decode cX8_serves 28 = .ok (.invokevirtual 105, 3) := by decide +kernel
theorem dX8_serves_31 : decode cX8_serves 31 = .ok (.iconst 0, 1) := by decide +kernel
theorem dX8_serves_32 : decode cX8_serves 32 = .ok (.istore_n 2, 1) := by decide +kernel
theorem dX8_serves_33 : decode cX8_serves 33 = .ok (.iload_n 2, 1) := by decide +kernel
theorem dX8_serves_34 : decode cX8_serves 34 = .ok (.iload_n 1, 1) := by decide +kernel
theorem dX8_serves_35 : decode cX8_serves 35 = .ok (.if_icmp .ge 23, 3) := by decide +kernel
theorem dX8_serves_38 : decode cX8_serves 38 = .ok (.aload_n 0, 1) := by decide +kernel
theorem dX8_serves_39 : decode cX8_serves 39 = .ok (.getfield 7, 3) := by decide +kernel
theorem dX8_serves_42 : decode cX8_serves 42 = .ok (.bipush 7, 2) := by decide +kernel
theorem dX8_serves_44 : decode cX8_serves 44 = .ok (.iaload, 1) := by decide +kernel
theorem dX8_serves_45 : decode cX8_serves 45 = .ok (.ifCond .le 13, 3) := by decide +kernel
theorem dX8_serves_48 : decode cX8_serves 48 = .ok (.aload_n 0, 1) := by decide +kernel
theorem dX8_serves_49 : decode cX8_serves 49 = .ok (.invokevirtual 108, 3) := by decide +kernel
theorem dX8_serves_52 : decode cX8_serves 52 = .ok (.iinc 2 1, 3) := by decide +kernel
theorem dX8_serves_55 : decode cX8_serves 55 = .ok (.goto (-22), 3) := by decide +kernel
theorem dX8_serves_58 : decode cX8_serves 58 = .ok (.aload_n 0, 1) := by decide +kernel
theorem dX8_serves_59 : decode cX8_serves 59 = .ok (.getfield 7, 3) := by decide +kernel
theorem dX8_serves_62 : decode cX8_serves 62 = .ok (.bipush 6, 2) := by decide +kernel
theorem dX8_serves_64 : decode cX8_serves 64 = .ok (.iaload, 1) := by decide +kernel
theorem dX8_serves_65 : decode cX8_serves 65 = .ok (.ldc 111, 2) := by decide +kernel
theorem dX8_serves_67 : decode cX8_serves 67 = .ok (.if_icmp .le 10, 3) := by decide +kernel
theorem dX8_serves_70 : decode cX8_serves 70 = .ok (.aload_n 0, 1) := by decide +kernel
theorem dX8_serves_71 : decode cX8_serves 71 = .ok (.invokevirtual 112, 3) := by decide +kernel
theorem dX8_serves_74 : decode cX8_serves 74 = .ok (.bipush (-5), 2) := by decide +kernel
theorem dX8_serves_76 : decode cX8_serves 76 = .ok (.ireturn, 1) := by decide +kernel
theorem dX8_serves_77 : decode cX8_serves 77 = .ok (.iload_n 2, 1) := by decide +kernel
theorem dX8_serves_78 : decode cX8_serves 78 = .ok (.ireturn, 1) := by decide +kernel
theorem dX8_waits_0 : decode cX8_waits 0 = .ok (.iload_n 1, 1) := by decide +kernel
theorem dX8_waits_1 : decode cX8_waits 1 = .ok (.i2l, 1) := by decide +kernel
theorem dX8_waits_2 : decode cX8_waits 2 = .ok (.iconst 1, 1) := by decide +kernel
theorem dX8_waits_3 : decode cX8_waits 3 = .ok (.sipush 999, 3) := by decide +kernel
theorem dX8_waits_6 : decode cX8_waits 6 = .ok (.invokestatic 43, 3) := by decide +kernel
theorem dX8_waits_9 : decode cX8_waits 9 = .ok (.ifCond .ne 6, 3) := by decide +kernel
theorem dX8_waits_12 : decode cX8_waits 12 = .ok (.bipush (-2), 2) := by decide +kernel
theorem dX8_waits_14 : decode cX8_waits 14 = .ok (.ireturn, 1) := by decide +kernel
theorem dX8_waits_15 : decode cX8_waits 15 = .ok (.aload_n 0, 1) := by decide +kernel
theorem dX8_waits_16 : decode cX8_waits 16 = .ok (.getfield 7, 3) := by decide +kernel
theorem dX8_waits_19 : decode cX8_waits 19 = .ok (.bipush 6, 2) := by decide +kernel
theorem dX8_waits_21 : decode cX8_waits 21 = .ok (.iaload, 1) := by decide +kernel
theorem dX8_waits_22 : decode cX8_waits 22 = .ok (.iload_n 1, 1) := by decide +kernel
theorem dX8_waits_23 : decode cX8_waits 23 = .ok (.iadd, 1) := by decide +kernel
theorem dX8_waits_24 : decode cX8_waits 24 = .ok (.ldc 111, 2) := by decide +kernel
theorem dX8_waits_26 : decode cX8_waits 26 = .ok (.if_icmp .le 6, 3) := by decide +kernel
theorem dX8_waits_29 : decode cX8_waits 29 = .ok (.bipush (-5), 2) := by decide +kernel
theorem dX8_waits_31 : decode cX8_waits 31 = .ok (.ireturn, 1) := by decide +kernel
theorem dX8_waits_32 : decode cX8_waits 32 = .ok (.aload_n 0, 1) := by decide +kernel
theorem dX8_waits_33 : decode cX8_waits 33 = .ok (.getfield 7, 3) := by decide +kernel
theorem dX8_waits_36 : decode cX8_waits 36 = .ok (.bipush 6, 2) := by decide +kernel
theorem dX8_waits_38 : decode cX8_waits 38 = .ok (.dup2, 1) := by decide +kernel
theorem dX8_waits_39 : decode cX8_waits 39 = .ok (.iaload, 1) := by decide +kernel
theorem dX8_waits_40 : decode cX8_waits 40 = .ok (.iload_n 1, 1) := by decide +kernel
theorem dX8_waits_41 : decode cX8_waits 41 = .ok (.iadd, 1) := by decide +kernel
theorem dX8_waits_42 : decode cX8_waits 42 = .ok (.iastore, 1) := by decide +kernel
theorem dX8_waits_43 : decode cX8_waits 43 = .ok (.aload_n 0, 1) := by decide +kernel
theorem dX8_waits_44 : decode cX8_waits 44 = .ok (.getfield 7, 3) := by decide +kernel
theorem dX8_waits_47 : decode cX8_waits 47 = .ok (.bipush 6, 2) := by decide +kernel
theorem dX8_waits_49 : decode cX8_waits 49 = .ok (.iaload, 1) := by decide +kernel
theorem dX8_waits_50 : decode cX8_waits 50 = .ok (.ireturn, 1) := by decide +kernel
theorem dX8_leastOf_0 : decode cX8_leastOf 0 = .ok (.iload_n 0, 1) := by decide +kernel
theorem dX8_leastOf_1 : decode cX8_leastOf 1 = .ok (.iconst 4, 1) := by decide +kernel
theorem dX8_leastOf_2 : decode cX8_leastOf 2 = .ok (.if_icmp .ne 7, 3) := by decide +kernel
theorem dX8_leastOf_5 : decode cX8_leastOf 5 = .ok (.iconst 0, 1) := by decide +kernel
theorem dX8_leastOf_6 : decode cX8_leastOf 6 = .ok (.goto 4, 3) := by decide +kernel
theorem dX8_leastOf_9 : decode cX8_leastOf 9 = .ok (.iconst 1, 1) := by decide +kernel
theorem dX8_leastOf_10 : decode cX8_leastOf 10 = .ok (.ireturn, 1) := by decide +kernel
theorem dX8_mostOf_0 : decode cX8_mostOf 0 = .ok (.iload_n 0, 1) := by decide +kernel
theorem dX8_mostOf_1 : decode cX8_mostOf 1 = .ok (.iconst 2, 1) := by decide +kernel
theorem dX8_mostOf_2 : decode cX8_mostOf 2 = .ok (.if_icmp .ge 9, 3) := by decide +kernel
theorem dX8_mostOf_5 : decode cX8_mostOf 5 = .ok (.sipush 999, 3) := by decide +kernel
theorem dX8_mostOf_8 : decode cX8_mostOf 8 = .ok (.goto 25, 3) := by decide +kernel
theorem dX8_mostOf_11 : decode cX8_mostOf 11 = .ok (.iload_n 0, 1) := by decide +kernel
theorem dX8_mostOf_12 : decode cX8_mostOf 12 = .ok (.iconst 2, 1) := by decide +kernel
theorem dX8_mostOf_13 : decode cX8_mostOf 13 = .ok (.if_icmp .ne 8, 3) := by decide +kernel
theorem dX8_mostOf_16 : decode cX8_mostOf 16 = .ok (.bipush 16, 2) := by decide +kernel
theorem dX8_mostOf_18 : decode cX8_mostOf 18 = .ok (.goto 15, 3) := by decide +kernel
theorem dX8_mostOf_21 : decode cX8_mostOf 21 = .ok (.iload_n 0, 1) := by decide +kernel
theorem dX8_mostOf_22 : decode cX8_mostOf 22 = .ok (.iconst 5, 1) := by decide +kernel
theorem dX8_mostOf_23 : decode cX8_mostOf 23 = .ok (.if_icmp .ne 8, 3) := by decide +kernel
theorem dX8_mostOf_26 : decode cX8_mostOf 26 = .ok (.bipush 20, 2) := by decide +kernel
theorem dX8_mostOf_28 : decode cX8_mostOf 28 = .ok (.goto 5, 3) := by decide +kernel
theorem dX8_mostOf_31 : decode cX8_mostOf 31 = .ok (.bipush 9, 2) := by decide +kernel
theorem dX8_mostOf_33 : decode cX8_mostOf 33 = .ok (.ireturn, 1) := by decide +kernel
theorem dX8_set_0 : decode cX8_set 0 = .ok (.iload_n 1, 1) := by decide +kernel
theorem dX8_set_1 : decode cX8_set 1 = .ok (.i2l, 1) := by decide +kernel
theorem dX8_set_2 : decode cX8_set 2 = .ok (.iconst 0, 1) := by decide +kernel
theorem dX8_set_3 : decode cX8_set 3 = .ok (.iconst 5, 1) := by decide +kernel
theorem dX8_set_4 : decode cX8_set 4 = .ok (.invokestatic 43, 3) := by decide +kernel
theorem dX8_set_7 : decode cX8_set 7 = .ok (.ifCond .eq 19, 3) := by decide +kernel
theorem dX8_set_10 : decode cX8_set 10 = .ok (.iload_n 2, 1) := by decide +kernel
theorem dX8_set_11 : decode cX8_set 11 = .ok (.i2l, 1) := by decide +kernel
theorem dX8_set_12 : decode cX8_set 12 = .ok (.iload_n 1, 1) := by decide +kernel
theorem dX8_set_13 : decode cX8_set 13 = .ok (.invokestatic 115, 3) := by decide +kernel
theorem dX8_set_16 : decode cX8_set 16 = .ok (.iload_n 1, 1) := by decide +kernel
theorem dX8_set_17 : decode cX8_set 17 = .ok (.invokestatic 118, 3) := by decide +kernel
theorem dX8_set_20 : decode cX8_set 20 = .ok (.invokestatic 43, 3) := by decide +kernel
theorem dX8_set_23 : decode cX8_set 23 = .ok (.ifCond .ne 6, 3) := by decide +kernel
theorem dX8_set_26 : decode cX8_set 26 = .ok (.bipush (-2), 2) := by decide +kernel
theorem dX8_set_28 : decode cX8_set 28 = .ok (.ireturn, 1) := by decide +kernel
theorem dX8_set_29 : decode cX8_set 29 = .ok (.aload_n 0, 1) := by decide +kernel
theorem dX8_set_30 : decode cX8_set 30 = .ok (.invokevirtual 47, 3) := by decide +kernel
theorem dX8_set_33 : decode cX8_set 33 = .ok (.aload_n 0, 1) := by decide +kernel
theorem dX8_set_34 : decode cX8_set 34 = .ok (.getfield 7, 3) := by decide +kernel
theorem dX8_set_37 : decode cX8_set 37 = .ok (.iload_n 1, 1) := by decide +kernel
theorem dX8_set_38 : decode cX8_set 38 = .ok (.iaload, 1) := by decide +kernel
theorem dX8_set_39 : decode cX8_set 39 = .ok (.istore_n 3, 1) := by decide +kernel
theorem dX8_set_40 : decode cX8_set 40 = .ok (.aload_n 0, 1) := by decide +kernel
theorem dX8_set_41 : decode cX8_set 41 = .ok (.getfield 7, 3) := by decide +kernel
theorem dX8_set_44 : decode cX8_set 44 = .ok (.iload_n 1, 1) := by decide +kernel
theorem dX8_set_45 : decode cX8_set 45 = .ok (.iload_n 2, 1) := by decide +kernel
theorem dX8_set_46 : decode cX8_set 46 = .ok (.iastore, 1) := by decide +kernel
theorem dX8_set_47 : decode cX8_set 47 = .ok (.aload_n 0, 1) := by decide +kernel
theorem dX8_set_48 : decode cX8_set 48 = .ok (.iload_n 3, 1) := by decide +kernel
theorem dX8_set_49 : decode cX8_set 49 = .ok (.invokevirtual 50, 3) := by decide +kernel
theorem dX8_set_52 : decode cX8_set 52 = .ok (.ireturn, 1) := by decide +kernel
theorem dX8_slip_0 : decode cX8_slip 0 = .ok (.aload_n 0, 1) := by decide +kernel
theorem dX8_slip_1 : decode cX8_slip 1 = .ok (.invokevirtual 47, 3) := by decide +kernel
theorem dX8_slip_4 : decode cX8_slip 4 = .ok (.aload_n 0, 1) := by decide +kernel
theorem dX8_slip_5 : decode cX8_slip 5 = .ok (.aload_n 0, 1) := by decide +kernel
theorem dX8_slip_6 : decode cX8_slip 6 = .ok (.iload_n 1, 1) := by decide +kernel
theorem dX8_slip_7 : decode cX8_slip 7 = .ok (.iload_n 2, 1) := by decide +kernel
theorem dX8_slip_8 : decode cX8_slip 8 = .ok (.iload_n 3, 1) := by decide +kernel
theorem dX8_slip_9 : decode cX8_slip 9 = .ok (.invokevirtual 121, 3) := by decide +kernel
theorem dX8_slip_12 : decode cX8_slip 12 = .ok (.invokevirtual 50, 3) := by decide +kernel
theorem dX8_slip_15 : decode cX8_slip 15 = .ok (.ireturn, 1) := by decide +kernel
theorem dX8_tear_0 : decode cX8_tear 0 = .ok (.aload_n 0, 1) := by decide +kernel
theorem dX8_tear_1 : decode cX8_tear 1 = .ok (.iload_n 1, 1) := by decide +kernel
theorem dX8_tear_2 : decode cX8_tear 2 = .ok (.invokevirtual 124, 3) := by decide +kernel
theorem dX8_tear_5 : decode cX8_tear 5 = .ok (.istore_n 2, 1) := by decide +kernel
theorem dX8_tear_6 : decode cX8_tear 6 = .ok (.iload_n 2, 1) := by decide +kernel
theorem dX8_tear_7 : decode cX8_tear 7 = .ok (.bipush (-6), 2) := by decide +kernel
theorem dX8_tear_9 : decode cX8_tear 9 = .ok (.if_icmp .ne 5, 3) := by decide +kernel
theorem dX8_tear_12 : decode cX8_tear 12 = .ok (.iconst (-1), 1) := by decide +kernel
theorem dX8_tear_13 : decode cX8_tear 13 = .ok (.ireturn, 1) := by decide +kernel
theorem dX8_tear_14 : decode cX8_tear 14 = .ok (.aload_n 0, 1) := by decide +kernel
theorem dX8_tear_15 : decode cX8_tear 15 = .ok (.invokevirtual 47, 3) := by decide +kernel
theorem dX8_tear_18 : decode cX8_tear 18 = .ok (.aload_n 0, 1) := by decide +kernel
theorem dX8_tear_19 : decode cX8_tear 19 = .ok (.getfield 7, 3) := by decide +kernel
theorem dX8_tear_22 : decode cX8_tear 22 = .ok (.bipush 6, 2) := by decide +kernel
theorem dX8_tear_24 : decode cX8_tear 24 = .ok (.iaload, 1) := by decide +kernel
theorem dX8_tear_25 : decode cX8_tear 25 = .ok (.aload_n 0, 1) := by decide +kernel
theorem dX8_tear_26 : decode cX8_tear 26 = .ok (.iload_n 2, 1) := by decide +kernel
theorem dX8_tear_27 : decode cX8_tear 27 = .ok (.iconst 4, 1) := by decide +kernel
theorem dX8_tear_28 : decode cX8_tear 28 = .ok (.invokevirtual 35, 3) := by decide +kernel
theorem dX8_tear_31 : decode cX8_tear 31 = .ok (.isub, 1) := by decide +kernel
theorem dX8_tear_32 : decode cX8_tear 32 = .ok (.istore_n 3, 1) := by decide +kernel
theorem dX8_tear_33 : decode cX8_tear 33 = .ok (.aload_n 0, 1) := by decide +kernel
theorem dX8_tear_34 : decode cX8_tear 34 = .ok (.iload_n 2, 1) := by decide +kernel
theorem dX8_tear_35 : decode cX8_tear 35 = .ok (.invokevirtual 93, 3) := by decide +kernel
theorem dX8_tear_38 : decode cX8_tear 38 = .ok (.aload_n 0, 1) := by decide +kernel
theorem dX8_tear_39 : decode cX8_tear 39 = .ok (.iload_n 3, 1) := by decide +kernel
theorem dX8_tear_40 : decode cX8_tear 40 = .ok (.invokevirtual 50, 3) := by decide +kernel
theorem dX8_tear_43 : decode cX8_tear 43 = .ok (.ireturn, 1) := by decide +kernel
theorem dX8_serve_0 : decode cX8_serve 0 = .ok (.aload_n 0, 1) := by decide +kernel
theorem dX8_serve_1 : decode cX8_serve 1 = .ok (.invokevirtual 47, 3) := by decide +kernel
theorem dX8_serve_4 : decode cX8_serve 4 = .ok (.aload_n 0, 1) := by decide +kernel
theorem dX8_serve_5 : decode cX8_serve 5 = .ok (.aload_n 0, 1) := by decide +kernel
theorem dX8_serve_6 : decode cX8_serve 6 = .ok (.iload_n 1, 1) := by decide +kernel
theorem dX8_serve_7 : decode cX8_serve 7 = .ok (.invokevirtual 127, 3) := by decide +kernel
theorem dX8_serve_10 : decode cX8_serve 10 = .ok (.invokevirtual 50, 3) := by decide +kernel
theorem dX8_serve_13 : decode cX8_serve 13 = .ok (.ireturn, 1) := by decide +kernel
theorem dX8_pass_0 : decode cX8_pass 0 = .ok (.aload_n 0, 1) := by decide +kernel
theorem dX8_pass_1 : decode cX8_pass 1 = .ok (.invokevirtual 47, 3) := by decide +kernel
theorem dX8_pass_4 : decode cX8_pass 4 = .ok (.aload_n 0, 1) := by decide +kernel
theorem dX8_pass_5 : decode cX8_pass 5 = .ok (.aload_n 0, 1) := by decide +kernel
theorem dX8_pass_6 : decode cX8_pass 6 = .ok (.iload_n 1, 1) := by decide +kernel
theorem dX8_pass_7 : decode cX8_pass 7 = .ok (.invokevirtual 130, 3) := by decide +kernel
theorem dX8_pass_10 : decode cX8_pass 10 = .ok (.invokevirtual 50, 3) := by decide +kernel
theorem dX8_pass_13 : decode cX8_pass 13 = .ok (.ireturn, 1) := by decide +kernel
theorem dX8_of_0 : decode cX8_of 0 = .ok (.aload_n 0, 1) := by decide +kernel
theorem dX8_of_1 : decode cX8_of 1 = .ok (.iload_n 1, 1) := by decide +kernel
theorem dX8_of_2 : decode cX8_of 2 = .ok (.invokevirtual 124, 3) := by decide +kernel
theorem dX8_of_5 : decode cX8_of 5 = .ok (.istore_n 3, 1) := by decide +kernel
theorem dX8_of_6 : decode cX8_of 6 = .ok (.iload_n 3, 1) := by decide +kernel
theorem dX8_of_7 : decode cX8_of 7 = .ok (.bipush (-6), 2) := by decide +kernel
theorem dX8_of_9 : decode cX8_of 9 = .ok (.if_icmp .ne 5, 3) := by decide +kernel
theorem dX8_of_12 : decode cX8_of 12 = .ok (.iconst (-1), 1) := by decide +kernel
theorem dX8_of_13 : decode cX8_of 13 = .ok (.ireturn, 1) := by decide +kernel
theorem dX8_of_14 : decode cX8_of 14 = .ok (.iload_n 2, 1) := by decide +kernel
theorem dX8_of_15 : decode cX8_of 15 = .ok (.tableswitch 93 0 5 #[37, 44, 51, 57, 72, 86], 37) := by decide +kernel
theorem dX8_of_52 : decode cX8_of 52 = .ok (.aload_n 0, 1) := by decide +kernel
theorem dX8_of_53 : decode cX8_of 53 = .ok (.iload_n 3, 1) := by decide +kernel
theorem dX8_of_54 : decode cX8_of 54 = .ok (.iconst 1, 1) := by decide +kernel
theorem dX8_of_55 : decode cX8_of 55 = .ok (.invokevirtual 35, 3) := by decide +kernel
theorem dX8_of_58 : decode cX8_of 58 = .ok (.ireturn, 1) := by decide +kernel
theorem dX8_of_59 : decode cX8_of 59 = .ok (.aload_n 0, 1) := by decide +kernel
theorem dX8_of_60 : decode cX8_of 60 = .ok (.iload_n 3, 1) := by decide +kernel
theorem dX8_of_61 : decode cX8_of 61 = .ok (.iconst 2, 1) := by decide +kernel
theorem dX8_of_62 : decode cX8_of 62 = .ok (.invokevirtual 35, 3) := by decide +kernel
theorem dX8_of_65 : decode cX8_of 65 = .ok (.ireturn, 1) := by decide +kernel
theorem dX8_of_66 : decode cX8_of 66 = .ok (.aload_n 0, 1) := by decide +kernel
theorem dX8_of_67 : decode cX8_of 67 = .ok (.iload_n 3, 1) := by decide +kernel
theorem dX8_of_68 : decode cX8_of 68 = .ok (.invokevirtual 86, 3) := by decide +kernel
theorem dX8_of_71 : decode cX8_of 71 = .ok (.ireturn, 1) := by decide +kernel
theorem dX8_of_72 : decode cX8_of 72 = .ok (.aload_n 0, 1) := by decide +kernel
theorem dX8_of_73 : decode cX8_of 73 = .ok (.getfield 7, 3) := by decide +kernel
theorem dX8_of_76 : decode cX8_of 76 = .ok (.bipush 6, 2) := by decide +kernel
theorem dX8_of_78 : decode cX8_of 78 = .ok (.iaload, 1) := by decide +kernel
theorem dX8_of_79 : decode cX8_of 79 = .ok (.aload_n 0, 1) := by decide +kernel
theorem dX8_of_80 : decode cX8_of 80 = .ok (.iload_n 3, 1) := by decide +kernel
theorem dX8_of_81 : decode cX8_of 81 = .ok (.iconst 4, 1) := by decide +kernel
theorem dX8_of_82 : decode cX8_of 82 = .ok (.invokevirtual 35, 3) := by decide +kernel
theorem dX8_of_85 : decode cX8_of 85 = .ok (.isub, 1) := by decide +kernel
theorem dX8_of_86 : decode cX8_of 86 = .ok (.ireturn, 1) := by decide +kernel
theorem dX8_of_87 : decode cX8_of 87 = .ok (.aload_n 0, 1) := by decide +kernel
theorem dX8_of_88 : decode cX8_of 88 = .ok (.iload_n 3, 1) := by decide +kernel
theorem dX8_of_89 : decode cX8_of 89 = .ok (.invokevirtual 73, 3) := by decide +kernel
theorem dX8_of_92 : decode cX8_of 92 = .ok (.ifCond .eq 7, 3) := by decide +kernel
theorem dX8_of_95 : decode cX8_of 95 = .ok (.iconst 1, 1) := by decide +kernel
theorem dX8_of_96 : decode cX8_of 96 = .ok (.goto 4, 3) := by decide +kernel
theorem dX8_of_99 : decode cX8_of 99 = .ok (.iconst 0, 1) := by decide +kernel
theorem dX8_of_100 : decode cX8_of 100 = .ok (.ireturn, 1) := by decide +kernel
theorem dX8_of_101 : decode cX8_of 101 = .ok (.aload_n 0, 1) := by decide +kernel
theorem dX8_of_102 : decode cX8_of 102 = .ok (.iload_n 3, 1) := by decide +kernel
theorem dX8_of_103 : decode cX8_of 103 = .ok (.iconst 5, 1) := by decide +kernel
theorem dX8_of_104 : decode cX8_of 104 = .ok (.invokevirtual 35, 3) := by decide +kernel
theorem dX8_of_107 : decode cX8_of 107 = .ok (.ireturn, 1) := by decide +kernel
theorem dX8_of_108 : decode cX8_of 108 = .ok (.bipush (-2), 2) := by decide +kernel
theorem dX8_of_110 : decode cX8_of 110 = .ok (.ireturn, 1) := by decide +kernel
theorem dX8_rank_0 : decode cX8_rank 0 = .ok (.iconst 0, 1) := by decide +kernel
theorem dX8_rank_1 : decode cX8_rank 1 = .ok (.istore_n 2, 1) := by decide +kernel
theorem dX8_rank_2 : decode cX8_rank 2 = .ok (.iconst 0, 1) := by decide +kernel
theorem dX8_rank_3 : decode cX8_rank 3 = .ok (.istore_n 3, 1) := by decide +kernel
theorem dX8_rank_4 : decode cX8_rank 4 = .ok (.iload_n 3, 1) := by decide +kernel
theorem dX8_rank_5 : decode cX8_rank 5 = .ok (.aload_n 0, 1) := by decide +kernel
theorem dX8_rank_6 : decode cX8_rank 6 = .ok (.getfield 7, 3) := by decide +kernel
theorem dX8_rank_9 : decode cX8_rank 9 = .ok (.bipush 7, 2) := by decide +kernel
theorem dX8_rank_11 : decode cX8_rank 11 = .ok (.iaload, 1) := by decide +kernel
theorem dX8_rank_12 : decode cX8_rank 12 = .ok (.if_icmp .ge 79, 3) := by decide +kernel
theorem dX8_rank_15 : decode cX8_rank 15 = .ok (.aload_n 0, 1) := by decide +kernel
theorem dX8_rank_16 : decode cX8_rank 16 = .ok (.iload_n 3, 1) := by decide +kernel
theorem dX8_rank_17 : decode cX8_rank 17 = .ok (.iconst 2, 1) := by decide +kernel
theorem dX8_rank_18 : decode cX8_rank 18 = .ok (.invokevirtual 35, 3) := by decide +kernel
theorem dX8_rank_21 : decode cX8_rank 21 = .ok (.aload_n 0, 1) := by decide +kernel
theorem dX8_rank_22 : decode cX8_rank 22 = .ok (.iload_n 1, 1) := by decide +kernel
theorem dX8_rank_23 : decode cX8_rank 23 = .ok (.iconst 2, 1) := by decide +kernel
theorem dX8_rank_24 : decode cX8_rank 24 = .ok (.invokevirtual 35, 3) := by decide +kernel
theorem dX8_rank_27 : decode cX8_rank 27 = .ok (.if_icmp .lt 23, 3) := by decide +kernel
theorem dX8_rank_30 : decode cX8_rank 30 = .ok (.aload_n 0, 1) := by decide +kernel
theorem dX8_rank_31 : decode cX8_rank 31 = .ok (.iload_n 3, 1) := by decide +kernel
theorem dX8_rank_32 : decode cX8_rank 32 = .ok (.iconst 2, 1) := by decide +kernel
theorem dX8_rank_33 : decode cX8_rank 33 = .ok (.invokevirtual 35, 3) := by decide +kernel
theorem dX8_rank_36 : decode cX8_rank 36 = .ok (.aload_n 0, 1) := by decide +kernel
theorem dX8_rank_37 : decode cX8_rank 37 = .ok (.iload_n 1, 1) := by decide +kernel
theorem dX8_rank_38 : decode cX8_rank 38 = .ok (.iconst 2, 1) := by decide +kernel
theorem dX8_rank_39 : decode cX8_rank 39 = .ok (.invokevirtual 35, 3) := by decide +kernel
theorem dX8_rank_42 : decode cX8_rank 42 = .ok (.if_icmp .ne 12, 3) := by decide +kernel
theorem dX8_rank_45 : decode cX8_rank 45 = .ok (.iload_n 3, 1) := by decide +kernel
theorem dX8_rank_46 : decode cX8_rank 46 = .ok (.iload_n 1, 1) := by decide +kernel
theorem dX8_rank_47 : decode cX8_rank 47 = .ok (.if_icmp .ge 7, 3) := by decide +kernel
theorem dX8_rank_50 : decode cX8_rank 50 = .ok (.iconst 1, 1) := by decide +kernel
theorem dX8_rank_51 : decode cX8_rank 51 = .ok (.goto 4, 3) := by decide +kernel
theorem dX8_rank_54 : decode cX8_rank 54 = .ok (.iconst 0, 1) := by decide +kernel
theorem dX8_rank_55 : decode cX8_rank 55 = .ok (.istore 4, 2) := by decide +kernel
theorem dX8_rank_57 : decode cX8_rank 57 = .ok (.iload_n 2, 1) := by decide +kernel
theorem dX8_rank_58 : decode cX8_rank 58 = .ok (.aload_n 0, 1) := by decide +kernel
theorem dX8_rank_59 : decode cX8_rank 59 = .ok (.iload_n 3, 1) := by decide +kernel
theorem dX8_rank_60 : decode cX8_rank 60 = .ok (.iconst 1, 1) := by decide +kernel
theorem dX8_rank_61 : decode cX8_rank 61 = .ok (.invokevirtual 35, 3) := by decide +kernel
theorem dX8_rank_64 : decode cX8_rank 64 = .ok (.aload_n 0, 1) := by decide +kernel
theorem dX8_rank_65 : decode cX8_rank 65 = .ok (.iload_n 1, 1) := by decide +kernel
theorem dX8_rank_66 : decode cX8_rank 66 = .ok (.iconst 1, 1) := by decide +kernel
theorem dX8_rank_67 : decode cX8_rank 67 = .ok (.invokevirtual 35, 3) := by decide +kernel
theorem dX8_rank_70 : decode cX8_rank 70 = .ok (.if_icmp .ne 12, 3) := by decide +kernel
theorem dX8_rank_73 : decode cX8_rank 73 = .ok (.iload 4, 2) := by decide +kernel
theorem dX8_rank_75 : decode cX8_rank 75 = .ok (.ifCond .eq 7, 3) := by decide +kernel
theorem dX8_rank_78 : decode cX8_rank 78 = .ok (.iconst 1, 1) := by decide +kernel
theorem dX8_rank_79 : decode cX8_rank 79 = .ok (.goto 4, 3) := by decide +kernel
theorem dX8_rank_82 : decode cX8_rank 82 = .ok (.iconst 0, 1) := by decide +kernel
theorem dX8_rank_83 : decode cX8_rank 83 = .ok (.iadd, 1) := by decide +kernel
theorem dX8_rank_84 : decode cX8_rank 84 = .ok (.istore_n 2, 1) := by decide +kernel
theorem dX8_rank_85 : decode cX8_rank 85 = .ok (.iinc 3 1, 3) := by decide +kernel
theorem dX8_rank_88 : decode cX8_rank 88 = .ok (.goto (-84), 3) := by decide +kernel
theorem dX8_rank_91 : decode cX8_rank 91 = .ok (.iload_n 2, 1) := by decide +kernel
theorem dX8_rank_92 : decode cX8_rank 92 = .ok (.ireturn, 1) := by decide +kernel
theorem dX8_waiting_0 : decode cX8_waiting 0 = .ok (.iload_n 1, 1) := by decide +kernel
theorem dX8_waiting_1 : decode cX8_waiting 1 = .ok (.i2l, 1) := by decide +kernel
theorem dX8_waiting_2 : decode cX8_waiting 2 = .ok (.iconst 0, 1) := by decide +kernel
theorem dX8_waiting_3 : decode cX8_waiting 3 = .ok (.iconst 1, 1) := by decide +kernel
theorem dX8_waiting_4 : decode cX8_waiting 4 = .ok (.invokestatic 43, 3) := by decide +kernel
theorem dX8_waiting_7 : decode cX8_waiting 7 = .ok (.ifCond .ne 6, 3) := by decide +kernel
theorem dX8_waiting_10 : decode cX8_waiting 10 = .ok (.bipush (-2), 2) := by decide +kernel
theorem dX8_waiting_12 : decode cX8_waiting 12 = .ok (.ireturn, 1) := by decide +kernel
theorem dX8_waiting_13 : decode cX8_waiting 13 = .ok (.iconst 0, 1) := by decide +kernel
theorem dX8_waiting_14 : decode cX8_waiting 14 = .ok (.istore_n 3, 1) := by decide +kernel
theorem dX8_waiting_15 : decode cX8_waiting 15 = .ok (.iload_n 3, 1) := by decide +kernel
theorem dX8_waiting_16 : decode cX8_waiting 16 = .ok (.aload_n 0, 1) := by decide +kernel
theorem dX8_waiting_17 : decode cX8_waiting 17 = .ok (.getfield 7, 3) := by decide +kernel
theorem dX8_waiting_20 : decode cX8_waiting 20 = .ok (.bipush 7, 2) := by decide +kernel
theorem dX8_waiting_22 : decode cX8_waiting 22 = .ok (.iaload, 1) := by decide +kernel
theorem dX8_waiting_23 : decode cX8_waiting 23 = .ok (.if_icmp .ge 35, 3) := by decide +kernel
theorem dX8_waiting_26 : decode cX8_waiting 26 = .ok (.aload_n 0, 1) := by decide +kernel
theorem dX8_waiting_27 : decode cX8_waiting 27 = .ok (.iload_n 3, 1) := by decide +kernel
theorem dX8_waiting_28 : decode cX8_waiting 28 = .ok (.iconst 1, 1) := by decide +kernel
theorem dX8_waiting_29 : decode cX8_waiting 29 = .ok (.invokevirtual 35, 3) := by decide +kernel
theorem dX8_waiting_32 : decode cX8_waiting 32 = .ok (.iload_n 1, 1) := by decide +kernel
theorem dX8_waiting_33 : decode cX8_waiting 33 = .ok (.if_icmp .ne 19, 3) := by decide +kernel
theorem dX8_waiting_36 : decode cX8_waiting 36 = .ok (.aload_n 0, 1) := by decide +kernel
theorem dX8_waiting_37 : decode cX8_waiting 37 = .ok (.iload_n 3, 1) := by decide +kernel
theorem dX8_waiting_38 : decode cX8_waiting 38 = .ok (.invokevirtual 133, 3) := by decide +kernel
theorem dX8_waiting_41 : decode cX8_waiting 41 = .ok (.iload_n 2, 1) := by decide +kernel
theorem dX8_waiting_42 : decode cX8_waiting 42 = .ok (.if_icmp .ne 10, 3) := by decide +kernel
theorem dX8_waiting_45 : decode cX8_waiting 45 = .ok (.aload_n 0, 1) := by decide +kernel
theorem dX8_waiting_46 : decode cX8_waiting 46 = .ok (.iload_n 3, 1) := by decide +kernel
theorem dX8_waiting_47 : decode cX8_waiting 47 = .ok (.iconst 0, 1) := by decide +kernel
theorem dX8_waiting_48 : decode cX8_waiting 48 = .ok (.invokevirtual 35, 3) := by decide +kernel
theorem dX8_waiting_51 : decode cX8_waiting 51 = .ok (.ireturn, 1) := by decide +kernel
theorem dX8_waiting_52 : decode cX8_waiting 52 = .ok (.iinc 3 1, 3) := by decide +kernel
theorem dX8_waiting_55 : decode cX8_waiting 55 = .ok (.goto (-40), 3) := by decide +kernel
theorem dX8_waiting_58 : decode cX8_waiting 58 = .ok (.iconst (-1), 1) := by decide +kernel
theorem dX8_waiting_59 : decode cX8_waiting 59 = .ok (.ireturn, 1) := by decide +kernel
theorem dX8_log_0 : decode cX8_log 0 = .ok (.iload_n 1, 1) := by decide +kernel
theorem dX8_log_1 : decode cX8_log 1 = .ok (.i2l, 1) := by decide +kernel
theorem dX8_log_2 : decode cX8_log 2 = .ok (.iconst 0, 1) := by decide +kernel
theorem dX8_log_3 : decode cX8_log 3 = .ok (.aload_n 0, 1) := by decide +kernel
theorem dX8_log_4 : decode cX8_log 4 = .ok (.getfield 7, 3) := by decide +kernel
theorem dX8_log_7 : decode cX8_log 7 = .ok (.bipush 17, 2) := by decide +kernel
theorem dX8_log_9 : decode cX8_log 9 = .ok (.iaload, 1) := by decide +kernel
theorem dX8_log_10 : decode cX8_log 10 = .ok (.iconst 1, 1) := by decide +kernel
theorem dX8_log_11 : decode cX8_log 11 = .ok (.isub, 1) := by decide +kernel
theorem dX8_log_12 : decode cX8_log 12 = .ok (.invokestatic 43, 3) := by decide +kernel
theorem dX8_log_15 : decode cX8_log 15 = .ok (.ifCond .ne 7, 3) := by decide +kernel
theorem dX8_log_18 : decode cX8_log 18 = .ok (.iconst (-1), 1) := by decide +kernel
theorem dX8_log_19 : decode cX8_log 19 = .ok (.goto 31, 3) := by decide +kernel
theorem dX8_log_22 : decode cX8_log 22 = .ok (.iload_n 2, 1) := by decide +kernel
theorem dX8_log_23 : decode cX8_log 23 = .ok (.i2l, 1) := by decide +kernel
theorem dX8_log_24 : decode cX8_log 24 = .ok (.iconst 0, 1) := by decide +kernel
theorem dX8_log_25 : decode cX8_log 25 = .ok (.iconst 2, 1) := by decide +kernel
theorem dX8_log_26 : decode cX8_log 26 = .ok (.invokestatic 43, 3) := by decide +kernel
theorem dX8_log_29 : decode cX8_log 29 = .ok (.ifCond .eq 19, 3) := by decide +kernel
theorem dX8_log_32 : decode cX8_log 32 = .ok (.aload_n 0, 1) := by decide +kernel
theorem dX8_log_33 : decode cX8_log 33 = .ok (.getfield 7, 3) := by decide +kernel
theorem dX8_log_36 : decode cX8_log 36 = .ok (.bipush 18, 2) := by decide +kernel
theorem dX8_log_38 : decode cX8_log 38 = .ok (.iconst 3, 1) := by decide +kernel
theorem dX8_log_39 : decode cX8_log 39 = .ok (.iload_n 1, 1) := by decide +kernel
theorem dX8_log_40 : decode cX8_log 40 = .ok (.imul, 1) := by decide +kernel
theorem dX8_log_41 : decode cX8_log 41 = .ok (.iadd, 1) := by decide +kernel
theorem dX8_log_42 : decode cX8_log 42 = .ok (.iload_n 2, 1) := by decide +kernel
theorem dX8_log_43 : decode cX8_log 43 = .ok (.iadd, 1) := by decide +kernel
theorem dX8_log_44 : decode cX8_log 44 = .ok (.iaload, 1) := by decide +kernel
theorem dX8_log_45 : decode cX8_log 45 = .ok (.goto 5, 3) := by decide +kernel
theorem dX8_log_48 : decode cX8_log 48 = .ok (.bipush (-2), 2) := by decide +kernel
theorem dX8_log_50 : decode cX8_log 50 = .ok (.ireturn, 1) := by decide +kernel
theorem dX8_count_0 : decode cX8_count 0 = .ok (.iload_n 1, 1) := by decide +kernel
theorem dX8_count_1 : decode cX8_count 1 = .ok (.i2l, 1) := by decide +kernel
theorem dX8_count_2 : decode cX8_count 2 = .ok (.bipush 10, 2) := by decide +kernel
theorem dX8_count_4 : decode cX8_count 4 = .ok (.bipush 15, 2) := by decide +kernel
theorem dX8_count_6 : decode cX8_count 6 = .ok (.invokestatic 43, 3) := by decide +kernel
theorem dX8_count_9 : decode cX8_count 9 = .ok (.ifCond .eq 13, 3) := by decide +kernel
theorem dX8_count_12 : decode cX8_count 12 = .ok (.aload_n 0, 1) := by decide +kernel
theorem dX8_count_13 : decode cX8_count 13 = .ok (.getfield 7, 3) := by decide +kernel
theorem dX8_count_16 : decode cX8_count 16 = .ok (.iload_n 1, 1) := by decide +kernel
theorem dX8_count_17 : decode cX8_count 17 = .ok (.bipush 10, 2) := by decide +kernel
theorem dX8_count_19 : decode cX8_count 19 = .ok (.isub, 1) := by decide +kernel
theorem dX8_count_20 : decode cX8_count 20 = .ok (.iaload, 1) := by decide +kernel
theorem dX8_count_21 : decode cX8_count 21 = .ok (.ireturn, 1) := by decide +kernel
theorem dX8_count_22 : decode cX8_count 22 = .ok (.iload_n 1, 1) := by decide +kernel
theorem dX8_count_23 : decode cX8_count 23 = .ok (.tableswitch 167 0 17 #[85, 93, 93, 101, 109, 117, 125, 133, 141, 149, 167, 167, 167, 167, 167, 167, 157, 162], 85) := by decide +kernel
theorem dX8_count_108 : decode cX8_count 108 = .ok (.aload_n 0, 1) := by decide +kernel
theorem dX8_count_109 : decode cX8_count 109 = .ok (.getfield 7, 3) := by decide +kernel
theorem dX8_count_112 : decode cX8_count 112 = .ok (.bipush 6, 2) := by decide +kernel
theorem dX8_count_114 : decode cX8_count 114 = .ok (.iaload, 1) := by decide +kernel
theorem dX8_count_115 : decode cX8_count 115 = .ok (.ireturn, 1) := by decide +kernel
theorem dX8_count_116 : decode cX8_count 116 = .ok (.aload_n 0, 1) := by decide +kernel
theorem dX8_count_117 : decode cX8_count 117 = .ok (.iload_n 1, 1) := by decide +kernel
theorem dX8_count_118 : decode cX8_count 118 = .ok (.iconst 1, 1) := by decide +kernel
theorem dX8_count_119 : decode cX8_count 119 = .ok (.isub, 1) := by decide +kernel
theorem dX8_count_120 : decode cX8_count 120 = .ok (.invokevirtual 54, 3) := by decide +kernel
theorem dX8_count_123 : decode cX8_count 123 = .ok (.ireturn, 1) := by decide +kernel
theorem dX8_count_124 : decode cX8_count 124 = .ok (.aload_n 0, 1) := by decide +kernel
theorem dX8_count_125 : decode cX8_count 125 = .ok (.getfield 7, 3) := by decide +kernel
theorem dX8_count_128 : decode cX8_count 128 = .ok (.bipush 9, 2) := by decide +kernel
theorem dX8_count_130 : decode cX8_count 130 = .ok (.iaload, 1) := by decide +kernel
theorem dX8_count_131 : decode cX8_count 131 = .ok (.ireturn, 1) := by decide +kernel
theorem dX8_count_132 : decode cX8_count 132 = .ok (.aload_n 0, 1) := by decide +kernel
theorem dX8_count_133 : decode cX8_count 133 = .ok (.getfield 7, 3) := by decide +kernel
theorem dX8_count_136 : decode cX8_count 136 = .ok (.bipush 10, 2) := by decide +kernel
theorem dX8_count_138 : decode cX8_count 138 = .ok (.iaload, 1) := by decide +kernel
theorem dX8_count_139 : decode cX8_count 139 = .ok (.ireturn, 1) := by decide +kernel
theorem dX8_count_140 : decode cX8_count 140 = .ok (.aload_n 0, 1) := by decide +kernel
theorem dX8_count_141 : decode cX8_count 141 = .ok (.getfield 7, 3) := by decide +kernel
theorem dX8_count_144 : decode cX8_count 144 = .ok (.bipush 11, 2) := by decide +kernel
theorem dX8_count_146 : decode cX8_count 146 = .ok (.iaload, 1) := by decide +kernel
theorem dX8_count_147 : decode cX8_count 147 = .ok (.ireturn, 1) := by decide +kernel
theorem dX8_count_148 : decode cX8_count 148 = .ok (.aload_n 0, 1) := by decide +kernel
theorem dX8_count_149 : decode cX8_count 149 = .ok (.getfield 7, 3) := by decide +kernel
theorem dX8_count_152 : decode cX8_count 152 = .ok (.bipush 12, 2) := by decide +kernel
theorem dX8_count_154 : decode cX8_count 154 = .ok (.iaload, 1) := by decide +kernel
theorem dX8_count_155 : decode cX8_count 155 = .ok (.ireturn, 1) := by decide +kernel
theorem dX8_count_156 : decode cX8_count 156 = .ok (.aload_n 0, 1) := by decide +kernel
theorem dX8_count_157 : decode cX8_count 157 = .ok (.getfield 7, 3) := by decide +kernel
theorem dX8_count_160 : decode cX8_count 160 = .ok (.bipush 13, 2) := by decide +kernel
theorem dX8_count_162 : decode cX8_count 162 = .ok (.iaload, 1) := by decide +kernel
theorem dX8_count_163 : decode cX8_count 163 = .ok (.ireturn, 1) := by decide +kernel
theorem dX8_count_164 : decode cX8_count 164 = .ok (.aload_n 0, 1) := by decide +kernel
theorem dX8_count_165 : decode cX8_count 165 = .ok (.getfield 7, 3) := by decide +kernel
theorem dX8_count_168 : decode cX8_count 168 = .ok (.bipush 14, 2) := by decide +kernel
theorem dX8_count_170 : decode cX8_count 170 = .ok (.iaload, 1) := by decide +kernel
theorem dX8_count_171 : decode cX8_count 171 = .ok (.ireturn, 1) := by decide +kernel
theorem dX8_count_172 : decode cX8_count 172 = .ok (.aload_n 0, 1) := by decide +kernel
theorem dX8_count_173 : decode cX8_count 173 = .ok (.getfield 7, 3) := by decide +kernel
theorem dX8_count_176 : decode cX8_count 176 = .ok (.bipush 15, 2) := by decide +kernel
theorem dX8_count_178 : decode cX8_count 178 = .ok (.iaload, 1) := by decide +kernel
theorem dX8_count_179 : decode cX8_count 179 = .ok (.ireturn, 1) := by decide +kernel
theorem dX8_count_180 : decode cX8_count 180 = .ok (.aload_n 0, 1) := by decide +kernel
theorem dX8_count_181 : decode cX8_count 181 = .ok (.getfield 136, 3) := by decide +kernel
theorem dX8_count_184 : decode cX8_count 184 = .ok (.ireturn, 1) := by decide +kernel
theorem dX8_count_185 : decode cX8_count 185 = .ok (.aload_n 0, 1) := by decide +kernel
theorem dX8_count_186 : decode cX8_count 186 = .ok (.getfield 39, 3) := by decide +kernel
theorem dX8_count_189 : decode cX8_count 189 = .ok (.ireturn, 1) := by decide +kernel
theorem dX8_count_190 : decode cX8_count 190 = .ok (.bipush (-2), 2) := by decide +kernel
theorem dX8_count_192 : decode cX8_count 192 = .ok (.ireturn, 1) := by decide +kernel
theorem dX8_next_0 : decode cX8_next 0 = .ok (.iload_n 1, 1) := by decide +kernel
theorem dX8_next_1 : decode cX8_next 1 = .ok (.i2l, 1) := by decide +kernel
theorem dX8_next_2 : decode cX8_next 2 = .ok (.iconst 0, 1) := by decide +kernel
theorem dX8_next_3 : decode cX8_next 3 = .ok (.iconst 2, 1) := by decide +kernel
theorem dX8_next_4 : decode cX8_next 4 = .ok (.invokestatic 43, 3) := by decide +kernel
theorem dX8_next_7 : decode cX8_next 7 = .ok (.ifCond .ne 6, 3) := by decide +kernel
theorem dX8_next_10 : decode cX8_next 10 = .ok (.bipush (-2), 2) := by decide +kernel
theorem dX8_next_12 : decode cX8_next 12 = .ok (.ireturn, 1) := by decide +kernel
theorem dX8_next_13 : decode cX8_next 13 = .ok (.aload_n 0, 1) := by decide +kernel
theorem dX8_next_14 : decode cX8_next 14 = .ok (.getfield 7, 3) := by decide +kernel
theorem dX8_next_17 : decode cX8_next 17 = .ok (.bipush 7, 2) := by decide +kernel
theorem dX8_next_19 : decode cX8_next 19 = .ok (.iaload, 1) := by decide +kernel
theorem dX8_next_20 : decode cX8_next 20 = .ok (.ifCond .ne 6, 3) := by decide +kernel
theorem dX8_next_23 : decode cX8_next 23 = .ok (.bipush (-6), 2) := by decide +kernel
theorem dX8_next_25 : decode cX8_next 25 = .ok (.ireturn, 1) := by decide +kernel
theorem dX8_next_26 : decode cX8_next 26 = .ok (.aload_n 0, 1) := by decide +kernel
theorem dX8_next_27 : decode cX8_next 27 = .ok (.invokevirtual 80, 3) := by decide +kernel
theorem dX8_next_30 : decode cX8_next 30 = .ok (.iload_n 1, 1) := by decide +kernel
theorem dX8_next_31 : decode cX8_next 31 = .ok (.ifCond .ne 15, 3) := by decide +kernel
theorem dX8_next_34 : decode cX8_next 34 = .ok (.aload_n 0, 1) := by decide +kernel
theorem dX8_next_35 : decode cX8_next 35 = .ok (.aload_n 0, 1) := by decide +kernel
theorem dX8_next_36 : decode cX8_next 36 = .ok (.getfield 60, 3) := by decide +kernel
theorem dX8_next_39 : decode cX8_next 39 = .ok (.iconst 0, 1) := by decide +kernel
theorem dX8_next_40 : decode cX8_next 40 = .ok (.invokevirtual 35, 3) := by decide +kernel
theorem dX8_next_43 : decode cX8_next 43 = .ok (.goto 19, 3) := by decide +kernel
theorem dX8_next_46 : decode cX8_next 46 = .ok (.iload_n 1, 1) := by decide +kernel
theorem dX8_next_47 : decode cX8_next 47 = .ok (.iconst 1, 1) := by decide +kernel
theorem dX8_next_48 : decode cX8_next 48 = .ok (.if_icmp .ne 10, 3) := by decide +kernel
theorem dX8_next_51 : decode cX8_next 51 = .ok (.aload_n 0, 1) := by decide +kernel
theorem dX8_next_52 : decode cX8_next 52 = .ok (.getfield 63, 3) := by decide +kernel
theorem dX8_next_55 : decode cX8_next 55 = .ok (.goto 7, 3) := by decide +kernel
theorem dX8_next_58 : decode cX8_next 58 = .ok (.aload_n 0, 1) := by decide +kernel
theorem dX8_next_59 : decode cX8_next 59 = .ok (.invokevirtual 83, 3) := by decide +kernel
theorem dX8_next_62 : decode cX8_next 62 = .ok (.ireturn, 1) := by decide +kernel
theorem dX8_servedIn_0 : decode cX8_servedIn 0 = .ok (.aload_n 0, 1) := by decide +kernel
theorem dX8_servedIn_1 : decode cX8_servedIn 1 = .ok (.iload_n 1, 1) := by decide +kernel
theorem dX8_servedIn_2 : decode cX8_servedIn 2 = .ok (.invokevirtual 124, 3) := by decide +kernel
theorem dX8_servedIn_5 : decode cX8_servedIn 5 = .ok (.bipush (-6), 2) := by decide +kernel
theorem dX8_servedIn_7 : decode cX8_servedIn 7 = .ok (.if_icmp .ne 5, 3) := by decide +kernel
theorem dX8_servedIn_10 : decode cX8_servedIn 10 = .ok (.iconst (-1), 1) := by decide +kernel
theorem dX8_servedIn_11 : decode cX8_servedIn 11 = .ok (.ireturn, 1) := by decide +kernel
theorem dX8_servedIn_12 : decode cX8_servedIn 12 = .ok (.aload_n 0, 1) := by decide +kernel
theorem dX8_servedIn_13 : decode cX8_servedIn 13 = .ok (.invokevirtual 105, 3) := by decide +kernel
theorem dX8_servedIn_16 : decode cX8_servedIn 16 = .ok (.aload_n 0, 1) := by decide +kernel
theorem dX8_servedIn_17 : decode cX8_servedIn 17 = .ok (.getfield 7, 3) := by decide +kernel
theorem dX8_servedIn_20 : decode cX8_servedIn 20 = .ok (.bipush 6, 2) := by decide +kernel
theorem dX8_servedIn_22 : decode cX8_servedIn 22 = .ok (.iaload, 1) := by decide +kernel
theorem dX8_servedIn_23 : decode cX8_servedIn 23 = .ok (.istore_n 2, 1) := by decide +kernel
theorem dX8_servedIn_24 : decode cX8_servedIn 24 = .ok (.aload_n 0, 1) := by decide +kernel
theorem dX8_servedIn_25 : decode cX8_servedIn 25 = .ok (.iload_n 1, 1) := by decide +kernel
theorem dX8_servedIn_26 : decode cX8_servedIn 26 = .ok (.invokevirtual 124, 3) := by decide +kernel
theorem dX8_servedIn_29 : decode cX8_servedIn 29 = .ok (.bipush (-6), 2) := by decide +kernel
theorem dX8_servedIn_31 : decode cX8_servedIn 31 = .ok (.if_icmp .eq 10, 3) := by decide +kernel
theorem dX8_servedIn_34 : decode cX8_servedIn 34 = .ok (.aload_n 0, 1) := by decide +kernel
theorem dX8_servedIn_35 : decode cX8_servedIn 35 = .ok (.invokevirtual 108, 3) := by decide +kernel
theorem dX8_servedIn_38 : decode cX8_servedIn 38 = .ok (.goto (-14), 3) := by decide +kernel
theorem dX8_servedIn_41 : decode cX8_servedIn 41 = .ok (.aload_n 0, 1) := by decide +kernel
theorem dX8_servedIn_42 : decode cX8_servedIn 42 = .ok (.getfield 7, 3) := by decide +kernel
theorem dX8_servedIn_45 : decode cX8_servedIn 45 = .ok (.bipush 6, 2) := by decide +kernel
theorem dX8_servedIn_47 : decode cX8_servedIn 47 = .ok (.iaload, 1) := by decide +kernel
theorem dX8_servedIn_48 : decode cX8_servedIn 48 = .ok (.iload_n 2, 1) := by decide +kernel
theorem dX8_servedIn_49 : decode cX8_servedIn 49 = .ok (.isub, 1) := by decide +kernel
theorem dX8_servedIn_50 : decode cX8_servedIn 50 = .ok (.istore_n 3, 1) := by decide +kernel
theorem dX8_servedIn_51 : decode cX8_servedIn 51 = .ok (.aload_n 0, 1) := by decide +kernel
theorem dX8_servedIn_52 : decode cX8_servedIn 52 = .ok (.invokevirtual 112, 3) := by decide +kernel
theorem dX8_servedIn_55 : decode cX8_servedIn 55 = .ok (.iload_n 3, 1) := by decide +kernel
theorem dX8_servedIn_56 : decode cX8_servedIn 56 = .ok (.ireturn, 1) := by decide +kernel
theorem dX8_all_0 : decode cX8_all 0 = .ok (.iload_n 1, 1) := by decide +kernel
theorem dX8_all_1 : decode cX8_all 1 = .ok (.i2l, 1) := by decide +kernel
theorem dX8_all_2 : decode cX8_all 2 = .ok (.iconst 0, 1) := by decide +kernel
theorem dX8_all_3 : decode cX8_all 3 = .ok (.iconst 2, 1) := by decide +kernel
theorem dX8_all_4 : decode cX8_all 4 = .ok (.invokestatic 43, 3) := by decide +kernel
theorem dX8_all_7 : decode cX8_all 7 = .ok (.ifCond .ne 6, 3) := by decide +kernel
theorem dX8_all_10 : decode cX8_all 10 = .ok (.bipush (-2), 2) := by decide +kernel
theorem dX8_all_12 : decode cX8_all 12 = .ok (.ireturn, 1) := by decide +kernel
theorem dX8_all_13 : decode cX8_all 13 = .ok (.aload_n 0, 1) := by decide +kernel
theorem dX8_all_14 : decode cX8_all 14 = .ok (.getfield 7, 3) := by decide +kernel
theorem dX8_all_17 : decode cX8_all 17 = .ok (.bipush 7, 2) := by decide +kernel
theorem dX8_all_19 : decode cX8_all 19 = .ok (.iaload, 1) := by decide +kernel
theorem dX8_all_20 : decode cX8_all 20 = .ok (.ifCond .ne 6, 3) := by decide +kernel
theorem dX8_all_23 : decode cX8_all 23 = .ok (.bipush (-6), 2) := by decide +kernel
theorem dX8_all_25 : decode cX8_all 25 = .ok (.ireturn, 1) := by decide +kernel
theorem dX8_all_26 : decode cX8_all 26 = .ok (.aload_n 0, 1) := by decide +kernel
theorem dX8_all_27 : decode cX8_all 27 = .ok (.invokevirtual 105, 3) := by decide +kernel
theorem dX8_all_30 : decode cX8_all 30 = .ok (.aload_n 0, 1) := by decide +kernel
theorem dX8_all_31 : decode cX8_all 31 = .ok (.getfield 7, 3) := by decide +kernel
theorem dX8_all_34 : decode cX8_all 34 = .ok (.bipush 6, 2) := by decide +kernel
theorem dX8_all_36 : decode cX8_all 36 = .ok (.iaload, 1) := by decide +kernel
theorem dX8_all_37 : decode cX8_all 37 = .ok (.istore_n 2, 1) := by decide +kernel
theorem dX8_all_38 : decode cX8_all 38 = .ok (.aload_n 0, 1) := by decide +kernel
theorem dX8_all_39 : decode cX8_all 39 = .ok (.getfield 7, 3) := by decide +kernel
theorem dX8_all_42 : decode cX8_all 42 = .ok (.bipush 12, 2) := by decide +kernel
theorem dX8_all_44 : decode cX8_all 44 = .ok (.iaload, 1) := by decide +kernel
theorem dX8_all_45 : decode cX8_all 45 = .ok (.istore_n 3, 1) := by decide +kernel
theorem dX8_all_46 : decode cX8_all 46 = .ok (.aload_n 0, 1) := by decide +kernel
theorem dX8_all_47 : decode cX8_all 47 = .ok (.getfield 7, 3) := by decide +kernel
theorem dX8_all_50 : decode cX8_all 50 = .ok (.bipush 11, 2) := by decide +kernel
theorem dX8_all_52 : decode cX8_all 52 = .ok (.iconst 0, 1) := by decide +kernel
theorem dX8_all_53 : decode cX8_all 53 = .ok (.iastore, 1) := by decide +kernel
theorem dX8_all_54 : decode cX8_all 54 = .ok (.aload_n 0, 1) := by decide +kernel
theorem dX8_all_55 : decode cX8_all 55 = .ok (.getfield 7, 3) := by decide +kernel
theorem dX8_all_58 : decode cX8_all 58 = .ok (.bipush 7, 2) := by decide +kernel
theorem dX8_all_60 : decode cX8_all 60 = .ok (.iaload, 1) := by decide +kernel
theorem dX8_all_61 : decode cX8_all 61 = .ok (.ifCond .le 10, 3) := by decide +kernel
theorem dX8_all_64 : decode cX8_all 64 = .ok (.aload_n 0, 1) := by decide +kernel
theorem dX8_all_65 : decode cX8_all 65 = .ok (.invokevirtual 108, 3) := by decide +kernel
theorem dX8_all_68 : decode cX8_all 68 = .ok (.goto (-14), 3) := by decide +kernel
theorem dX8_all_71 : decode cX8_all 71 = .ok (.iload_n 1, 1) := by decide +kernel
theorem dX8_all_72 : decode cX8_all 72 = .ok (.ifCond .ne 15, 3) := by decide +kernel
theorem dX8_all_75 : decode cX8_all 75 = .ok (.aload_n 0, 1) := by decide +kernel
theorem dX8_all_76 : decode cX8_all 76 = .ok (.getfield 7, 3) := by decide +kernel
theorem dX8_all_79 : decode cX8_all 79 = .ok (.bipush 6, 2) := by decide +kernel
theorem dX8_all_81 : decode cX8_all 81 = .ok (.iaload, 1) := by decide +kernel
theorem dX8_all_82 : decode cX8_all 82 = .ok (.iload_n 2, 1) := by decide +kernel
theorem dX8_all_83 : decode cX8_all 83 = .ok (.isub, 1) := by decide +kernel
theorem dX8_all_84 : decode cX8_all 84 = .ok (.goto 27, 3) := by decide +kernel
theorem dX8_all_87 : decode cX8_all 87 = .ok (.iload_n 1, 1) := by decide +kernel
theorem dX8_all_88 : decode cX8_all 88 = .ok (.iconst 1, 1) := by decide +kernel
theorem dX8_all_89 : decode cX8_all 89 = .ok (.if_icmp .ne 15, 3) := by decide +kernel
theorem dX8_all_92 : decode cX8_all 92 = .ok (.aload_n 0, 1) := by decide +kernel
theorem dX8_all_93 : decode cX8_all 93 = .ok (.getfield 7, 3) := by decide +kernel
theorem dX8_all_96 : decode cX8_all 96 = .ok (.bipush 12, 2) := by decide +kernel
theorem dX8_all_98 : decode cX8_all 98 = .ok (.iaload, 1) := by decide +kernel
theorem dX8_all_99 : decode cX8_all 99 = .ok (.iload_n 3, 1) := by decide +kernel
theorem dX8_all_100 : decode cX8_all 100 = .ok (.isub, 1) := by decide +kernel
theorem dX8_all_101 : decode cX8_all 101 = .ok (.goto 10, 3) := by decide +kernel
theorem dX8_all_104 : decode cX8_all 104 = .ok (.aload_n 0, 1) := by decide +kernel
theorem dX8_all_105 : decode cX8_all 105 = .ok (.getfield 7, 3) := by decide +kernel
theorem dX8_all_108 : decode cX8_all 108 = .ok (.bipush 11, 2) := by decide +kernel
theorem dX8_all_110 : decode cX8_all 110 = .ok (.iaload, 1) := by decide +kernel
theorem dX8_all_111 : decode cX8_all 111 = .ok (.istore 4, 2) := by decide +kernel
theorem dX8_all_113 : decode cX8_all 113 = .ok (.aload_n 0, 1) := by decide +kernel
theorem dX8_all_114 : decode cX8_all 114 = .ok (.invokevirtual 112, 3) := by decide +kernel
theorem dX8_all_117 : decode cX8_all 117 = .ok (.iload 4, 2) := by decide +kernel
theorem dX8_all_119 : decode cX8_all 119 = .ok (.ireturn, 1) := by decide +kernel
theorem dX8_joined_0 : decode cX8_joined 0 = .ok (.iload_n 1, 1) := by decide +kernel
theorem dX8_joined_1 : decode cX8_joined 1 = .ok (.iload_n 2, 1) := by decide +kernel
theorem dX8_joined_2 : decode cX8_joined 2 = .ok (.iload_n 3, 1) := by decide +kernel
theorem dX8_joined_3 : decode cX8_joined 3 = .ok (.invokestatic 97, 3) := by decide +kernel
theorem dX8_joined_6 : decode cX8_joined 6 = .ok (.ifCond .ne 6, 3) := by decide +kernel
theorem dX8_joined_9 : decode cX8_joined 9 = .ok (.bipush (-2), 2) := by decide +kernel
theorem dX8_joined_11 : decode cX8_joined 11 = .ok (.ireturn, 1) := by decide +kernel
theorem dX8_joined_12 : decode cX8_joined 12 = .ok (.aload_n 0, 1) := by decide +kernel
theorem dX8_joined_13 : decode cX8_joined 13 = .ok (.iload_n 1, 1) := by decide +kernel
theorem dX8_joined_14 : decode cX8_joined 14 = .ok (.iload_n 2, 1) := by decide +kernel
theorem dX8_joined_15 : decode cX8_joined 15 = .ok (.iload_n 3, 1) := by decide +kernel
theorem dX8_joined_16 : decode cX8_joined 16 = .ok (.invokevirtual 101, 3) := by decide +kernel
theorem dX8_joined_19 : decode cX8_joined 19 = .ok (.istore 4, 2) := by decide +kernel
theorem dX8_joined_21 : decode cX8_joined 21 = .ok (.iload 4, 2) := by decide +kernel
theorem dX8_joined_23 : decode cX8_joined 23 = .ok (.bipush (-6), 2) := by decide +kernel
theorem dX8_joined_25 : decode cX8_joined 25 = .ok (.if_icmp .ne 8, 3) := by decide +kernel
theorem dX8_joined_28 : decode cX8_joined 28 = .ok (.bipush (-6), 2) := by decide +kernel
theorem dX8_joined_30 : decode cX8_joined 30 = .ok (.goto 10, 3) := by decide +kernel
theorem dX8_joined_33 : decode cX8_joined 33 = .ok (.aload_n 0, 1) := by decide +kernel
theorem dX8_joined_34 : decode cX8_joined 34 = .ok (.iload 4, 2) := by decide +kernel
theorem dX8_joined_36 : decode cX8_joined 36 = .ok (.iconst 0, 1) := by decide +kernel
theorem dX8_joined_37 : decode cX8_joined 37 = .ok (.invokevirtual 35, 3) := by decide +kernel
theorem dX8_joined_40 : decode cX8_joined 40 = .ok (.ireturn, 1) := by decide +kernel
theorem dX8_put_0 : decode cX8_put 0 = .ok (.lload_n 1, 1) := by decide +kernel
theorem dX8_put_1 : decode cX8_put 1 = .ok (.lstore_n 3, 1) := by decide +kernel
theorem dX8_put_2 : decode cX8_put 2 = .ok (.iconst 0, 1) := by decide +kernel
theorem dX8_put_3 : decode cX8_put 3 = .ok (.istore 5, 2) := by decide +kernel
theorem dX8_put_5 : decode cX8_put 5 = .ok (.lload_n 3, 1) := by decide +kernel
theorem dX8_put_6 : decode cX8_put 6 = .ok (.lconst 0, 1) := by decide +kernel
theorem dX8_put_7 : decode cX8_put 7 = .ok (.lcmp, 1) := by decide +kernel
theorem dX8_put_8 : decode cX8_put 8 = .ok (.ifCond .eq 55, 3) := by decide +kernel
theorem dX8_put_11 : decode cX8_put 11 = .ok (.iload 5, 2) := by decide +kernel
theorem dX8_put_13 : decode cX8_put 13 = .ok (.bipush 8, 2) := by decide +kernel
theorem dX8_put_15 : decode cX8_put 15 = .ok (.if_icmp .ge 48, 3) := by decide +kernel
theorem dX8_put_18 : decode cX8_put 18 = .ok (.aload_n 0, 1) := by decide +kernel
theorem dX8_put_19 : decode cX8_put 19 = .ok (.getfield 32, 3) := by decide +kernel
theorem dX8_put_22 : decode cX8_put 22 = .ok (.iload 5, 2) := by decide +kernel
theorem dX8_put_24 : decode cX8_put 24 = .ok (.lload_n 3, 1) := by decide +kernel
theorem dX8_put_25 : decode cX8_put 25 = .ok (.ldc2_w 139, 3) := by decide +kernel
theorem dX8_put_28 : decode cX8_put 28 = .ok (.land, 1) := by decide +kernel
theorem dX8_put_29 : decode cX8_put 29 = .ok (.l2i, 1) := by decide +kernel
theorem dX8_put_30 : decode cX8_put 30 = .ok (.iastore, 1) := by decide +kernel
theorem dX8_put_31 : decode cX8_put 31 = .ok (.aload_n 0, 1) := by decide +kernel
theorem dX8_put_32 : decode cX8_put 32 = .ok (.getfield 32, 3) := by decide +kernel
theorem dX8_put_35 : decode cX8_put 35 = .ok (.iload 5, 2) := by decide +kernel
theorem dX8_put_37 : decode cX8_put 37 = .ok (.iaload, 1) := by decide +kernel
theorem dX8_put_38 : decode cX8_put 38 = .ok (.i2l, 1) := by decide +kernel
theorem dX8_put_39 : decode cX8_put 39 = .ok (.bipush 33, 2) := by decide +kernel
theorem dX8_put_41 : decode cX8_put 41 = .ok (.bipush 126, 2) := by decide +kernel
theorem dX8_put_43 : decode cX8_put 43 = .ok (.invokestatic 43, 3) := by decide +kernel
theorem dX8_put_46 : decode cX8_put 46 = .ok (.ifCond .ne 6, 3) := by decide +kernel
theorem dX8_put_49 : decode cX8_put 49 = .ok (.bipush (-2), 2) := by decide +kernel
theorem dX8_put_51 : decode cX8_put 51 = .ok (.ireturn, 1) := by decide +kernel
theorem dX8_put_52 : decode cX8_put 52 = .ok (.lload_n 3, 1) := by decide +kernel
theorem dX8_put_53 : decode cX8_put 53 = .ok (.bipush 8, 2) := by decide +kernel
theorem dX8_put_55 : decode cX8_put 55 = .ok (.lushr, 1) := by decide +kernel
theorem dX8_put_56 : decode cX8_put 56 = .ok (.lstore_n 3, 1) := by decide +kernel
theorem dX8_put_57 : decode cX8_put 57 = .ok (.iinc 5 1, 3) := by decide +kernel
theorem dX8_put_60 : decode cX8_put 60 = .ok (.goto (-55), 3) := by decide +kernel
theorem dX8_put_63 : decode cX8_put 63 = .ok (.iload 5, 2) := by decide +kernel
theorem dX8_put_65 : decode cX8_put 65 = .ok (.ifCond .ne 6, 3) := by decide +kernel
theorem dX8_put_68 : decode cX8_put 68 = .ok (.bipush (-2), 2) := by decide +kernel
theorem dX8_put_70 : decode cX8_put 70 = .ok (.ireturn, 1) := by decide +kernel
theorem dX8_put_71 : decode cX8_put 71 = .ok (.aload_n 0, 1) := by decide +kernel
theorem dX8_put_72 : decode cX8_put 72 = .ok (.getfield 136, 3) := by decide +kernel
theorem dX8_put_75 : decode cX8_put 75 = .ok (.iload 5, 2) := by decide +kernel
theorem dX8_put_77 : decode cX8_put 77 = .ok (.iadd, 1) := by decide +kernel
theorem dX8_put_78 : decode cX8_put 78 = .ok (.bipush 80, 2) := by decide +kernel
theorem dX8_put_80 : decode cX8_put 80 = .ok (.if_icmp .le 6, 3) := by decide +kernel
theorem dX8_put_83 : decode cX8_put 83 = .ok (.bipush (-4), 2) := by decide +kernel
theorem dX8_put_85 : decode cX8_put 85 = .ok (.ireturn, 1) := by decide +kernel
theorem dX8_put_86 : decode cX8_put 86 = .ok (.iload 5, 2) := by decide +kernel
theorem dX8_put_88 : decode cX8_put 88 = .ok (.iconst 1, 1) := by decide +kernel
theorem dX8_put_89 : decode cX8_put 89 = .ok (.isub, 1) := by decide +kernel
theorem dX8_put_90 : decode cX8_put 90 = .ok (.istore 6, 2) := by decide +kernel
theorem dX8_put_92 : decode cX8_put 92 = .ok (.iload 6, 2) := by decide +kernel
theorem dX8_put_94 : decode cX8_put 94 = .ok (.ifCond .lt 35, 3) := by decide +kernel
theorem dX8_put_97 : decode cX8_put 97 = .ok (.aload_n 0, 1) := by decide +kernel
theorem dX8_put_98 : decode cX8_put 98 = .ok (.getfield 29, 3) := by decide +kernel
theorem dX8_put_101 : decode cX8_put 101 = .ok (.aload_n 0, 1) := by decide +kernel
theorem dX8_put_102 : decode cX8_put 102 = .ok (.getfield 136, 3) := by decide +kernel
theorem dX8_put_105 : decode cX8_put 105 = .ok (.aload_n 0, 1) := by decide +kernel
theorem dX8_put_106 : decode cX8_put 106 = .ok (.getfield 32, 3) := by decide +kernel
theorem dX8_put_109 : decode cX8_put 109 = .ok (.iload 6, 2) := by decide +kernel
theorem dX8_put_111 : decode cX8_put 111 = .ok (.iaload, 1) := by decide +kernel
theorem dX8_put_112 : decode cX8_put 112 = .ok (.iastore, 1) := by decide +kernel
theorem dX8_put_113 : decode cX8_put 113 = .ok (.aload_n 0, 1) := by decide +kernel
theorem dX8_put_114 : decode cX8_put 114 = .ok (.dup, 1) := by decide +kernel
theorem dX8_put_115 : decode cX8_put 115 = .ok (.getfield 136, 3) := by decide +kernel
theorem dX8_put_118 : decode cX8_put 118 = .ok (.iconst 1, 1) := by decide +kernel
theorem dX8_put_119 : decode cX8_put 119 = .ok (.iadd, 1) := by decide +kernel
theorem dX8_put_120 : decode cX8_put 120 = .ok (.putfield 136, 3) := by decide +kernel
theorem dX8_put_123 : decode cX8_put 123 = .ok (.iinc 6 (-1), 3) := by decide +kernel
theorem dX8_put_126 : decode cX8_put 126 = .ok (.goto (-34), 3) := by decide +kernel
theorem dX8_put_129 : decode cX8_put 129 = .ok (.aload_n 0, 1) := by decide +kernel
theorem dX8_put_130 : decode cX8_put 130 = .ok (.getfield 136, 3) := by decide +kernel
theorem dX8_put_133 : decode cX8_put 133 = .ok (.ireturn, 1) := by decide +kernel
theorem dX8_wipe_0 : decode cX8_wipe 0 = .ok (.aload_n 0, 1) := by decide +kernel
theorem dX8_wipe_1 : decode cX8_wipe 1 = .ok (.getfield 136, 3) := by decide +kernel
theorem dX8_wipe_4 : decode cX8_wipe 4 = .ok (.istore_n 1, 1) := by decide +kernel
theorem dX8_wipe_5 : decode cX8_wipe 5 = .ok (.aload_n 0, 1) := by decide +kernel
theorem dX8_wipe_6 : decode cX8_wipe 6 = .ok (.iconst 0, 1) := by decide +kernel
theorem dX8_wipe_7 : decode cX8_wipe 7 = .ok (.putfield 136, 3) := by decide +kernel
theorem dX8_wipe_10 : decode cX8_wipe 10 = .ok (.iload_n 1, 1) := by decide +kernel
theorem dX8_wipe_11 : decode cX8_wipe 11 = .ok (.ireturn, 1) := by decide +kernel
theorem dX8_sees_0 : decode cX8_sees 0 = .ok (.aload_n 0, 1) := by decide +kernel
theorem dX8_sees_1 : decode cX8_sees 1 = .ok (.getfield 141, 3) := by decide +kernel
theorem dX8_sees_4 : decode cX8_sees 4 = .ok (.aload_n 0, 1) := by decide +kernel
theorem dX8_sees_5 : decode cX8_sees 5 = .ok (.getfield 136, 3) := by decide +kernel
theorem dX8_sees_8 : decode cX8_sees 8 = .ok (.if_icmp .ge 25, 3) := by decide +kernel
theorem dX8_sees_11 : decode cX8_sees 11 = .ok (.aload_n 0, 1) := by decide +kernel
theorem dX8_sees_12 : decode cX8_sees 12 = .ok (.getfield 29, 3) := by decide +kernel
theorem dX8_sees_15 : decode cX8_sees 15 = .ok (.aload_n 0, 1) := by decide +kernel
theorem dX8_sees_16 : decode cX8_sees 16 = .ok (.getfield 141, 3) := by decide +kernel
theorem dX8_sees_19 : decode cX8_sees 19 = .ok (.iaload, 1) := by decide +kernel
theorem dX8_sees_20 : decode cX8_sees 20 = .ok (.i2l, 1) := by decide +kernel
theorem dX8_sees_21 : decode cX8_sees 21 = .ok (.iload_n 1, 1) := by decide +kernel
theorem dX8_sees_22 : decode cX8_sees 22 = .ok (.iload_n 2, 1) := by decide +kernel
theorem dX8_sees_23 : decode cX8_sees 23 = .ok (.invokestatic 43, 3) := by decide +kernel
theorem dX8_sees_26 : decode cX8_sees 26 = .ok (.ifCond .eq 7, 3) := by decide +kernel
theorem dX8_sees_29 : decode cX8_sees 29 = .ok (.iconst 1, 1) := by decide +kernel
theorem dX8_sees_30 : decode cX8_sees 30 = .ok (.goto 4, 3) := by decide +kernel
theorem dX8_sees_33 : decode cX8_sees 33 = .ok (.iconst 0, 1) := by decide +kernel
theorem dX8_sees_34 : decode cX8_sees 34 = .ok (.ireturn, 1) := by decide +kernel
theorem dX8_number_0 : decode cX8_number 0 = .ok (.aload_n 0, 1) := by decide +kernel
theorem dX8_number_1 : decode cX8_number 1 = .ok (.getfield 29, 3) := by decide +kernel
theorem dX8_number_4 : decode cX8_number 4 = .ok (.aload_n 0, 1) := by decide +kernel
theorem dX8_number_5 : decode cX8_number 5 = .ok (.getfield 141, 3) := by decide +kernel
theorem dX8_number_8 : decode cX8_number 8 = .ok (.iaload, 1) := by decide +kernel
theorem dX8_number_9 : decode cX8_number 9 = .ok (.bipush 48, 2) := by decide +kernel
theorem dX8_number_11 : decode cX8_number 11 = .ok (.isub, 1) := by decide +kernel
theorem dX8_number_12 : decode cX8_number 12 = .ok (.istore_n 1, 1) := by decide +kernel
theorem dX8_number_13 : decode cX8_number 13 = .ok (.aload_n 0, 1) := by decide +kernel
theorem dX8_number_14 : decode cX8_number 14 = .ok (.dup, 1) := by decide +kernel
theorem dX8_number_15 : decode cX8_number 15 = .ok (.getfield 141, 3) := by decide +kernel
theorem dX8_number_18 : decode cX8_number 18 = .ok (.iconst 1, 1) := by decide +kernel
theorem dX8_number_19 : decode cX8_number 19 = .ok (.iadd, 1) := by decide +kernel
theorem dX8_number_20 : decode cX8_number 20 = .ok (.putfield 141, 3) := by decide +kernel
theorem dX8_number_23 : decode cX8_number 23 = .ok (.iload_n 1, 1) := by decide +kernel
theorem dX8_number_24 : decode cX8_number 24 = .ok (.ifCond .le 42, 3) := by decide +kernel
theorem dX8_number_27 : decode cX8_number 27 = .ok (.aload_n 0, 1) := by decide +kernel
theorem dX8_number_28 : decode cX8_number 28 = .ok (.bipush 48, 2) := by decide +kernel
theorem dX8_number_30 : decode cX8_number 30 = .ok (.bipush 57, 2) := by decide +kernel
theorem dX8_number_32 : decode cX8_number 32 = .ok (.invokevirtual 144, 3) := by decide +kernel
theorem dX8_number_35 : decode cX8_number 35 = .ok (.ifCond .eq 31, 3) := by decide +kernel
theorem dX8_number_38 : decode cX8_number 38 = .ok (.bipush 10, 2) := by decide +kernel
theorem dX8_number_40 : decode cX8_number 40 = .ok (.iload_n 1, 1) := by decide +kernel
theorem dX8_number_41 : decode cX8_number 41 = .ok (.imul, 1) := by decide +kernel
theorem dX8_number_42 : decode cX8_number 42 = .ok (.aload_n 0, 1) := by decide +kernel
theorem dX8_number_43 : decode cX8_number 43 = .ok (.getfield 29, 3) := by decide +kernel
theorem dX8_number_46 : decode cX8_number 46 = .ok (.aload_n 0, 1) := by decide +kernel
theorem dX8_number_47 : decode cX8_number 47 = .ok (.getfield 141, 3) := by decide +kernel
theorem dX8_number_50 : decode cX8_number 50 = .ok (.iaload, 1) := by decide +kernel
theorem dX8_number_51 : decode cX8_number 51 = .ok (.iadd, 1) := by decide +kernel
theorem dX8_number_52 : decode cX8_number 52 = .ok (.bipush 48, 2) := by decide +kernel
theorem dX8_number_54 : decode cX8_number 54 = .ok (.isub, 1) := by decide +kernel
theorem dX8_number_55 : decode cX8_number 55 = .ok (.istore_n 1, 1) := by decide +kernel
theorem dX8_number_56 : decode cX8_number 56 = .ok (.aload_n 0, 1) := by decide +kernel
theorem dX8_number_57 : decode cX8_number 57 = .ok (.dup, 1) := by decide +kernel
theorem dX8_number_58 : decode cX8_number 58 = .ok (.getfield 141, 3) := by decide +kernel
theorem dX8_number_61 : decode cX8_number 61 = .ok (.iconst 1, 1) := by decide +kernel
theorem dX8_number_62 : decode cX8_number 62 = .ok (.iadd, 1) := by decide +kernel
theorem dX8_number_63 : decode cX8_number 63 = .ok (.putfield 141, 3) := by decide +kernel
theorem dX8_number_66 : decode cX8_number 66 = .ok (.iload_n 1, 1) := by decide +kernel
theorem dX8_number_67 : decode cX8_number 67 = .ok (.ireturn, 1) := by decide +kernel
theorem dX8_order_0 : decode cX8_order 0 = .ok (.aload_n 0, 1) := by decide +kernel
theorem dX8_order_1 : decode cX8_order 1 = .ok (.getfield 141, 3) := by decide +kernel
theorem dX8_order_4 : decode cX8_order 4 = .ok (.aload_n 0, 1) := by decide +kernel
theorem dX8_order_5 : decode cX8_order 5 = .ok (.getfield 136, 3) := by decide +kernel
theorem dX8_order_8 : decode cX8_order 8 = .ok (.if_icmp .ge 15, 3) := by decide +kernel
theorem dX8_order_11 : decode cX8_order 11 = .ok (.aload_n 0, 1) := by decide +kernel
theorem dX8_order_12 : decode cX8_order 12 = .ok (.getfield 29, 3) := by decide +kernel
theorem dX8_order_15 : decode cX8_order 15 = .ok (.aload_n 0, 1) := by decide +kernel
theorem dX8_order_16 : decode cX8_order 16 = .ok (.getfield 141, 3) := by decide +kernel
theorem dX8_order_19 : decode cX8_order 19 = .ok (.iaload, 1) := by decide +kernel
theorem dX8_order_20 : decode cX8_order 20 = .ok (.goto 4, 3) := by decide +kernel
theorem dX8_order_23 : decode cX8_order 23 = .ok (.iconst 0, 1) := by decide +kernel
theorem dX8_order_24 : decode cX8_order 24 = .ok (.istore_n 2, 1) := by decide +kernel
theorem dX8_order_25 : decode cX8_order 25 = .ok (.iload_n 2, 1) := by decide +kernel
theorem dX8_order_26 : decode cX8_order 26 = .ok (.bipush 114, 2) := by decide +kernel
theorem dX8_order_28 : decode cX8_order 28 = .ok (.if_icmp .eq 24, 3) := by decide +kernel
theorem dX8_order_31 : decode cX8_order 31 = .ok (.iload_n 2, 1) := by decide +kernel
theorem dX8_order_32 : decode cX8_order 32 = .ok (.bipush 119, 2) := by decide +kernel
theorem dX8_order_34 : decode cX8_order 34 = .ok (.if_icmp .eq 18, 3) := by decide +kernel
theorem dX8_order_37 : decode cX8_order 37 = .ok (.iload_n 2, 1) := by decide +kernel
theorem dX8_order_38 : decode cX8_order 38 = .ok (.bipush 115, 2) := by decide +kernel
theorem dX8_order_40 : decode cX8_order 40 = .ok (.if_icmp .eq 12, 3) := by decide +kernel
theorem dX8_order_43 : decode cX8_order 43 = .ok (.iload_n 2, 1) := by decide +kernel
theorem dX8_order_44 : decode cX8_order 44 = .ok (.bipush 116, 2) := by decide +kernel
theorem dX8_order_46 : decode cX8_order 46 = .ok (.if_icmp .eq 6, 3) := by decide +kernel
theorem dX8_order_49 : decode cX8_order 49 = .ok (.bipush (-3), 2) := by decide +kernel
theorem dX8_order_51 : decode cX8_order 51 = .ok (.ireturn, 1) := by decide +kernel
theorem dX8_order_52 : decode cX8_order 52 = .ok (.aload_n 0, 1) := by decide +kernel
theorem dX8_order_53 : decode cX8_order 53 = .ok (.dup, 1) := by decide +kernel
theorem dX8_order_54 : decode cX8_order 54 = .ok (.getfield 141, 3) := by decide +kernel
theorem dX8_order_57 : decode cX8_order 57 = .ok (.iconst 1, 1) := by decide +kernel
theorem dX8_order_58 : decode cX8_order 58 = .ok (.iadd, 1) := by decide +kernel
theorem dX8_order_59 : decode cX8_order 59 = .ok (.putfield 141, 3) := by decide +kernel
theorem dX8_order_62 : decode cX8_order 62 = .ok (.aload_n 0, 1) := by decide +kernel
theorem dX8_order_63 : decode cX8_order 63 = .ok (.bipush 48, 2) := by decide +kernel
theorem dX8_order_65 : decode cX8_order 65 = .ok (.bipush 57, 2) := by decide +kernel
theorem dX8_order_67 : decode cX8_order 67 = .ok (.invokevirtual 144, 3) := by decide +kernel
theorem dX8_order_70 : decode cX8_order 70 = .ok (.ifCond .ne 6, 3) := by decide +kernel
theorem dX8_order_73 : decode cX8_order 73 = .ok (.bipush (-3), 2) := by decide +kernel
theorem dX8_order_75 : decode cX8_order 75 = .ok (.ireturn, 1) := by decide +kernel
theorem dX8_order_76 : decode cX8_order 76 = .ok (.aload_n 0, 1) := by decide +kernel
theorem dX8_order_77 : decode cX8_order 77 = .ok (.invokevirtual 148, 3) := by decide +kernel
theorem dX8_order_80 : decode cX8_order 80 = .ok (.istore_n 3, 1) := by decide +kernel
theorem dX8_order_81 : decode cX8_order 81 = .ok (.iconst 0, 1) := by decide +kernel
theorem dX8_order_82 : decode cX8_order 82 = .ok (.istore 4, 2) := by decide +kernel
theorem dX8_order_84 : decode cX8_order 84 = .ok (.iload_n 2, 1) := by decide +kernel
theorem dX8_order_85 : decode cX8_order 85 = .ok (.bipush 114, 2) := by decide +kernel
theorem dX8_order_87 : decode cX8_order 87 = .ok (.if_icmp .eq 9, 3) := by decide +kernel
theorem dX8_order_90 : decode cX8_order 90 = .ok (.iload_n 2, 1) := by decide +kernel
theorem dX8_order_91 : decode cX8_order 91 = .ok (.bipush 119, 2) := by decide +kernel
theorem dX8_order_93 : decode cX8_order 93 = .ok (.if_icmp .ne 7, 3) := by decide +kernel
theorem dX8_order_96 : decode cX8_order 96 = .ok (.iconst 1, 1) := by decide +kernel
theorem dX8_order_97 : decode cX8_order 97 = .ok (.goto 4, 3) := by decide +kernel
theorem dX8_order_100 : decode cX8_order 100 = .ok (.iconst 0, 1) := by decide +kernel
theorem dX8_order_101 : decode cX8_order 101 = .ok (.istore 5, 2) := by decide +kernel
theorem dX8_order_103 : decode cX8_order 103 = .ok (.iload 5, 2) := by decide +kernel
theorem dX8_order_105 : decode cX8_order 105 = .ok (.ifCond .eq 62, 3) := by decide +kernel
theorem dX8_order_108 : decode cX8_order 108 = .ok (.aload_n 0, 1) := by decide +kernel
theorem dX8_order_109 : decode cX8_order 109 = .ok (.bipush 43, 2) := by decide +kernel
theorem dX8_order_111 : decode cX8_order 111 = .ok (.bipush 43, 2) := by decide +kernel
theorem dX8_order_113 : decode cX8_order 113 = .ok (.invokevirtual 144, 3) := by decide +kernel
theorem dX8_order_116 : decode cX8_order 116 = .ok (.ifCond .eq 51, 3) := by decide +kernel
theorem dX8_order_119 : decode cX8_order 119 = .ok (.aload_n 0, 1) := by decide +kernel
theorem dX8_order_120 : decode cX8_order 120 = .ok (.dup, 1) := by decide +kernel
theorem dX8_order_121 : decode cX8_order 121 = .ok (.getfield 141, 3) := by decide +kernel
theorem dX8_order_124 : decode cX8_order 124 = .ok (.iconst 1, 1) := by decide +kernel
theorem dX8_order_125 : decode cX8_order 125 = .ok (.iadd, 1) := by decide +kernel
theorem dX8_order_126 : decode cX8_order 126 = .ok (.putfield 141, 3) := by decide +kernel
theorem dX8_order_129 : decode cX8_order 129 = .ok (.aload_n 0, 1) := by decide +kernel
theorem dX8_order_130 : decode cX8_order 130 = .ok (.bipush 48, 2) := by decide +kernel
theorem dX8_order_132 : decode cX8_order 132 = .ok (.bipush 57, 2) := by decide +kernel
theorem dX8_order_134 : decode cX8_order 134 = .ok (.invokevirtual 144, 3) := by decide +kernel
theorem dX8_order_137 : decode cX8_order 137 = .ok (.ifCond .ne 6, 3) := by decide +kernel
theorem dX8_order_140 : decode cX8_order 140 = .ok (.bipush (-3), 2) := by decide +kernel
theorem dX8_order_142 : decode cX8_order 142 = .ok (.ireturn, 1) := by decide +kernel
theorem dX8_order_143 : decode cX8_order 143 = .ok (.aload_n 0, 1) := by decide +kernel
theorem dX8_order_144 : decode cX8_order 144 = .ok (.getfield 29, 3) := by decide +kernel
theorem dX8_order_147 : decode cX8_order 147 = .ok (.aload_n 0, 1) := by decide +kernel
theorem dX8_order_148 : decode cX8_order 148 = .ok (.getfield 141, 3) := by decide +kernel
theorem dX8_order_151 : decode cX8_order 151 = .ok (.iaload, 1) := by decide +kernel
theorem dX8_order_152 : decode cX8_order 152 = .ok (.bipush 48, 2) := by decide +kernel
theorem dX8_order_154 : decode cX8_order 154 = .ok (.isub, 1) := by decide +kernel
theorem dX8_order_155 : decode cX8_order 155 = .ok (.istore 4, 2) := by decide +kernel
theorem dX8_order_157 : decode cX8_order 157 = .ok (.aload_n 0, 1) := by decide +kernel
theorem dX8_order_158 : decode cX8_order 158 = .ok (.dup, 1) := by decide +kernel
theorem dX8_order_159 : decode cX8_order 159 = .ok (.getfield 141, 3) := by decide +kernel
theorem dX8_order_162 : decode cX8_order 162 = .ok (.iconst 1, 1) := by decide +kernel
theorem dX8_order_163 : decode cX8_order 163 = .ok (.iadd, 1) := by decide +kernel
theorem dX8_order_164 : decode cX8_order 164 = .ok (.putfield 141, 3) := by decide +kernel
theorem dX8_order_167 : decode cX8_order 167 = .ok (.iload_n 1, 1) := by decide +kernel
theorem dX8_order_168 : decode cX8_order 168 = .ok (.ifCond .ne 5, 3) := by decide +kernel
theorem dX8_order_171 : decode cX8_order 171 = .ok (.iconst 0, 1) := by decide +kernel
theorem dX8_order_172 : decode cX8_order 172 = .ok (.ireturn, 1) := by decide +kernel
theorem dX8_order_173 : decode cX8_order 173 = .ok (.iload 5, 2) := by decide +kernel
theorem dX8_order_175 : decode cX8_order 175 = .ok (.ifCond .eq 26, 3) := by decide +kernel
theorem dX8_order_178 : decode cX8_order 178 = .ok (.aload_n 0, 1) := by decide +kernel
theorem dX8_order_179 : decode cX8_order 179 = .ok (.iload_n 2, 1) := by decide +kernel
theorem dX8_order_180 : decode cX8_order 180 = .ok (.bipush 119, 2) := by decide +kernel
theorem dX8_order_182 : decode cX8_order 182 = .ok (.if_icmp .ne 7, 3) := by decide +kernel
theorem dX8_order_185 : decode cX8_order 185 = .ok (.iconst 1, 1) := by decide +kernel
theorem dX8_order_186 : decode cX8_order 186 = .ok (.goto 4, 3) := by decide +kernel
theorem dX8_order_189 : decode cX8_order 189 = .ok (.iconst 0, 1) := by decide +kernel
theorem dX8_order_190 : decode cX8_order 190 = .ok (.iload_n 3, 1) := by decide +kernel
theorem dX8_order_191 : decode cX8_order 191 = .ok (.iconst 1, 1) := by decide +kernel
theorem dX8_order_192 : decode cX8_order 192 = .ok (.iload 4, 2) := by decide +kernel
theorem dX8_order_194 : decode cX8_order 194 = .ok (.iadd, 1) := by decide +kernel
theorem dX8_order_195 : decode cX8_order 195 = .ok (.invokevirtual 121, 3) := by decide +kernel
theorem dX8_order_198 : decode cX8_order 198 = .ok (.goto 22, 3) := by decide +kernel
theorem dX8_order_201 : decode cX8_order 201 = .ok (.iload_n 2, 1) := by decide +kernel
theorem dX8_order_202 : decode cX8_order 202 = .ok (.bipush 115, 2) := by decide +kernel
theorem dX8_order_204 : decode cX8_order 204 = .ok (.if_icmp .ne 11, 3) := by decide +kernel
theorem dX8_order_207 : decode cX8_order 207 = .ok (.aload_n 0, 1) := by decide +kernel
theorem dX8_order_208 : decode cX8_order 208 = .ok (.iload_n 3, 1) := by decide +kernel
theorem dX8_order_209 : decode cX8_order 209 = .ok (.invokevirtual 127, 3) := by decide +kernel
theorem dX8_order_212 : decode cX8_order 212 = .ok (.goto 8, 3) := by decide +kernel
theorem dX8_order_215 : decode cX8_order 215 = .ok (.aload_n 0, 1) := by decide +kernel
theorem dX8_order_216 : decode cX8_order 216 = .ok (.iload_n 3, 1) := by decide +kernel
theorem dX8_order_217 : decode cX8_order 217 = .ok (.invokevirtual 130, 3) := by decide +kernel
theorem dX8_order_220 : decode cX8_order 220 = .ok (.ireturn, 1) := by decide +kernel
theorem dX8_isWell_0 : decode cX8_isWell 0 = .ok (.aload_n 0, 1) := by decide +kernel
theorem dX8_isWell_1 : decode cX8_isWell 1 = .ok (.iconst 0, 1) := by decide +kernel
theorem dX8_isWell_2 : decode cX8_isWell 2 = .ok (.putfield 141, 3) := by decide +kernel
theorem dX8_isWell_5 : decode cX8_isWell 5 = .ok (.aload_n 0, 1) := by decide +kernel
theorem dX8_isWell_6 : decode cX8_isWell 6 = .ok (.iconst 0, 1) := by decide +kernel
theorem dX8_isWell_7 : decode cX8_isWell 7 = .ok (.invokevirtual 151, 3) := by decide +kernel
theorem dX8_isWell_10 : decode cX8_isWell 10 = .ok (.ifCond .ne 7, 3) := by decide +kernel
theorem dX8_isWell_13 : decode cX8_isWell 13 = .ok (.iconst 1, 1) := by decide +kernel
theorem dX8_isWell_14 : decode cX8_isWell 14 = .ok (.goto 4, 3) := by decide +kernel
theorem dX8_isWell_17 : decode cX8_isWell 17 = .ok (.iconst 0, 1) := by decide +kernel
theorem dX8_isWell_18 : decode cX8_isWell 18 = .ok (.istore_n 1, 1) := by decide +kernel
theorem dX8_isWell_19 : decode cX8_isWell 19 = .ok (.iload_n 1, 1) := by decide +kernel
theorem dX8_isWell_20 : decode cX8_isWell 20 = .ok (.ifCond .eq 62, 3) := by decide +kernel
theorem dX8_isWell_23 : decode cX8_isWell 23 = .ok (.aload_n 0, 1) := by decide +kernel
theorem dX8_isWell_24 : decode cX8_isWell 24 = .ok (.getfield 141, 3) := by decide +kernel
theorem dX8_isWell_27 : decode cX8_isWell 27 = .ok (.aload_n 0, 1) := by decide +kernel
theorem dX8_isWell_28 : decode cX8_isWell 28 = .ok (.getfield 136, 3) := by decide +kernel
theorem dX8_isWell_31 : decode cX8_isWell 31 = .ok (.if_icmp .ge 51, 3) := by decide +kernel
theorem dX8_isWell_34 : decode cX8_isWell 34 = .ok (.aload_n 0, 1) := by decide +kernel
theorem dX8_isWell_35 : decode cX8_isWell 35 = .ok (.bipush 59, 2) := by decide +kernel
theorem dX8_isWell_37 : decode cX8_isWell 37 = .ok (.bipush 59, 2) := by decide +kernel
theorem dX8_isWell_39 : decode cX8_isWell 39 = .ok (.invokevirtual 144, 3) := by decide +kernel
theorem dX8_isWell_42 : decode cX8_isWell 42 = .ok (.istore_n 1, 1) := by decide +kernel
theorem dX8_isWell_43 : decode cX8_isWell 43 = .ok (.aload_n 0, 1) := by decide +kernel
theorem dX8_isWell_44 : decode cX8_isWell 44 = .ok (.dup, 1) := by decide +kernel
theorem dX8_isWell_45 : decode cX8_isWell 45 = .ok (.getfield 141, 3) := by decide +kernel
theorem dX8_isWell_48 : decode cX8_isWell 48 = .ok (.iload_n 1, 1) := by decide +kernel
theorem dX8_isWell_49 : decode cX8_isWell 49 = .ok (.ifCond .eq 7, 3) := by decide +kernel
theorem dX8_isWell_52 : decode cX8_isWell 52 = .ok (.iconst 1, 1) := by decide +kernel
theorem dX8_isWell_53 : decode cX8_isWell 53 = .ok (.goto 4, 3) := by decide +kernel
theorem dX8_isWell_56 : decode cX8_isWell 56 = .ok (.iconst 0, 1) := by decide +kernel
theorem dX8_isWell_57 : decode cX8_isWell 57 = .ok (.iadd, 1) := by decide +kernel
theorem dX8_isWell_58 : decode cX8_isWell 58 = .ok (.putfield 141, 3) := by decide +kernel
theorem dX8_isWell_61 : decode cX8_isWell 61 = .ok (.iload_n 1, 1) := by decide +kernel
theorem dX8_isWell_62 : decode cX8_isWell 62 = .ok (.ifCond .eq 15, 3) := by decide +kernel
theorem dX8_isWell_65 : decode cX8_isWell 65 = .ok (.aload_n 0, 1) := by decide +kernel
theorem dX8_isWell_66 : decode cX8_isWell 66 = .ok (.iconst 0, 1) := by decide +kernel
theorem dX8_isWell_67 : decode cX8_isWell 67 = .ok (.invokevirtual 151, 3) := by decide +kernel
theorem dX8_isWell_70 : decode cX8_isWell 70 = .ok (.ifCond .ne 7, 3) := by decide +kernel
theorem dX8_isWell_73 : decode cX8_isWell 73 = .ok (.iconst 1, 1) := by decide +kernel
theorem dX8_isWell_74 : decode cX8_isWell 74 = .ok (.goto 4, 3) := by decide +kernel
theorem dX8_isWell_77 : decode cX8_isWell 77 = .ok (.iconst 0, 1) := by decide +kernel
theorem dX8_isWell_78 : decode cX8_isWell 78 = .ok (.istore_n 1, 1) := by decide +kernel
theorem dX8_isWell_79 : decode cX8_isWell 79 = .ok (.goto (-60), 3) := by decide +kernel
theorem dX8_isWell_82 : decode cX8_isWell 82 = .ok (.iload_n 1, 1) := by decide +kernel
theorem dX8_isWell_83 : decode cX8_isWell 83 = .ok (.ireturn, 1) := by decide +kernel
theorem dX8_fault_0 : decode cX8_fault 0 = .ok (.aload_n 0, 1) := by decide +kernel
theorem dX8_fault_1 : decode cX8_fault 1 = .ok (.invokevirtual 155, 3) := by decide +kernel
theorem dX8_fault_4 : decode cX8_fault 4 = .ok (.ifCond .eq 8, 3) := by decide +kernel
theorem dX8_fault_7 : decode cX8_fault 7 = .ok (.bipush (-6), 2) := by decide +kernel
theorem dX8_fault_9 : decode cX8_fault 9 = .ok (.goto 7, 3) := by decide +kernel
theorem dX8_fault_12 : decode cX8_fault 12 = .ok (.aload_n 0, 1) := by decide +kernel
theorem dX8_fault_13 : decode cX8_fault 13 = .ok (.getfield 141, 3) := by decide +kernel
theorem dX8_fault_16 : decode cX8_fault 16 = .ok (.ireturn, 1) := by decide +kernel
theorem dX8_carryOut_0 : decode cX8_carryOut 0 = .ok (.aload_n 0, 1) := by decide +kernel
theorem dX8_carryOut_1 : decode cX8_carryOut 1 = .ok (.invokevirtual 155, 3) := by decide +kernel
theorem dX8_carryOut_4 : decode cX8_carryOut 4 = .ok (.ifCond .ne 6, 3) := by decide +kernel
theorem dX8_carryOut_7 : decode cX8_carryOut 7 = .ok (.bipush (-3), 2) := by decide +kernel
theorem dX8_carryOut_9 : decode cX8_carryOut 9 = .ok (.ireturn, 1) := by decide +kernel
theorem dX8_carryOut_10 : decode cX8_carryOut 10 = .ok (.aload_n 0, 1) := by decide +kernel
theorem dX8_carryOut_11 : decode cX8_carryOut 11 = .ok (.invokevirtual 47, 3) := by decide +kernel
theorem dX8_carryOut_14 : decode cX8_carryOut 14 = .ok (.aload_n 0, 1) := by decide +kernel
theorem dX8_carryOut_15 : decode cX8_carryOut 15 = .ok (.iconst 0, 1) := by decide +kernel
theorem dX8_carryOut_16 : decode cX8_carryOut 16 = .ok (.putfield 141, 3) := by decide +kernel
theorem dX8_carryOut_19 : decode cX8_carryOut 19 = .ok (.iconst 0, 1) := by decide +kernel
theorem dX8_carryOut_20 : decode cX8_carryOut 20 = .ok (.istore_n 1, 1) := by decide +kernel
theorem dX8_carryOut_21 : decode cX8_carryOut 21 = .ok (.iconst 1, 1) := by decide +kernel
theorem dX8_carryOut_22 : decode cX8_carryOut 22 = .ok (.istore_n 2, 1) := by decide +kernel
theorem dX8_carryOut_23 : decode cX8_carryOut 23 = .ok (.iload_n 2, 1) := by decide +kernel
theorem dX8_carryOut_24 : decode cX8_carryOut 24 = .ok (.ifCond .eq 53, 3) := by decide +kernel
theorem dX8_carryOut_27 : decode cX8_carryOut 27 = .ok (.aload_n 0, 1) := by decide +kernel
theorem dX8_carryOut_28 : decode cX8_carryOut 28 = .ok (.getfield 141, 3) := by decide +kernel
theorem dX8_carryOut_31 : decode cX8_carryOut 31 = .ok (.aload_n 0, 1) := by decide +kernel
theorem dX8_carryOut_32 : decode cX8_carryOut 32 = .ok (.getfield 136, 3) := by decide +kernel
theorem dX8_carryOut_35 : decode cX8_carryOut 35 = .ok (.if_icmp .ge 42, 3) := by decide +kernel
theorem dX8_carryOut_38 : decode cX8_carryOut 38 = .ok (.aload_n 0, 1) := by decide +kernel
theorem dX8_carryOut_39 : decode cX8_carryOut 39 = .ok (.iconst 1, 1) := by decide +kernel
theorem dX8_carryOut_40 : decode cX8_carryOut 40 = .ok (.invokevirtual 151, 3) := by decide +kernel
theorem dX8_carryOut_43 : decode cX8_carryOut 43 = .ok (.ifCond .lt 7, 3) := by decide +kernel
theorem dX8_carryOut_46 : decode cX8_carryOut 46 = .ok (.iconst 1, 1) := by decide +kernel
theorem dX8_carryOut_47 : decode cX8_carryOut 47 = .ok (.goto 4, 3) := by decide +kernel
theorem dX8_carryOut_50 : decode cX8_carryOut 50 = .ok (.iconst 0, 1) := by decide +kernel
theorem dX8_carryOut_51 : decode cX8_carryOut 51 = .ok (.istore_n 2, 1) := by decide +kernel
theorem dX8_carryOut_52 : decode cX8_carryOut 52 = .ok (.iload_n 1, 1) := by decide +kernel
theorem dX8_carryOut_53 : decode cX8_carryOut 53 = .ok (.iload_n 2, 1) := by decide +kernel
theorem dX8_carryOut_54 : decode cX8_carryOut 54 = .ok (.ifCond .eq 7, 3) := by decide +kernel
theorem dX8_carryOut_57 : decode cX8_carryOut 57 = .ok (.iconst 1, 1) := by decide +kernel
theorem dX8_carryOut_58 : decode cX8_carryOut 58 = .ok (.goto 4, 3) := by decide +kernel
theorem dX8_carryOut_61 : decode cX8_carryOut 61 = .ok (.iconst 0, 1) := by decide +kernel
theorem dX8_carryOut_62 : decode cX8_carryOut 62 = .ok (.iadd, 1) := by decide +kernel
theorem dX8_carryOut_63 : decode cX8_carryOut 63 = .ok (.istore_n 1, 1) := by decide +kernel
theorem dX8_carryOut_64 : decode cX8_carryOut 64 = .ok (.aload_n 0, 1) := by decide +kernel
theorem dX8_carryOut_65 : decode cX8_carryOut 65 = .ok (.dup, 1) := by decide +kernel
theorem dX8_carryOut_66 : decode cX8_carryOut 66 = .ok (.getfield 141, 3) := by decide +kernel
theorem dX8_carryOut_69 : decode cX8_carryOut 69 = .ok (.iconst 1, 1) := by decide +kernel
theorem dX8_carryOut_70 : decode cX8_carryOut 70 = .ok (.iadd, 1) := by decide +kernel
theorem dX8_carryOut_71 : decode cX8_carryOut 71 = .ok (.putfield 141, 3) := by decide +kernel
theorem dX8_carryOut_74 : decode cX8_carryOut 74 = .ok (.goto (-51), 3) := by decide +kernel
theorem dX8_carryOut_77 : decode cX8_carryOut 77 = .ok (.aload_n 0, 1) := by decide +kernel
theorem dX8_carryOut_78 : decode cX8_carryOut 78 = .ok (.iconst 0, 1) := by decide +kernel
theorem dX8_carryOut_79 : decode cX8_carryOut 79 = .ok (.putfield 136, 3) := by decide +kernel
theorem dX8_carryOut_82 : decode cX8_carryOut 82 = .ok (.aload_n 0, 1) := by decide +kernel
theorem dX8_carryOut_83 : decode cX8_carryOut 83 = .ok (.iload_n 1, 1) := by decide +kernel
theorem dX8_carryOut_84 : decode cX8_carryOut 84 = .ok (.invokevirtual 50, 3) := by decide +kernel
theorem dX8_carryOut_87 : decode cX8_carryOut 87 = .ok (.ireturn, 1) := by decide +kernel
end
section
/-! the model (DrawerSlipsModel): its nine cells; rows that read and write them -/
def zmO (g : Nat → Nat) (st le ap pl wy : Int32) : List Value := [.ref (g 1), .ref (g 2), .ref (g 3), .ref (g 4), .ref (g 5), .ref (g 6), .int st, .ref (g 7), .int le, .int ap, .ref (g 8), .int pl, .int wy]
def zmE (V : zV) (g : Nat → Nat) (w pa be av sl sv pd cd : Nat → Int32) (st le ap pl wy : Int32) : Nat → va_E
  | 0 => .inr (8, zmO g st le ap pl wy)
  | 1 => .inl (V.2.1, 258, .inl w)
  | 2 => .inl (V.2.1, 1548, .inl pa)
  | 3 => .inl (V.2.1, 258, .inl be)
  | 4 => .inl (V.2.1, 258, .inl av)
  | 5 => .inl (V.2.1, 516, .inl sl)
  | 6 => .inl (V.2.2.1, 2, .inl sv)
  | 7 => .inl (V.2.1, 80, .inl pd)
  | _ => .inl (V.2.1, 8, .inl cd)
def zmW (V : zV) (g : Nat → Nat) (w pa be av sl sv pd cd : Nat → Int32) (st le ap pl wy : Int32) : va_W := zWd 9 g (zmE V g w pa be av sl sv pd cd st le ap pl wy)
theorem zm_c0 (V : zV) (g : Nat → Nat) (w pa be av sl sv pd cd : Nat → Int32) (st le ap pl wy : Int32) : (zmW V g w pa be av sl sv pd cd st le ap pl wy)[0]? = some (g 0, .inr (8, zmO g st le ap pl wy)) := zWd_at (by decide)
theorem zm_c1 (V : zV) (g : Nat → Nat) (w pa be av sl sv pd cd : Nat → Int32) (st le ap pl wy : Int32) : (zmW V g w pa be av sl sv pd cd st le ap pl wy)[1]? = some (g 1, .inl (V.2.1, 258, .inl w)) := zWd_at (by decide)
theorem zm_c2 (V : zV) (g : Nat → Nat) (w pa be av sl sv pd cd : Nat → Int32) (st le ap pl wy : Int32) : (zmW V g w pa be av sl sv pd cd st le ap pl wy)[2]? = some (g 2, .inl (V.2.1, 1548, .inl pa)) := zWd_at (by decide)
theorem zm_c3 (V : zV) (g : Nat → Nat) (w pa be av sl sv pd cd : Nat → Int32) (st le ap pl wy : Int32) : (zmW V g w pa be av sl sv pd cd st le ap pl wy)[3]? = some (g 3, .inl (V.2.1, 258, .inl be)) := zWd_at (by decide)
theorem zm_c4 (V : zV) (g : Nat → Nat) (w pa be av sl sv pd cd : Nat → Int32) (st le ap pl wy : Int32) : (zmW V g w pa be av sl sv pd cd st le ap pl wy)[4]? = some (g 4, .inl (V.2.1, 258, .inl av)) := zWd_at (by decide)
theorem zm_c5 (V : zV) (g : Nat → Nat) (w pa be av sl sv pd cd : Nat → Int32) (st le ap pl wy : Int32) : (zmW V g w pa be av sl sv pd cd st le ap pl wy)[5]? = some (g 5, .inl (V.2.1, 516, .inl sl)) := zWd_at (by decide)
theorem zm_c6 (V : zV) (g : Nat → Nat) (w pa be av sl sv pd cd : Nat → Int32) (st le ap pl wy : Int32) : (zmW V g w pa be av sl sv pd cd st le ap pl wy)[6]? = some (g 6, .inl (V.2.2.1, 2, .inl sv)) := zWd_at (by decide)
theorem zm_c7 (V : zV) (g : Nat → Nat) (w pa be av sl sv pd cd : Nat → Int32) (st le ap pl wy : Int32) : (zmW V g w pa be av sl sv pd cd st le ap pl wy)[7]? = some (g 7, .inl (V.2.1, 80, .inl pd)) := zWd_at (by decide)
theorem zm_c8 (V : zV) (g : Nat → Nat) (w pa be av sl sv pd cd : Nat → Int32) (st le ap pl wy : Int32) : (zmW V g w pa be av sl sv pd cd st le ap pl wy)[8]? = some (g 8, .inl (V.2.1, 8, .inl cd)) := zWd_at (by decide)
theorem zm_s0 (V : zV) (g : Nat → Nat) (w pa be av sl sv pd cd : Nat → Int32) (st le ap pl wy : Int32) (st' le' ap' pl' wy' : Int32) : (zmW V g w pa be av sl sv pd cd st le ap pl wy).set 0 (g 0, .inr (8, zmO g st' le' ap' pl' wy')) = zmW V g w pa be av sl sv pd cd st' le' ap' pl' wy' :=
  zWd_set (by decide) rfl (fun q hq hne => by
    match q, hq, hne with
    | 0, _, h => exact absurd rfl h
    | 1, _, _ => rfl
    | 2, _, _ => rfl
    | 3, _, _ => rfl
    | 4, _, _ => rfl
    | 5, _, _ => rfl
    | 6, _, _ => rfl
    | 7, _, _ => rfl
    | 8, _, _ => rfl
    | k + 9, h, _ => exact absurd h (by omega))
theorem zm_s1 (V : zV) (g : Nat → Nat) (w pa be av sl sv pd cd : Nat → Int32) (st le ap pl wy : Int32) (f' : Nat → Int32) : (zmW V g w pa be av sl sv pd cd st le ap pl wy).set 1 (g 1, .inl (V.2.1, 258, .inl f')) = zmW V g f' pa be av sl sv pd cd st le ap pl wy :=
  zWd_set (by decide) rfl (fun q hq hne => by
    match q, hq, hne with
    | 0, _, _ => rfl
    | 1, _, h => exact absurd rfl h
    | 2, _, _ => rfl
    | 3, _, _ => rfl
    | 4, _, _ => rfl
    | 5, _, _ => rfl
    | 6, _, _ => rfl
    | 7, _, _ => rfl
    | 8, _, _ => rfl
    | k + 9, h, _ => exact absurd h (by omega))
theorem zm_s2 (V : zV) (g : Nat → Nat) (w pa be av sl sv pd cd : Nat → Int32) (st le ap pl wy : Int32) (f' : Nat → Int32) : (zmW V g w pa be av sl sv pd cd st le ap pl wy).set 2 (g 2, .inl (V.2.1, 1548, .inl f')) = zmW V g w f' be av sl sv pd cd st le ap pl wy :=
  zWd_set (by decide) rfl (fun q hq hne => by
    match q, hq, hne with
    | 0, _, _ => rfl
    | 1, _, _ => rfl
    | 2, _, h => exact absurd rfl h
    | 3, _, _ => rfl
    | 4, _, _ => rfl
    | 5, _, _ => rfl
    | 6, _, _ => rfl
    | 7, _, _ => rfl
    | 8, _, _ => rfl
    | k + 9, h, _ => exact absurd h (by omega))
theorem zm_s3 (V : zV) (g : Nat → Nat) (w pa be av sl sv pd cd : Nat → Int32) (st le ap pl wy : Int32) (f' : Nat → Int32) : (zmW V g w pa be av sl sv pd cd st le ap pl wy).set 3 (g 3, .inl (V.2.1, 258, .inl f')) = zmW V g w pa f' av sl sv pd cd st le ap pl wy :=
  zWd_set (by decide) rfl (fun q hq hne => by
    match q, hq, hne with
    | 0, _, _ => rfl
    | 1, _, _ => rfl
    | 2, _, _ => rfl
    | 3, _, h => exact absurd rfl h
    | 4, _, _ => rfl
    | 5, _, _ => rfl
    | 6, _, _ => rfl
    | 7, _, _ => rfl
    | 8, _, _ => rfl
    | k + 9, h, _ => exact absurd h (by omega))
theorem zm_s4 (V : zV) (g : Nat → Nat) (w pa be av sl sv pd cd : Nat → Int32) (st le ap pl wy : Int32) (f' : Nat → Int32) : (zmW V g w pa be av sl sv pd cd st le ap pl wy).set 4 (g 4, .inl (V.2.1, 258, .inl f')) = zmW V g w pa be f' sl sv pd cd st le ap pl wy :=
  zWd_set (by decide) rfl (fun q hq hne => by
    match q, hq, hne with
    | 0, _, _ => rfl
    | 1, _, _ => rfl
    | 2, _, _ => rfl
    | 3, _, _ => rfl
    | 4, _, h => exact absurd rfl h
    | 5, _, _ => rfl
    | 6, _, _ => rfl
    | 7, _, _ => rfl
    | 8, _, _ => rfl
    | k + 9, h, _ => exact absurd h (by omega))
theorem zm_s5 (V : zV) (g : Nat → Nat) (w pa be av sl sv pd cd : Nat → Int32) (st le ap pl wy : Int32) (f' : Nat → Int32) : (zmW V g w pa be av sl sv pd cd st le ap pl wy).set 5 (g 5, .inl (V.2.1, 516, .inl f')) = zmW V g w pa be av f' sv pd cd st le ap pl wy :=
  zWd_set (by decide) rfl (fun q hq hne => by
    match q, hq, hne with
    | 0, _, _ => rfl
    | 1, _, _ => rfl
    | 2, _, _ => rfl
    | 3, _, _ => rfl
    | 4, _, _ => rfl
    | 5, _, h => exact absurd rfl h
    | 6, _, _ => rfl
    | 7, _, _ => rfl
    | 8, _, _ => rfl
    | k + 9, h, _ => exact absurd h (by omega))
theorem zm_s6 (V : zV) (g : Nat → Nat) (w pa be av sl sv pd cd : Nat → Int32) (st le ap pl wy : Int32) (f' : Nat → Int32) : (zmW V g w pa be av sl sv pd cd st le ap pl wy).set 6 (g 6, .inl (V.2.2.1, 2, .inl f')) = zmW V g w pa be av sl f' pd cd st le ap pl wy :=
  zWd_set (by decide) rfl (fun q hq hne => by
    match q, hq, hne with
    | 0, _, _ => rfl
    | 1, _, _ => rfl
    | 2, _, _ => rfl
    | 3, _, _ => rfl
    | 4, _, _ => rfl
    | 5, _, _ => rfl
    | 6, _, h => exact absurd rfl h
    | 7, _, _ => rfl
    | 8, _, _ => rfl
    | k + 9, h, _ => exact absurd h (by omega))
theorem zm_s7 (V : zV) (g : Nat → Nat) (w pa be av sl sv pd cd : Nat → Int32) (st le ap pl wy : Int32) (f' : Nat → Int32) : (zmW V g w pa be av sl sv pd cd st le ap pl wy).set 7 (g 7, .inl (V.2.1, 80, .inl f')) = zmW V g w pa be av sl sv f' cd st le ap pl wy :=
  zWd_set (by decide) rfl (fun q hq hne => by
    match q, hq, hne with
    | 0, _, _ => rfl
    | 1, _, _ => rfl
    | 2, _, _ => rfl
    | 3, _, _ => rfl
    | 4, _, _ => rfl
    | 5, _, _ => rfl
    | 6, _, _ => rfl
    | 7, _, h => exact absurd rfl h
    | 8, _, _ => rfl
    | k + 9, h, _ => exact absurd h (by omega))
theorem zm_s8 (V : zV) (g : Nat → Nat) (w pa be av sl sv pd cd : Nat → Int32) (st le ap pl wy : Int32) (f' : Nat → Int32) : (zmW V g w pa be av sl sv pd cd st le ap pl wy).set 8 (g 8, .inl (V.2.1, 8, .inl f')) = zmW V g w pa be av sl sv pd f' st le ap pl wy :=
  zWd_set (by decide) rfl (fun q hq hne => by
    match q, hq, hne with
    | 0, _, _ => rfl
    | 1, _, _ => rfl
    | 2, _, _ => rfl
    | 3, _, _ => rfl
    | 4, _, _ => rfl
    | 5, _, _ => rfl
    | 6, _, _ => rfl
    | 7, _, _ => rfl
    | 8, _, h => exact absurd rfl h
    | k + 9, h, _ => exact absurd h (by omega))
theorem zm_x1 {V : zV} {g : Nat → Nat} {w pa be av sl sv pd cd : Nat → Int32} {st le ap pl wy : Int32} {H : Heap} (f' : Nat → Int32) (hf : ∀ j, j < 258 → w j = f' j) (h : va_P V.1 vwCl (zmW V g w pa be av sl sv pd cd st le ap pl wy) H) : va_P V.1 vwCl (zmW V g f' pa be av sl sv pd cd st le ap pl wy) H :=
  zP_mk (fun q hq => by
    have h1 := zP_at h hq
    match q, hq, h1 with
    | 0, _, h1 => exact h1
    | 1, _, h1 => exact z_atx h1 hf
    | 2, _, h1 => exact h1
    | 3, _, h1 => exact h1
    | 4, _, h1 => exact h1
    | 5, _, h1 => exact h1
    | 6, _, h1 => exact h1
    | 7, _, h1 => exact h1
    | 8, _, h1 => exact h1
    | k + 9, h, _ => exact absurd h (by omega))
theorem zm_x2 {V : zV} {g : Nat → Nat} {w pa be av sl sv pd cd : Nat → Int32} {st le ap pl wy : Int32} {H : Heap} (f' : Nat → Int32) (hf : ∀ j, j < 1548 → pa j = f' j) (h : va_P V.1 vwCl (zmW V g w pa be av sl sv pd cd st le ap pl wy) H) : va_P V.1 vwCl (zmW V g w f' be av sl sv pd cd st le ap pl wy) H :=
  zP_mk (fun q hq => by
    have h1 := zP_at h hq
    match q, hq, h1 with
    | 0, _, h1 => exact h1
    | 1, _, h1 => exact h1
    | 2, _, h1 => exact z_atx h1 hf
    | 3, _, h1 => exact h1
    | 4, _, h1 => exact h1
    | 5, _, h1 => exact h1
    | 6, _, h1 => exact h1
    | 7, _, h1 => exact h1
    | 8, _, h1 => exact h1
    | k + 9, h, _ => exact absurd h (by omega))
theorem zm_x3 {V : zV} {g : Nat → Nat} {w pa be av sl sv pd cd : Nat → Int32} {st le ap pl wy : Int32} {H : Heap} (f' : Nat → Int32) (hf : ∀ j, j < 258 → be j = f' j) (h : va_P V.1 vwCl (zmW V g w pa be av sl sv pd cd st le ap pl wy) H) : va_P V.1 vwCl (zmW V g w pa f' av sl sv pd cd st le ap pl wy) H :=
  zP_mk (fun q hq => by
    have h1 := zP_at h hq
    match q, hq, h1 with
    | 0, _, h1 => exact h1
    | 1, _, h1 => exact h1
    | 2, _, h1 => exact h1
    | 3, _, h1 => exact z_atx h1 hf
    | 4, _, h1 => exact h1
    | 5, _, h1 => exact h1
    | 6, _, h1 => exact h1
    | 7, _, h1 => exact h1
    | 8, _, h1 => exact h1
    | k + 9, h, _ => exact absurd h (by omega))
theorem zm_x4 {V : zV} {g : Nat → Nat} {w pa be av sl sv pd cd : Nat → Int32} {st le ap pl wy : Int32} {H : Heap} (f' : Nat → Int32) (hf : ∀ j, j < 258 → av j = f' j) (h : va_P V.1 vwCl (zmW V g w pa be av sl sv pd cd st le ap pl wy) H) : va_P V.1 vwCl (zmW V g w pa be f' sl sv pd cd st le ap pl wy) H :=
  zP_mk (fun q hq => by
    have h1 := zP_at h hq
    match q, hq, h1 with
    | 0, _, h1 => exact h1
    | 1, _, h1 => exact h1
    | 2, _, h1 => exact h1
    | 3, _, h1 => exact h1
    | 4, _, h1 => exact z_atx h1 hf
    | 5, _, h1 => exact h1
    | 6, _, h1 => exact h1
    | 7, _, h1 => exact h1
    | 8, _, h1 => exact h1
    | k + 9, h, _ => exact absurd h (by omega))
theorem zm_x5 {V : zV} {g : Nat → Nat} {w pa be av sl sv pd cd : Nat → Int32} {st le ap pl wy : Int32} {H : Heap} (f' : Nat → Int32) (hf : ∀ j, j < 516 → sl j = f' j) (h : va_P V.1 vwCl (zmW V g w pa be av sl sv pd cd st le ap pl wy) H) : va_P V.1 vwCl (zmW V g w pa be av f' sv pd cd st le ap pl wy) H :=
  zP_mk (fun q hq => by
    have h1 := zP_at h hq
    match q, hq, h1 with
    | 0, _, h1 => exact h1
    | 1, _, h1 => exact h1
    | 2, _, h1 => exact h1
    | 3, _, h1 => exact h1
    | 4, _, h1 => exact h1
    | 5, _, h1 => exact z_atx h1 hf
    | 6, _, h1 => exact h1
    | 7, _, h1 => exact h1
    | 8, _, h1 => exact h1
    | k + 9, h, _ => exact absurd h (by omega))
theorem zm_x6 {V : zV} {g : Nat → Nat} {w pa be av sl sv pd cd : Nat → Int32} {st le ap pl wy : Int32} {H : Heap} (f' : Nat → Int32) (hf : ∀ j, j < 2 → sv j = f' j) (h : va_P V.1 vwCl (zmW V g w pa be av sl sv pd cd st le ap pl wy) H) : va_P V.1 vwCl (zmW V g w pa be av sl f' pd cd st le ap pl wy) H :=
  zP_mk (fun q hq => by
    have h1 := zP_at h hq
    match q, hq, h1 with
    | 0, _, h1 => exact h1
    | 1, _, h1 => exact h1
    | 2, _, h1 => exact h1
    | 3, _, h1 => exact h1
    | 4, _, h1 => exact h1
    | 5, _, h1 => exact h1
    | 6, _, h1 => exact z_atx h1 hf
    | 7, _, h1 => exact h1
    | 8, _, h1 => exact h1
    | k + 9, h, _ => exact absurd h (by omega))
theorem zm_x7 {V : zV} {g : Nat → Nat} {w pa be av sl sv pd cd : Nat → Int32} {st le ap pl wy : Int32} {H : Heap} (f' : Nat → Int32) (hf : ∀ j, j < 80 → pd j = f' j) (h : va_P V.1 vwCl (zmW V g w pa be av sl sv pd cd st le ap pl wy) H) : va_P V.1 vwCl (zmW V g w pa be av sl sv f' cd st le ap pl wy) H :=
  zP_mk (fun q hq => by
    have h1 := zP_at h hq
    match q, hq, h1 with
    | 0, _, h1 => exact h1
    | 1, _, h1 => exact h1
    | 2, _, h1 => exact h1
    | 3, _, h1 => exact h1
    | 4, _, h1 => exact h1
    | 5, _, h1 => exact h1
    | 6, _, h1 => exact h1
    | 7, _, h1 => exact z_atx h1 hf
    | 8, _, h1 => exact h1
    | k + 9, h, _ => exact absurd h (by omega))
theorem zm_x8 {V : zV} {g : Nat → Nat} {w pa be av sl sv pd cd : Nat → Int32} {st le ap pl wy : Int32} {H : Heap} (f' : Nat → Int32) (hf : ∀ j, j < 8 → cd j = f' j) (h : va_P V.1 vwCl (zmW V g w pa be av sl sv pd cd st le ap pl wy) H) : va_P V.1 vwCl (zmW V g w pa be av sl sv pd f' st le ap pl wy) H :=
  zP_mk (fun q hq => by
    have h1 := zP_at h hq
    match q, hq, h1 with
    | 0, _, h1 => exact h1
    | 1, _, h1 => exact h1
    | 2, _, h1 => exact h1
    | 3, _, h1 => exact h1
    | 4, _, h1 => exact h1
    | 5, _, h1 => exact h1
    | 6, _, h1 => exact h1
    | 7, _, h1 => exact h1
    | 8, _, h1 => exact z_atx h1 hf
    | k + 9, h, _ => exact absurd h (by omega))
section ZM
variable {p : Program} {l : Launch} {e : Env} {R : Room} {s : State} {m : MethodId} {args : Array Value} {below : List Frame} {meth : Method} {c : Code} {H : Heap} {locs : List Loc} {cells slots : Nat} {Q : State → Prop}
variable {pc : Nat} {ls : Array Slot} {rest : List Value} {cc : ByteArray} {H0 : Heap}
theorem zm_get {V : zV} {g : Nat → Nat} {w pa be av sl sv pd cd : Nat → Int32} {st le ap pl wy : Int32} (k : Nat) (v : Value) {own ref : String} {index : Nat} {Ts : List Cond} (hx : p.tables.exec = Jvm.exec) (hb : c.code = cc) (hts : ∀ w ∈ Ts, w.before args s = true) (hin : ∀ w ∈ wsX80, w ∈ Ts) (hown : s.vm.findClass own = some m.cls) (hE : zE V s) (hP : va_P V.1 vwCl (zmW V g w pa be av sl sv pd cd st le ap pl wy) H) (hk : k < 13) (hv : (zmO g st le ap pl wy)[k]? = some v) (hlink : (Cond.fieldLink own index ref (TX8 k).2.1 (TX8 k).2.2.1).before args s = true) (hsame : ∀ x, s.fieldFound? (TX8 k).1 (TX8 k).2.1 (TX8 k).2.2.1 = some x → s.fieldFound? ref (TX8 k).2.1 (TX8 k).2.2.1 = some x) (hdg : decode cc pc = .ok (.getfield index, 3))
    (kk : W p l e R s m args below meth c H locs cells slots Q (F0 m (pc + 3) ls (v :: rest))) : W p l e R s m args below meth c H locs cells slots Q (F0 m pc ls (.ref (g 0) :: rest)) :=
  va_get (D := V.1) (ci := 8) (v := v) (C := RX8) (T := TX8) (N := 13) hx hb hts hin hown hE.1 hP 0 (zm_c0 V g w pa be av sl sv pd cd st le ap pl wy) rfl k hk hlink hsame hv hdg kk
theorem zm_put {V : zV} {g : Nat → Nat} {w pa be av sl sv pd cd : Nat → Int32} {st le ap pl wy st' le' ap' pl' wy' : Int32} (k : Nat) (x : Int32) {own ref : String} {index : Nat} {Ts : List Cond} (hx : p.tables.exec = Jvm.exec) (hb : c.code = cc) (hts : ∀ w ∈ Ts, w.before args s = true) (hin : ∀ w ∈ wsX80, w ∈ Ts) (hown : s.vm.findClass own = some m.cls) (hE : zE V s) (hP : va_P V.1 vwCl (zmW V g w pa be av sl sv pd cd st le ap pl wy) H) (hJ : zInj 9 g) (hS : va_S (zIn 9 g) H0 H locs) (hk : k < 13) (hset : (zmO g st le ap pl wy).set k (.int x) = zmO g st' le' ap' pl' wy') (hfin : (TX8 k).2.2.2 = false) (hd : parseFieldDescriptor (TX8 k).2.2.1 = some .int) (hlink : (Cond.fieldLink own index ref (TX8 k).2.1 (TX8 k).2.2.1).before args s = true) (hsame : ∀ x, s.fieldFound? (TX8 k).1 (TX8 k).2.1 (TX8 k).2.2.1 = some x → s.fieldFound? ref (TX8 k).2.1 (TX8 k).2.2.1 = some x) (hdg : decode cc pc = .ok (.putfield index, 3))
    (kk : ∀ (H1 : Heap) (locs1 : List Loc), va_P V.1 vwCl (zmW V g w pa be av sl sv pd cd st' le' ap' pl' wy') H1 → va_S (zIn 9 g) H0 H1 locs1 → W p l e R s m args below meth c H1 locs1 cells slots Q (F0 m (pc + 3) ls rest)) : W p l e R s m args below meth c H locs cells slots Q (F0 m pc ls (.int x :: .ref (g 0) :: rest)) :=
  va_put (D := V.1) (ci := 8) (v := .int x) (ty := .int) (C := RX8) (T := TX8) (N := 13) hx hb hts hin tyX8 tyX8_ok nmX8 hown hE.1 hP (zD hJ) hS 0 (zm_c0 V g w pa be av sl sv pd cd st le ap pl wy) rfl k hk hlink hsame hfin hd rfl rfl hk hdg
    (fun H1 locs1 h1 _ h3 => kk H1 locs1 (by rw [hset, zm_s0] at h1; exact h1) h3)
theorem zm_a1 {V : zV} {g : Nat → Nat} {w pa be av sl sv pd cd : Nat → Int32} {st le ap pl wy : Int32} (k : Nat) (x : Int32) (hx : p.tables.exec = Jvm.exec) (hb : c.code = cc) (hE : zE V s) (hP : va_P V.1 vwCl (zmW V g w pa be av sl sv pd cd st le ap pl wy) H) (hJ : zInj 9 g) (hS : va_S (zIn 9 g) H0 H locs) (hk : k < 258) (hdg : decode cc pc = .ok (.iastore, 1))
    (kk : ∀ (H1 : Heap) (locs1 : List Loc), va_P V.1 vwCl (zmW V g (upd w k x) pa be av sl sv pd cd st le ap pl wy) H1 → va_S (zIn 9 g) H0 H1 locs1 → W p l e R s m args below meth c H1 locs1 cells slots Q (F0 m (pc + 1) ls rest)) : W p l e R s m args below meth c H locs cells slots Q (F0 m pc ls (.int x :: .int (nI k) :: .ref (g 1) :: rest)) :=
  z_iast hx hb hE hP (zD hJ) hS 1 (zm_c1 V g w pa be av sl sv pd cd st le ap pl wy) hk (by decide) hdg (fun H1 locs1 h1 h3 => kk H1 locs1 (by rw [zm_s1] at h1; exact h1) h3)
theorem zm_a2 {V : zV} {g : Nat → Nat} {w pa be av sl sv pd cd : Nat → Int32} {st le ap pl wy : Int32} (k : Nat) (x : Int32) (hx : p.tables.exec = Jvm.exec) (hb : c.code = cc) (hE : zE V s) (hP : va_P V.1 vwCl (zmW V g w pa be av sl sv pd cd st le ap pl wy) H) (hJ : zInj 9 g) (hS : va_S (zIn 9 g) H0 H locs) (hk : k < 1548) (hdg : decode cc pc = .ok (.iastore, 1))
    (kk : ∀ (H1 : Heap) (locs1 : List Loc), va_P V.1 vwCl (zmW V g w (upd pa k x) be av sl sv pd cd st le ap pl wy) H1 → va_S (zIn 9 g) H0 H1 locs1 → W p l e R s m args below meth c H1 locs1 cells slots Q (F0 m (pc + 1) ls rest)) : W p l e R s m args below meth c H locs cells slots Q (F0 m pc ls (.int x :: .int (nI k) :: .ref (g 2) :: rest)) :=
  z_iast hx hb hE hP (zD hJ) hS 2 (zm_c2 V g w pa be av sl sv pd cd st le ap pl wy) hk (by decide) hdg (fun H1 locs1 h1 h3 => kk H1 locs1 (by rw [zm_s2] at h1; exact h1) h3)
theorem zm_a3 {V : zV} {g : Nat → Nat} {w pa be av sl sv pd cd : Nat → Int32} {st le ap pl wy : Int32} (k : Nat) (x : Int32) (hx : p.tables.exec = Jvm.exec) (hb : c.code = cc) (hE : zE V s) (hP : va_P V.1 vwCl (zmW V g w pa be av sl sv pd cd st le ap pl wy) H) (hJ : zInj 9 g) (hS : va_S (zIn 9 g) H0 H locs) (hk : k < 258) (hdg : decode cc pc = .ok (.iastore, 1))
    (kk : ∀ (H1 : Heap) (locs1 : List Loc), va_P V.1 vwCl (zmW V g w pa (upd be k x) av sl sv pd cd st le ap pl wy) H1 → va_S (zIn 9 g) H0 H1 locs1 → W p l e R s m args below meth c H1 locs1 cells slots Q (F0 m (pc + 1) ls rest)) : W p l e R s m args below meth c H locs cells slots Q (F0 m pc ls (.int x :: .int (nI k) :: .ref (g 3) :: rest)) :=
  z_iast hx hb hE hP (zD hJ) hS 3 (zm_c3 V g w pa be av sl sv pd cd st le ap pl wy) hk (by decide) hdg (fun H1 locs1 h1 h3 => kk H1 locs1 (by rw [zm_s3] at h1; exact h1) h3)
theorem zm_a4 {V : zV} {g : Nat → Nat} {w pa be av sl sv pd cd : Nat → Int32} {st le ap pl wy : Int32} (k : Nat) (x : Int32) (hx : p.tables.exec = Jvm.exec) (hb : c.code = cc) (hE : zE V s) (hP : va_P V.1 vwCl (zmW V g w pa be av sl sv pd cd st le ap pl wy) H) (hJ : zInj 9 g) (hS : va_S (zIn 9 g) H0 H locs) (hk : k < 258) (hdg : decode cc pc = .ok (.iastore, 1))
    (kk : ∀ (H1 : Heap) (locs1 : List Loc), va_P V.1 vwCl (zmW V g w pa be (upd av k x) sl sv pd cd st le ap pl wy) H1 → va_S (zIn 9 g) H0 H1 locs1 → W p l e R s m args below meth c H1 locs1 cells slots Q (F0 m (pc + 1) ls rest)) : W p l e R s m args below meth c H locs cells slots Q (F0 m pc ls (.int x :: .int (nI k) :: .ref (g 4) :: rest)) :=
  z_iast hx hb hE hP (zD hJ) hS 4 (zm_c4 V g w pa be av sl sv pd cd st le ap pl wy) hk (by decide) hdg (fun H1 locs1 h1 h3 => kk H1 locs1 (by rw [zm_s4] at h1; exact h1) h3)
theorem zm_a5 {V : zV} {g : Nat → Nat} {w pa be av sl sv pd cd : Nat → Int32} {st le ap pl wy : Int32} (k : Nat) (x : Int32) (hx : p.tables.exec = Jvm.exec) (hb : c.code = cc) (hE : zE V s) (hP : va_P V.1 vwCl (zmW V g w pa be av sl sv pd cd st le ap pl wy) H) (hJ : zInj 9 g) (hS : va_S (zIn 9 g) H0 H locs) (hk : k < 516) (hdg : decode cc pc = .ok (.iastore, 1))
    (kk : ∀ (H1 : Heap) (locs1 : List Loc), va_P V.1 vwCl (zmW V g w pa be av (upd sl k x) sv pd cd st le ap pl wy) H1 → va_S (zIn 9 g) H0 H1 locs1 → W p l e R s m args below meth c H1 locs1 cells slots Q (F0 m (pc + 1) ls rest)) : W p l e R s m args below meth c H locs cells slots Q (F0 m pc ls (.int x :: .int (nI k) :: .ref (g 5) :: rest)) :=
  z_iast hx hb hE hP (zD hJ) hS 5 (zm_c5 V g w pa be av sl sv pd cd st le ap pl wy) hk (by decide) hdg (fun H1 locs1 h1 h3 => kk H1 locs1 (by rw [zm_s5] at h1; exact h1) h3)
theorem zm_a6 {V : zV} {g : Nat → Nat} {w pa be av sl sv pd cd : Nat → Int32} {st le ap pl wy : Int32} (k : Nat) (x : Int32) (hx : p.tables.exec = Jvm.exec) (hb : c.code = cc) (hE : zE V s) (hP : va_P V.1 vwCl (zmW V g w pa be av sl sv pd cd st le ap pl wy) H) (hJ : zInj 9 g) (hS : va_S (zIn 9 g) H0 H locs) (hz : vp_nar .boolean x = x) (hk : k < 2) (hdg : decode cc pc = .ok (.bastore, 1))
    (kk : ∀ (H1 : Heap) (locs1 : List Loc), va_P V.1 vwCl (zmW V g w pa be av sl (upd sv k x) pd cd st le ap pl wy) H1 → va_S (zIn 9 g) H0 H1 locs1 → W p l e R s m args below meth c H1 locs1 cells slots Q (F0 m (pc + 1) ls rest)) : W p l e R s m args below meth c H locs cells slots Q (F0 m pc ls (.int x :: .int (nI k) :: .ref (g 6) :: rest)) :=
  z_zast hx hb hE hP (zD hJ) hS 6 (zm_c6 V g w pa be av sl sv pd cd st le ap pl wy) hz hk (by decide) hdg (fun H1 locs1 h1 h3 => kk H1 locs1 (by rw [zm_s6] at h1; exact h1) h3)
theorem zm_a7 {V : zV} {g : Nat → Nat} {w pa be av sl sv pd cd : Nat → Int32} {st le ap pl wy : Int32} (k : Nat) (x : Int32) (hx : p.tables.exec = Jvm.exec) (hb : c.code = cc) (hE : zE V s) (hP : va_P V.1 vwCl (zmW V g w pa be av sl sv pd cd st le ap pl wy) H) (hJ : zInj 9 g) (hS : va_S (zIn 9 g) H0 H locs) (hk : k < 80) (hdg : decode cc pc = .ok (.iastore, 1))
    (kk : ∀ (H1 : Heap) (locs1 : List Loc), va_P V.1 vwCl (zmW V g w pa be av sl sv (upd pd k x) cd st le ap pl wy) H1 → va_S (zIn 9 g) H0 H1 locs1 → W p l e R s m args below meth c H1 locs1 cells slots Q (F0 m (pc + 1) ls rest)) : W p l e R s m args below meth c H locs cells slots Q (F0 m pc ls (.int x :: .int (nI k) :: .ref (g 7) :: rest)) :=
  z_iast hx hb hE hP (zD hJ) hS 7 (zm_c7 V g w pa be av sl sv pd cd st le ap pl wy) hk (by decide) hdg (fun H1 locs1 h1 h3 => kk H1 locs1 (by rw [zm_s7] at h1; exact h1) h3)
theorem zm_a8 {V : zV} {g : Nat → Nat} {w pa be av sl sv pd cd : Nat → Int32} {st le ap pl wy : Int32} (k : Nat) (x : Int32) (hx : p.tables.exec = Jvm.exec) (hb : c.code = cc) (hE : zE V s) (hP : va_P V.1 vwCl (zmW V g w pa be av sl sv pd cd st le ap pl wy) H) (hJ : zInj 9 g) (hS : va_S (zIn 9 g) H0 H locs) (hk : k < 8) (hdg : decode cc pc = .ok (.iastore, 1))
    (kk : ∀ (H1 : Heap) (locs1 : List Loc), va_P V.1 vwCl (zmW V g w pa be av sl sv pd (upd cd k x) st le ap pl wy) H1 → va_S (zIn 9 g) H0 H1 locs1 → W p l e R s m args below meth c H1 locs1 cells slots Q (F0 m (pc + 1) ls rest)) : W p l e R s m args below meth c H locs cells slots Q (F0 m pc ls (.int x :: .int (nI k) :: .ref (g 8) :: rest)) :=
  z_iast hx hb hE hP (zD hJ) hS 8 (zm_c8 V g w pa be av sl sv pd cd st le ap pl wy) hk (by decide) hdg (fun H1 locs1 h1 h3 => kk H1 locs1 (by rw [zm_s8] at h1; exact h1) h3)
end ZM
-- what the model computes, as functions of its row
def zF (w : Nat → Int32) (k f : Nat) : Int32 := w (78 + 6 * k + f)
def zoI : Option Nat → Int32
  | none => -6
  | some k => nI k
def zFirst (p : Nat → Bool) : Nat → Option Nat
  | 0 => none
  | n + 1 => match zFirst p n with
    | some k => some k
    | none => if p n then some n else none
def zCnt (p : Nat → Bool) : Nat → Nat
  | 0 => 0
  | n + 1 => zCnt p n + (if p n then 1 else 0)
def zBest (can : Nat → Bool) (lt : Nat → Nat → Bool) : Nat → Option Nat
  | 0 => none
  | n + 1 => match zBest can lt n with
    | none => if can n then some n else none
    | some b => if can n && lt n b then some n else some b
theorem zFirst_no {p : Nat → Bool} {i : Nat} (h : zFirst p i = none) (hp : p i = false) : zFirst p (i + 1) = none := by simp [zFirst, h, hp]
theorem zFirst_hit {p : Nat → Bool} {i : Nat} (h : zFirst p i = none) (hp : p i = true) {n : Nat} (hn : i < n) : zFirst p n = some i := by
  induction n with
  | zero => omega
  | succ n ih =>
    rcases Nat.lt_or_ge i n with q | q
    · simp [zFirst, ih q]
    · have : i = n := by omega
      subst this
      simp [zFirst, h, hp]
theorem zFirst_lt {p : Nat → Bool} {n k : Nat} (h : zFirst p n = some k) : k < n ∧ p k = true ∧ ∀ j, j < k → p j = false := by
  induction n with
  | zero => simp [zFirst] at h
  | succ n ih =>
    cases hz : zFirst p n with
    | some j =>
      simp only [zFirst, hz] at h
      obtain ⟨h1, h2⟩ := ih (hz.trans h)
      exact ⟨Nat.lt_succ_of_lt h1, h2⟩
    | none =>
      have hno : ∀ (i : Nat), zFirst p i = none → ∀ j, j < i → p j = false := by
        intro i
        induction i with
        | zero => intro _ j hj; omega
        | succ i ih2 =>
          intro hi j hj
          cases hzi : zFirst p i with
          | some q => simp [zFirst, hzi] at hi
          | none =>
            have hpi : p i = false := by
              cases hpi : p i with
              | true => simp [zFirst, hzi, hpi] at hi
              | false => rfl
            rcases Nat.lt_or_ge j i with q | q
            · exact ih2 hzi j q
            · have : j = i := by omega
              rw [this]; exact hpi
      simp only [zFirst, hz] at h
      cases hp : p n with
      | true =>
        simp only [hp, if_true] at h
        have e := Option.some.inj h
        rw [← e]
        exact ⟨Nat.lt_succ_self _, hp, hno n hz⟩
      | false => simp [hp] at h
theorem zFirst_none {p : Nat → Bool} {n : Nat} : zFirst p n = none ↔ ∀ j, j < n → p j = false := by
  induction n with
  | zero => simp [zFirst]
  | succ n ih =>
    constructor
    · intro h j hj
      cases hz : zFirst p n with
      | some q => simp [zFirst, hz] at h
      | none =>
        have hpn : p n = false := by
          cases hpn : p n with
          | true => simp [zFirst, hz, hpn] at h
          | false => rfl
        rcases Nat.lt_or_ge j n with q | q
        · exact ih.mp hz j q
        · have : j = n := by omega
          rw [this]; exact hpn
    · intro h
      exact zFirst_no (ih.mpr (fun j hj => h j (by omega))) (h n (by omega))
theorem zCnt_le (p : Nat → Bool) (n : Nat) : zCnt p n ≤ n := by
  induction n with
  | zero => exact Nat.le_refl 0
  | succ n ih => simp only [zCnt]; split <;> omega
theorem zBest_lt {can : Nat → Bool} {lt : Nat → Nat → Bool} {n k : Nat} (h : zBest can lt n = some k) : k < n ∧ can k = true := by
  induction n generalizing k with
  | zero => simp [zBest] at h
  | succ n ih =>
    cases hz : zBest can lt n with
    | none =>
      simp only [zBest, hz] at h
      split at h
      · have e := Option.some.inj h
        rw [← e]
        exact ⟨Nat.lt_succ_self _, by assumption⟩
      · cases h
    | some b =>
      simp only [zBest, hz] at h
      split at h
      · rename_i hc
        have e := Option.some.inj h
        rw [← e]
        rw [Bool.and_eq_true] at hc
        exact ⟨Nat.lt_succ_self _, hc.1⟩
      · have e := Option.some.inj h
        rw [← e]
        exact ⟨Nat.lt_succ_of_lt (ih hz).1, (ih hz).2⟩
theorem zBest_none {can : Nat → Bool} {lt : Nat → Nat → Bool} {n : Nat} : zBest can lt n = none ↔ ∀ j, j < n → can j = false := by
  induction n with
  | zero => simp [zBest]
  | succ n ih =>
    constructor
    · intro h j hj
      cases hz : zBest can lt n with
      | some b =>
        simp only [zBest, hz] at h
        split at h <;> cases h
      | none =>
        have hcn : can n = false := by
          cases hcn : can n with
          | true => simp [zBest, hz, hcn] at h
          | false => rfl
        rcases Nat.lt_or_ge j n with q | q
        · exact ih.mp hz j q
        · have : j = n := by omega
          rw [this]; exact hcn
    · intro h
      have h1 := ih.mpr (fun j hj => h j (by omega))
      simp [zBest, h1, h n (by omega)]
def mFind (w : Nat → Int32) (n : Nat) (x : Int32) : Option Nat := zFirst (fun k => decide (zF w k 0 = x)) n
def mMany (w : Nat → Int32) (n : Nat) (x : Int32) : Nat := zCnt (fun k => decide (zF w k 1 = x)) n
def mLow (w : Nat → Int32) (n : Nat) (wr fr : Int32) : Option Nat := zBest (fun k => decide (zF w k 1 = wr ∧ fr ≤ zF w k 2)) (fun a b => decide (zF w a 2 < zF w b 2)) n
def mOld (w : Nat → Int32) (n : Nat) (wr : Int32) : Option Nat := zBest (fun k => decide (zF w k 1 = wr)) (fun a b => decide (zF w a 4 < zF w b 4)) n
def mLast (w : Nat → Int32) (k : Nat) : Int32 := zF w k 2 + zF w k 3 - 1
def mFar (a b : Int32) : Int32 := if a < b then b - a else a - b
def mPart (w : Nat → Int32) (n : Nat) (wr d m : Int32) : Option Nat := zFirst (fun k => decide (zF w k 1 = wr ∧ mLast w k = d - 1 ∧ zF w k 3 + m ≤ 9)) n
def mIsOld (w : Nat → Int32) (k : Nat) : Prop := w (zF w k 1).toNatClampNeg ≤ w 6 - zF w k 4
def mNext (w : Nat → Int32) (n : Nat) : Int32 := if mMany w n 1 = n then 1 else if mMany w n 1 = 0 then 0 else if w 3 ≤ w 15 then 1 else 0
def mMinute (w : Nat → Int32) (k : Nat) : Int32 := w 6 + w 4 * mFar (zF w k 2) (w 9) + w 5 * zF w k 3
def mRank (w : Nat → Int32) (n k : Nat) : Nat := zCnt (fun x => decide (zF w x 1 = zF w k 1 ∧ (zF w x 2 < zF w k 2 ∨ (zF w x 2 = zF w k 2 ∧ x < k)))) n
abbrev mIn (x a b : Int32) : Prop := a ≤ x ∧ x ≤ b
abbrev mSlip (a d m : Int32) : Prop := (0 ≤ a ∧ a ≤ 1) ∧ (0 ≤ d ∧ d ≤ 99) ∧ (1 ≤ m ∧ m ≤ 9) ∧ d + m ≤ 100
end
section
theorem z_lc (x a : Int32) : (lg_cmp x.toInt64 a.toInt64 < 0 ↔ x < a) ∧ (0 < lg_cmp x.toInt64 a.toInt64 ↔ a < x) := by
  have e1 : x.toInt64.toInt = x.toInt := Int32.toInt_toInt64 x
  have e2 : a.toInt64.toInt = a.toInt := Int32.toInt_toInt64 a
  have h1 : (x.toInt64 > a.toInt64) ↔ a < x := by
    show a.toInt64 < x.toInt64 ↔ _
    rw [Int64.lt_iff_toInt_lt, Int32.lt_iff_toInt_lt, e1, e2]
  have h2 : (x.toInt64 = a.toInt64) ↔ x = a := by
    rw [← Int64.toInt_inj, ← Int32.toInt_inj, e1, e2]
  unfold lg_cmp
  by_cases g1 : a < x
  · rw [if_pos (h1.mpr g1)]
    refine ⟨⟨fun h => absurd h (by decide), fun h => ?_⟩, ⟨fun _ => g1, fun _ => by decide⟩⟩
    exact absurd h (by rw [Int32.lt_iff_toInt_lt] at g1 ⊢; omega)
  · rw [if_neg (fun h => g1 (h1.mp h))]
    by_cases g2 : x = a
    · rw [if_pos (h2.mpr g2)]
      refine ⟨⟨fun h => absurd h (by decide), fun h => ?_⟩, ⟨fun h => absurd h (by decide), fun h => absurd h g1⟩⟩
      rw [g2, Int32.lt_iff_toInt_lt] at h
      omega
    · rw [if_neg (fun h => g2 (h2.mp h))]
      refine ⟨⟨fun _ => ?_, fun _ => by decide⟩, ⟨fun h => absurd h (by decide), fun h => absurd h g1⟩⟩
      rw [Int32.lt_iff_toInt_lt] at g1 ⊢
      have g3 : x.toInt ≠ a.toInt := fun h => g2 (Int32.toInt_inj.mp h)
      omega
theorem z_nlt {a b : Int32} (h : ¬ a < b) : b ≤ a := by rw [Int32.lt_iff_toInt_lt] at h; rw [Int32.le_iff_toInt_le]; omega
theorem z_nle {a b : Int32} (h : ¬ a ≤ b) : b < a := by rw [Int32.le_iff_toInt_le] at h; rw [Int32.lt_iff_toInt_lt]; omega
theorem z_lt' {a b : Int32} (h : a < b) : ¬ b ≤ a := by rw [Int32.lt_iff_toInt_lt] at h; rw [Int32.le_iff_toInt_le]; omega
theorem z_le' {a b : Int32} (h : a ≤ b) : ¬ b < a := by rw [Int32.le_iff_toInt_le] at h; rw [Int32.lt_iff_toInt_lt]; omega
theorem z_in1 {x a b : Int32} (h1 : ¬ lg_cmp x.toInt64 a.toInt64 < 0) (h2 : ¬ 0 < lg_cmp x.toInt64 b.toInt64) : a ≤ x ∧ x ≤ b := ⟨z_nlt (fun h => h1 ((z_lc x a).1.mpr h)), z_nlt (fun h => h2 ((z_lc x b).2.mpr h))⟩
theorem z_in2 {x a b : Int32} (h1 : lg_cmp x.toInt64 a.toInt64 < 0) : ¬ (a ≤ x ∧ x ≤ b) := fun h => z_lt' ((z_lc x a).1.mp h1) h.1
theorem z_in3 {x a b : Int32} (h1 : 0 < lg_cmp x.toInt64 b.toInt64) : ¬ (a ≤ x ∧ x ≤ b) := fun h => z_lt' ((z_lc x b).2.mp h1) h.2
theorem z_n6 {b : Nat} (h : b < 2 ^ 31) : ¬ nI b = -6 := by
  intro e
  have h1 := congrArg Int32.toInt e
  rw [nI_toInt h] at h1
  have h2 : ((-6 : Int32)).toInt = -6 := by decide
  omega
theorem z_01 {x : Int32} (h : x = 0 ∨ x = 1) : ∃ j : Nat, j < 2 ∧ x = nI j := by
  rcases h with rfl | rfl
  · exact ⟨0, by decide, rfl⟩
  · exact ⟨1, by decide, rfl⟩
set_option maxHeartbeats 4000000 in
set_option maxRecDepth 100000 in
theorem c_X8_its (l : Launch) (V : zV) (g : Nat → Nat) (w pa be av sl sv pd cd : Nat → Int32) (st le ap pl wy : Int32) (k f : Nat) (hk : 78 + 6 * k + f < 258) : Met l yX8_its wsX8_its (zR 0 0 0) (zPc V [.ref (g 0), .int (nI k), .int (nI f)] (fun H => va_P V.1 vwCl (zmW V g w pa be av sl sv pd cd st le ap pl wy) H)) (vp_Si (fun r => r = (zF w k f))) 0 0 (fun _ => False) := by
  refine Met.ofW (cc := cX8_its) (maxL := 3) (ret := (some .int)) (by decide) rfl ?_
  intro p e s m args below meth c s₁ B hml hv
  obtain ⟨rfl, hP, hE⟩ := hv
  have hx := B.exec
  have hb := B.bytes
  have hr := B.returns
  have hts := atoms_spec (ws := wsX8_its) B.pre
  have hown : s.vm.findClass RX8 = some m.cls := findClass_of_methodNamed B.named
  have hlocks := B.notSynchronized
  have hl := lv_entry ([.ref (g 0), .int (nI k), .int (nI f)]) (n := 3) (Nat.le_of_ble_eq_true rfl)
  rw [lg_entry_eq]
  generalize (lg_sl ([.ref (g 0), .int (nI k), .int (nI f)]) ++ List.replicate (3 - (lg_sl ([.ref (g 0), .int (nI k), .int (nI f)])).length) Slot.unset).toArray = ls at hl ⊢
  have hl : lv_has ls 3 [(0, .ref (g 0)), (1, .int (nI k)), (2, .int (nI f))] := hl
  refine lv_aload_n hx hb dX8_its_0 rfl (lv_at hl 0 rfl) ?_
  refine zm_get 0 (.ref (g 1)) hx hb hts (fun x h => List.mem_cons_of_mem _ (hU_X8 x h)) hown hE hP (by decide) rfl (hts _ (List.mem_cons_of_mem _ uM_5)) (fun _ h9 => h9) dX8_its_1 ?_
  refine lv_bipush (v := 78) hx hb dX8_its_4 (by decide +kernel) ?_
  refine lv_bipush (v := 6) hx hb dX8_its_6 (by decide +kernel) ?_
  refine lv_iload_n hx hb dX8_its_8 rfl (lv_at hl 1 rfl) ?_
  refine lv_imul hx hb dX8_its_9 ?_
  refine zt_i (z_mul (a := 6) (b := k) (by first | rfl | omega)) ?_
  refine lv_iadd hx hb dX8_its_10 ?_
  refine zt_i (z_add (a := 78) (b := 6 * k) (by first | rfl | omega)) ?_
  refine lv_iload_n hx hb dX8_its_11 rfl (lv_at hl 2 rfl) ?_
  refine lv_iadd hx hb dX8_its_12 ?_
  refine zt_i (z_add (a := 78 + 6 * k) (b := f) (by first | rfl | omega)) ?_
  refine z_iald (k := 78 + 6 * k + f) hx hb hE hP 1 (zm_c1 V g w pa be av sl sv pd cd st le ap pl wy) (by omega) (by decide) dX8_its_13 ?_
  exact zr_si hx hb hr hlocks (by rfl) dX8_its_14
set_option maxHeartbeats 4000000 in
set_option maxRecDepth 100000 in
theorem c_X8_in (l : Launch) (V : zV) (x a b : Int32) : Met l yX8_in wsX8_in (zR 0 0 0) (zPc V [.long x.toInt64, .int a, .int b] (fun H => True)) (vp_Si (fun r => r = (if a ≤ x ∧ x ≤ b then 1 else 0))) 0 0 (fun _ => False) := by
  refine Met.ofW (cc := cX8_in) (maxL := 4) (ret := (some .boolean)) (by decide) rfl ?_
  intro p e s m args below meth c s₁ B hml hv
  obtain ⟨rfl, hP, hE⟩ := hv
  have hx := B.exec
  have hb := B.bytes
  have hr := B.returns
  have hts := atoms_spec (ws := wsX8_in) B.pre
  have hown : s.vm.findClass RX8 = some m.cls := findClass_of_methodNamed B.named
  have hlocks := B.notSynchronized
  have hl := lv_entry ([.long x.toInt64, .int a, .int b]) (n := 4) (Nat.le_of_ble_eq_true rfl)
  rw [lg_entry_eq]
  generalize (lg_sl ([.long x.toInt64, .int a, .int b]) ++ List.replicate (4 - (lg_sl ([.long x.toInt64, .int a, .int b])).length) Slot.unset).toArray = ls at hl ⊢
  have hl : lv_has ls 4 [(0, .long x.toInt64), (2, .int a), (3, .int b)] := hl
  refine lv_lload_n hx hb dX8_in_0 rfl (lv_at hl 0 rfl) ?_
  refine lv_iload_n hx hb dX8_in_1 rfl (lv_at hl 1 rfl) ?_
  refine lv_i2l (v := a.toInt64) hx hb dX8_in_2 rfl ?_
  refine W.lcmp hx hb dX8_in_3 ?_
  refine lv_if_lt (tgt := 18) hx hb dX8_in_4 (by decide) (fun c_4 => ?_) (fun c_4 => ?_)
  · refine lv_iconst (v := 0) hx hb dX8_in_18 (by decide +kernel) ?_
    exact zr_sz hx hb hr hlocks (by first | exact Or.inl rfl | exact Or.inr rfl | assumption) (by first | (rw [if_pos (z_in1 c_4 c_11)]) | (rw [if_neg (z_in2 c_4)]) | (rw [if_neg (z_in3 c_11)])) dX8_in_19
  · refine lv_lload_n hx hb dX8_in_7 rfl (lv_at hl 0 rfl) ?_
    refine lv_iload_n hx hb dX8_in_8 rfl (lv_at hl 2 rfl) ?_
    refine lv_i2l (v := b.toInt64) hx hb dX8_in_9 rfl ?_
    refine W.lcmp hx hb dX8_in_10 ?_
    refine lv_if_gt (tgt := 18) hx hb dX8_in_11 (by decide) (fun c_11 => ?_) (fun c_11 => ?_)
    · refine lv_iconst (v := 0) hx hb dX8_in_18 (by decide +kernel) ?_
      exact zr_sz hx hb hr hlocks (by first | exact Or.inl rfl | exact Or.inr rfl | assumption) (by first | (rw [if_pos (z_in1 c_4 c_11)]) | (rw [if_neg (z_in2 c_4)]) | (rw [if_neg (z_in3 c_11)])) dX8_in_19
    · refine lv_iconst (v := 1) hx hb dX8_in_14 (by decide +kernel) ?_
      refine lv_goto (tgt := 19) hx hb dX8_in_15 (by decide) ?_
      exact zr_sz hx hb hr hlocks (by first | exact Or.inl rfl | exact Or.inr rfl | assumption) (by first | (rw [if_pos (z_in1 c_4 c_11)]) | (rw [if_neg (z_in2 c_4)]) | (rw [if_neg (z_in3 c_11)])) dX8_in_19
set_option maxHeartbeats 4000000 in
set_option maxRecDepth 100000 in
theorem c_X8_far (l : Launch) (V : zV) (a b : Int32) : Met l yX8_far wsX8_far (zR 0 0 0) (zPc V [.int a, .int b] (fun H => True)) (vp_Si (fun r => r = (mFar a b))) 0 0 (fun _ => False) := by
  refine Met.ofW (cc := cX8_far) (maxL := 2) (ret := (some .int)) (by decide) rfl ?_
  intro p e s m args below meth c s₁ B hml hv
  obtain ⟨rfl, hP, hE⟩ := hv
  have hx := B.exec
  have hb := B.bytes
  have hr := B.returns
  have hts := atoms_spec (ws := wsX8_far) B.pre
  have hown : s.vm.findClass RX8 = some m.cls := findClass_of_methodNamed B.named
  have hlocks := B.notSynchronized
  have hl := lv_entry ([.int a, .int b]) (n := 2) (Nat.le_of_ble_eq_true rfl)
  rw [lg_entry_eq]
  generalize (lg_sl ([.int a, .int b]) ++ List.replicate (2 - (lg_sl ([.int a, .int b])).length) Slot.unset).toArray = ls at hl ⊢
  have hl : lv_has ls 2 [(0, .int a), (1, .int b)] := hl
  refine lv_iload_n hx hb dX8_far_0 rfl (lv_at hl 0 rfl) ?_
  refine lv_iload_n hx hb dX8_far_1 rfl (lv_at hl 1 rfl) ?_
  refine lv_icmp_ge (tgt := 11) hx hb dX8_far_2 (by decide) (fun c_2 => ?_) (fun c_2 => ?_)
  · refine lv_iload_n hx hb dX8_far_11 rfl (lv_at hl 0 rfl) ?_
    refine lv_iload_n hx hb dX8_far_12 rfl (lv_at hl 1 rfl) ?_
    refine lv_isub hx hb dX8_far_13 ?_
    exact zr_si hx hb hr hlocks (by first | exact (if_neg (z_le' c_2)).symm | exact (if_pos (z_nle c_2)).symm) dX8_far_14
  · refine lv_iload_n hx hb dX8_far_5 rfl (lv_at hl 1 rfl) ?_
    refine lv_iload_n hx hb dX8_far_6 rfl (lv_at hl 0 rfl) ?_
    refine lv_isub hx hb dX8_far_7 ?_
    refine lv_goto (tgt := 14) hx hb dX8_far_8 (by decide) ?_
    exact zr_si hx hb hr hlocks (by first | exact (if_neg (z_le' c_2)).symm | exact (if_pos (z_nle c_2)).symm) dX8_far_14
set_option maxHeartbeats 4000000 in
set_option maxRecDepth 100000 in
theorem c_X8_lastOf (l : Launch) (V : zV) (g : Nat → Nat) (w pa be av sl sv pd cd : Nat → Int32) (st le ap pl wy : Int32) (k : Nat) (hk : k < 30) : Met l yX8_lastOf wsX8_lastOf (zR 1 0 0) (zPc V [.ref (g 0), .int (nI k)] (fun H => va_P V.1 vwCl (zmW V g w pa be av sl sv pd cd st le ap pl wy) H)) (vp_Si (fun r => r = (mLast w k))) 0 0 (fun _ => False) := by
  refine Met.ofW (cc := cX8_lastOf) (maxL := 2) (ret := (some .int)) (by decide) rfl ?_
  intro p e s m args below meth c s₁ B hml hv
  obtain ⟨rfl, hP, hE⟩ := hv
  have hx := B.exec
  have hb := B.bytes
  have hr := B.returns
  have hts := atoms_spec (ws := wsX8_lastOf) B.pre
  have hown : s.vm.findClass RX8 = some m.cls := findClass_of_methodNamed B.named
  have hlocks := B.notSynchronized
  have hl := lv_entry ([.ref (g 0), .int (nI k)]) (n := 2) (Nat.le_of_ble_eq_true rfl)
  rw [lg_entry_eq]
  generalize (lg_sl ([.ref (g 0), .int (nI k)]) ++ List.replicate (2 - (lg_sl ([.ref (g 0), .int (nI k)])).length) Slot.unset).toArray = ls at hl ⊢
  have hl : lv_has ls 2 [(0, .ref (g 0)), (1, .int (nI k))] := hl
  refine lv_aload_n hx hb dX8_lastOf_0 rfl (lv_at hl 0 rfl) ?_
  refine lv_iload_n hx hb dX8_lastOf_1 rfl (lv_at hl 1 rfl) ?_
  refine lv_iconst (v := 2) hx hb dX8_lastOf_2 (by decide +kernel) ?_
  refine zc_se (va_runV (As := [.int (nI k), .int 2]) (rest := []) ⟨hx, hb, hml, hown, hts⟩ (c_X8_its l V g w pa be av sl sv pd cd st le ap pl wy k 2 (by omega)) (cwV 2 hts (zgV_ wsM_all uM_16 uM_18 uM_19 uM_20 uM_21) rfl rfl rfl (by decide +kernel) ⟨Nat.le_of_ble_eq_true rfl, Nat.le_of_ble_eq_true rfl⟩) (zPreV (B := fun H => va_P V.1 vwCl (zmW V g w pa be av sl sv pd cd st le ap pl wy) H) hP hE (va_recv hE.1 hP (ci := 8) (q0 := 0) (q := (RX8, TX8, 13)) rfl (zm_c0 V g w pa be av sl sv pd cd st le ap pl wy))) rfl rfl hl.1 rfl (lv_room (Nat.le_of_ble_eq_true rfl)) dX8_lastOf_3 ⟨Nat.le_of_ble_eq_true rfl, Nat.le_of_ble_eq_true rfl⟩) ?_
  refine lv_aload_n hx hb dX8_lastOf_6 rfl (lv_at hl 0 rfl) ?_
  refine lv_iload_n hx hb dX8_lastOf_7 rfl (lv_at hl 1 rfl) ?_
  refine lv_iconst (v := 3) hx hb dX8_lastOf_8 (by decide +kernel) ?_
  refine zc_se (va_runV (As := [.int (nI k), .int 3]) (rest := [.int (zF w k 2)]) ⟨hx, hb, hml, hown, hts⟩ (c_X8_its l V g w pa be av sl sv pd cd st le ap pl wy k 3 (by omega)) (cwV 2 hts (zgV_ wsM_all uM_16 uM_18 uM_19 uM_20 uM_21) rfl rfl rfl (by decide +kernel) ⟨Nat.le_of_ble_eq_true rfl, Nat.le_of_ble_eq_true rfl⟩) (zPreV (B := fun H => va_P V.1 vwCl (zmW V g w pa be av sl sv pd cd st le ap pl wy) H) hP hE (va_recv hE.1 hP (ci := 8) (q0 := 0) (q := (RX8, TX8, 13)) rfl (zm_c0 V g w pa be av sl sv pd cd st le ap pl wy))) rfl rfl hl.1 rfl (lv_room (Nat.le_of_ble_eq_true rfl)) dX8_lastOf_9 ⟨Nat.le_of_ble_eq_true rfl, Nat.le_of_ble_eq_true rfl⟩) ?_
  refine lv_iadd hx hb dX8_lastOf_12 ?_
  refine lv_iconst (v := 1) hx hb dX8_lastOf_13 (by decide +kernel) ?_
  refine lv_isub hx hb dX8_lastOf_14 ?_
  exact zr_si hx hb hr hlocks (by rfl) dX8_lastOf_15
set_option maxHeartbeats 4000000 in
set_option maxRecDepth 100000 in
theorem c_X8_find (l : Launch) (V : zV) (g : Nat → Nat) (w pa be av sl sv pd cd : Nat → Int32) (st le ap pl wy : Int32) (n : Nat) (x : Int32) (hn : w 7 = nI n) (h30 : n ≤ 30) : Met l yX8_find wsX8_find (zR 1 0 0) (zPc V [.ref (g 0), .int x] (fun H => va_P V.1 vwCl (zmW V g w pa be av sl sv pd cd st le ap pl wy) H)) (vp_Si (fun r => r = (zoI (mFind w n x)))) 0 0 (fun _ => False) := by
  refine Met.ofW (cc := cX8_find) (maxL := 3) (ret := (some .int)) (by decide) rfl ?_
  intro p e s m args below meth c s₁ B hml hv
  obtain ⟨rfl, hP, hE⟩ := hv
  have hx := B.exec
  have hb := B.bytes
  have hr := B.returns
  have hts := atoms_spec (ws := wsX8_find) B.pre
  have hown : s.vm.findClass RX8 = some m.cls := findClass_of_methodNamed B.named
  have hlocks := B.notSynchronized
  have hl := lv_entry ([.ref (g 0), .int x]) (n := 3) (Nat.le_of_ble_eq_true rfl)
  rw [lg_entry_eq]
  generalize (lg_sl ([.ref (g 0), .int x]) ++ List.replicate (3 - (lg_sl ([.ref (g 0), .int x])).length) Slot.unset).toArray = ls at hl ⊢
  have hl : lv_has ls 3 [(0, .ref (g 0)), (1, .int x)] := hl
  refine lv_iconst (v := 0) hx hb dX8_find_0 (by decide +kernel) ?_
  refine lv_istore_n (lv' := [(2, .int 0), (0, .ref (g 0)), (1, .int x)]) hx hb dX8_find_1 rfl hl (by decide) rfl (fun ls hl => ?_)
  have L_2 : ∀ (n_ i : Nat) (ls : Array Slot), i ≤ n → n + 1 ≤ i + n_ → (mFind w i x = none) → lv_has ls 3 [(2, .int (nI i)), (0, .ref (g 0)), (1, .int x)] → W p l e (headSpec wsX8_find (zR 1 0 0)).room s m (List.toArray [.ref (g 0), .int x]) below meth c s.heap [] 0 0 (MQ below (vp_Si (fun r => r = (zoI (mFind w n x)))) (List.toArray [.ref (g 0), .int x]) s 0 0 (fun _ => False)) (F0 m 2 ls []) := by
    intro n_
    induction n_ with
    | zero => intro i   ls hi_ hn_; exact absurd hn_ (by omega)
    | succ n_ ih =>
      intro i   ls hi_ hn_ hno  hl
      refine lv_iload_n hx hb dX8_find_2 rfl (lv_at hl 0 rfl) ?_
      refine lv_aload_n hx hb dX8_find_3 rfl (lv_at hl 1 rfl) ?_
      refine zm_get 0 (.ref (g 1)) hx hb hts (fun x h => List.mem_cons_of_mem _ (hU_X8 x h)) hown hE hP (by decide) rfl (hts _ (List.mem_cons_of_mem _ uM_5)) (fun _ h9 => h9) dX8_find_4 ?_
      refine lv_bipush (v := 7) hx hb dX8_find_7 (by decide +kernel) ?_
      refine z_iald (k := 7) hx hb hE hP 1 (zm_c1 V g w pa be av sl sv pd cd st le ap pl wy) (by omega) (by decide) dX8_find_9 ?_
      refine zt_i hn ?_
      refine zb_ge (x := i) (y := n) (tgt := 31) hx hb dX8_find_10 (by decide) (by omega) (by omega) (fun c_10 => ?_) (fun c_10 => ?_)
      · refine lv_bipush (v := (-6)) hx hb dX8_find_31 (by decide +kernel) ?_
        exact zr_si hx hb hr hlocks (by rw [show n = i by omega, hno]; rfl) dX8_find_33
      · refine lv_aload_n hx hb dX8_find_13 rfl (lv_at hl 1 rfl) ?_
        refine lv_iload_n hx hb dX8_find_14 rfl (lv_at hl 0 rfl) ?_
        refine lv_iconst (v := 0) hx hb dX8_find_15 (by decide +kernel) ?_
        refine zc_se (va_runV (As := [.int (nI i), .int 0]) (rest := []) ⟨hx, hb, hml, hown, hts⟩ (c_X8_its l V g w pa be av sl sv pd cd st le ap pl wy i 0 (by omega)) (cwV 2 hts (zgV_ wsM_all uM_16 uM_18 uM_19 uM_20 uM_21) rfl rfl rfl (by decide +kernel) ⟨Nat.le_of_ble_eq_true rfl, Nat.le_of_ble_eq_true rfl⟩) (zPreV (B := fun H => va_P V.1 vwCl (zmW V g w pa be av sl sv pd cd st le ap pl wy) H) hP hE (va_recv hE.1 hP (ci := 8) (q0 := 0) (q := (RX8, TX8, 13)) rfl (zm_c0 V g w pa be av sl sv pd cd st le ap pl wy))) rfl rfl hl.1 rfl (lv_room (Nat.le_of_ble_eq_true rfl)) dX8_find_16 ⟨Nat.le_of_ble_eq_true rfl, Nat.le_of_ble_eq_true rfl⟩) ?_
        refine lv_iload_n hx hb dX8_find_19 rfl (lv_at hl 2 rfl) ?_
        refine lv_icmp_ne (tgt := 25) hx hb dX8_find_20 (by decide) (fun c_20 => ?_) (fun c_20 => ?_)
        · refine lv_iinc (v := nI (i + 1)) (lv' := [(2, .int (nI (i + 1))), (0, .ref (g 0)), (1, .int x)]) hx hb dX8_find_25 hl (k := 0) rfl (z_inc1 i) (by decide) rfl (fun ls hl => ?_)
          refine lv_goto (tgt := 2) hx hb dX8_find_28 (by decide) ?_
          exact ih (i + 1) ls (by omega) (by omega) (zFirst_no hno (decide_eq_false c_20)) (lv_sub hl [0, 1, 2] rfl)
        · refine lv_iload_n hx hb dX8_find_23 rfl (lv_at hl 0 rfl) ?_
          exact zr_si hx hb hr hlocks (by rw [mFind, zFirst_hit hno (decide_eq_true c_20) (by omega)]; rfl) dX8_find_24
  exact L_2 (n + 1) 0 ls (by omega) (by omega) rfl (lv_sub hl [0, 1, 2] rfl)
set_option maxHeartbeats 4000000 in
set_option maxRecDepth 100000 in
theorem c_X8_many (l : Launch) (V : zV) (g : Nat → Nat) (w pa be av sl sv pd cd : Nat → Int32) (st le ap pl wy : Int32) (n : Nat) (x : Int32) (hn : w 7 = nI n) (h30 : n ≤ 30) : Met l yX8_many wsX8_many (zR 1 0 0) (zPc V [.ref (g 0), .int x] (fun H => va_P V.1 vwCl (zmW V g w pa be av sl sv pd cd st le ap pl wy) H)) (vp_Si (fun r => r = (nI (mMany w n x)))) 0 0 (fun _ => False) := by
  refine Met.ofW (cc := cX8_many) (maxL := 4) (ret := (some .int)) (by decide) rfl ?_
  intro p e s m args below meth c s₁ B hml hv
  obtain ⟨rfl, hP, hE⟩ := hv
  have hx := B.exec
  have hb := B.bytes
  have hr := B.returns
  have hts := atoms_spec (ws := wsX8_many) B.pre
  have hown : s.vm.findClass RX8 = some m.cls := findClass_of_methodNamed B.named
  have hlocks := B.notSynchronized
  have hl := lv_entry ([.ref (g 0), .int x]) (n := 4) (Nat.le_of_ble_eq_true rfl)
  rw [lg_entry_eq]
  generalize (lg_sl ([.ref (g 0), .int x]) ++ List.replicate (4 - (lg_sl ([.ref (g 0), .int x])).length) Slot.unset).toArray = ls at hl ⊢
  have hl : lv_has ls 4 [(0, .ref (g 0)), (1, .int x)] := hl
  refine lv_iconst (v := 0) hx hb dX8_many_0 (by decide +kernel) ?_
  refine lv_istore_n (lv' := [(2, .int 0), (0, .ref (g 0)), (1, .int x)]) hx hb dX8_many_1 rfl hl (by decide) rfl (fun ls hl => ?_)
  refine lv_iconst (v := 0) hx hb dX8_many_2 (by decide +kernel) ?_
  refine lv_istore_n (lv' := [(3, .int 0), (2, .int 0), (0, .ref (g 0)), (1, .int x)]) hx hb dX8_many_3 rfl hl (by decide) rfl (fun ls hl => ?_)
  have L_4 : ∀ (n_ i : Nat) (ls : Array Slot), i ≤ n → n + 1 ≤ i + n_ → lv_has ls 4 [(3, .int (nI i)), (2, .int (nI (mMany w i x))), (0, .ref (g 0)), (1, .int x)] → W p l e (headSpec wsX8_many (zR 1 0 0)).room s m (List.toArray [.ref (g 0), .int x]) below meth c s.heap [] 0 0 (MQ below (vp_Si (fun r => r = (nI (mMany w n x)))) (List.toArray [.ref (g 0), .int x]) s 0 0 (fun _ => False)) (F0 m 4 ls []) := by
    intro n_
    induction n_ with
    | zero => intro i   ls hi_ hn_; exact absurd hn_ (by omega)
    | succ n_ ih =>
      intro i   ls hi_ hn_   hl
      refine lv_iload_n hx hb dX8_many_4 rfl (lv_at hl 0 rfl) ?_
      refine lv_aload_n hx hb dX8_many_5 rfl (lv_at hl 2 rfl) ?_
      refine zm_get 0 (.ref (g 1)) hx hb hts (fun x h => List.mem_cons_of_mem _ (hU_X8 x h)) hown hE hP (by decide) rfl (hts _ (List.mem_cons_of_mem _ uM_5)) (fun _ h9 => h9) dX8_many_6 ?_
      refine lv_bipush (v := 7) hx hb dX8_many_9 (by decide +kernel) ?_
      refine z_iald (k := 7) hx hb hE hP 1 (zm_c1 V g w pa be av sl sv pd cd st le ap pl wy) (by omega) (by decide) dX8_many_11 ?_
      refine zt_i hn ?_
      refine zb_ge (x := i) (y := n) (tgt := 39) hx hb dX8_many_12 (by decide) (by omega) (by omega) (fun c_12 => ?_) (fun c_12 => ?_)
      · refine lv_iload_n hx hb dX8_many_39 rfl (lv_at hl 1 rfl) ?_
        exact zr_si hx hb hr hlocks (by rw [show n = i by omega]) dX8_many_40
      · refine lv_iload_n hx hb dX8_many_15 rfl (lv_at hl 1 rfl) ?_
        refine lv_aload_n hx hb dX8_many_16 rfl (lv_at hl 2 rfl) ?_
        refine lv_iload_n hx hb dX8_many_17 rfl (lv_at hl 0 rfl) ?_
        refine lv_iconst (v := 1) hx hb dX8_many_18 (by decide +kernel) ?_
        refine zc_se (va_runV (As := [.int (nI i), .int 1]) (rest := [.int (nI (mMany w i x))]) ⟨hx, hb, hml, hown, hts⟩ (c_X8_its l V g w pa be av sl sv pd cd st le ap pl wy i 1 (by omega)) (cwV 2 hts (zgV_ wsM_all uM_16 uM_18 uM_19 uM_20 uM_21) rfl rfl rfl (by decide +kernel) ⟨Nat.le_of_ble_eq_true rfl, Nat.le_of_ble_eq_true rfl⟩) (zPreV (B := fun H => va_P V.1 vwCl (zmW V g w pa be av sl sv pd cd st le ap pl wy) H) hP hE (va_recv hE.1 hP (ci := 8) (q0 := 0) (q := (RX8, TX8, 13)) rfl (zm_c0 V g w pa be av sl sv pd cd st le ap pl wy))) rfl rfl hl.1 rfl (lv_room (Nat.le_of_ble_eq_true rfl)) dX8_many_19 ⟨Nat.le_of_ble_eq_true rfl, Nat.le_of_ble_eq_true rfl⟩) ?_
        refine lv_iload_n hx hb dX8_many_22 rfl (lv_at hl 3 rfl) ?_
        refine lv_icmp_ne (tgt := 30) hx hb dX8_many_23 (by decide) (fun c_23 => ?_) (fun c_23 => ?_)
        · refine lv_iconst (v := 0) hx hb dX8_many_30 (by decide +kernel) ?_
          refine lv_iadd hx hb dX8_many_31 ?_
          refine zt_i (z_add (a := mMany w i x) (b := 0) (by first | rfl | omega)) ?_
          refine lv_istore_n (lv' := [(2, .int (nI (mMany w i x))), (3, .int (nI i)), (0, .ref (g 0)), (1, .int x)]) hx hb dX8_many_32 rfl hl (by decide) rfl (fun ls hl => ?_)
          refine lv_iinc (v := nI (i + 1)) (lv' := [(3, .int (nI (i + 1))), (2, .int (nI (mMany w i x))), (0, .ref (g 0)), (1, .int x)]) hx hb dX8_many_33 hl (k := 1) rfl (z_inc1 i) (by decide) rfl (fun ls hl => ?_)
          refine lv_goto (tgt := 4) hx hb dX8_many_36 (by decide) ?_
          have e_ : mMany w i x = mMany w (i + 1) x := by simp [mMany, zCnt, c_23]
          rw [e_] at hl
          exact ih (i + 1) ls (by omega) (by omega) (lv_sub hl [0, 1, 2, 3] rfl)
        · refine lv_iconst (v := 1) hx hb dX8_many_26 (by decide +kernel) ?_
          refine lv_goto (tgt := 31) hx hb dX8_many_27 (by decide) ?_
          refine lv_iadd hx hb dX8_many_31 ?_
          refine zt_i (z_add (a := mMany w i x) (b := 1) (by first | rfl | omega)) ?_
          refine lv_istore_n (lv' := [(2, .int (nI (mMany w i x + 1))), (3, .int (nI i)), (0, .ref (g 0)), (1, .int x)]) hx hb dX8_many_32 rfl hl (by decide) rfl (fun ls hl => ?_)
          refine lv_iinc (v := nI (i + 1)) (lv' := [(3, .int (nI (i + 1))), (2, .int (nI (mMany w i x + 1))), (0, .ref (g 0)), (1, .int x)]) hx hb dX8_many_33 hl (k := 1) rfl (z_inc1 i) (by decide) rfl (fun ls hl => ?_)
          refine lv_goto (tgt := 4) hx hb dX8_many_36 (by decide) ?_
          have e_ : mMany w i x + 1 = mMany w (i + 1) x := by simp [mMany, zCnt, c_23]
          rw [e_] at hl
          exact ih (i + 1) ls (by omega) (by omega) (lv_sub hl [0, 1, 2, 3] rfl)
  exact L_4 (n + 1) 0 ls (by omega) (by omega) (lv_sub hl [0, 1, 2, 3] rfl)
theorem zBest_skip {can : Nat → Bool} {lt : Nat → Nat → Bool} {n : Nat} (h : can n = false) : zBest can lt (n + 1) = zBest can lt n := by
  cases hz : zBest can lt n with
  | none => simp [zBest, hz, h]
  | some b => simp [zBest, hz, h]
theorem zBest_first {can : Nat → Bool} {lt : Nat → Nat → Bool} {n : Nat} (hz : zBest can lt n = none) (h : can n = true) : zBest can lt (n + 1) = some n := by simp [zBest, hz, h]
theorem zBest_less {can : Nat → Bool} {lt : Nat → Nat → Bool} {n b : Nat} (hz : zBest can lt n = some b) (h : can n = true) (h2 : lt n b = true) : zBest can lt (n + 1) = some n := by simp [zBest, hz, h, h2]
theorem zBest_keep {can : Nat → Bool} {lt : Nat → Nat → Bool} {n b : Nat} (hz : zBest can lt n = some b) (h2 : lt n b = false) : zBest can lt (n + 1) = some b := by simp [zBest, hz, h2]
theorem zCnt_y {p : Nat → Bool} {n : Nat} (h : p n = true) : zCnt p n + 1 = zCnt p (n + 1) := by simp [zCnt, h]
theorem zCnt_n {p : Nat → Bool} {n : Nat} (h : p n = false) : zCnt p n = zCnt p (n + 1) := by simp [zCnt, h]
def mOf (w : Nat → Int32) (n : Nat) (x what : Int32) : Int32 := match mFind w n x with
  | none => -1
  | some k => if what = 0 then zF w k 1 else if what = 1 then zF w k 2 else if what = 2 then mLast w k else if what = 3 then w 6 - zF w k 4 else if what = 4 then (if w (zF w k 1).toNatClampNeg ≤ w 6 - zF w k 4 then 1 else 0) else if what = 5 then zF w k 5 else -2
def mWait (w : Nat → Int32) (n : Nat) (wr rk : Int32) : Int32 := if 0 ≤ wr ∧ wr ≤ 1 then (match zFirst (fun k => decide (zF w k 1 = wr ∧ nI (mRank w n k) = rk)) n with
  | none => -1
  | some k => zF w k 0) else -2
def mLog (w : Nat → Int32) (ago what : Int32) : Int32 := if 0 ≤ ago ∧ ago ≤ w 17 - 1 then (if 0 ≤ what ∧ what ≤ 2 then w (18 + 3 * ago.toNatClampNeg + what.toNatClampNeg) else -2) else -1
def mCount (w : Nat → Int32) (n : Nat) (le st what : Int32) : Int32 := if 10 ≤ what ∧ what ≤ 15 then w (what.toNatClampNeg - 10) else if what = 0 then w 6 else if what = 1 then nI (mMany w n 0) else if what = 2 then nI (mMany w n 1) else if what = 3 then w 9 else if what = 4 then w 10 else if what = 5 then w 11 else if what = 6 then w 12 else if what = 7 then w 13 else if what = 8 then w 14 else if what = 9 then w 15 else if what = 16 then le else if what = 17 then st else -2
def mJoined (w : Nat → Int32) (n : Nat) (wr d m : Int32) : Int32 := if mSlip wr d m then (match mPart w n wr d m with
  | none => -6
  | some k => zF w k 0) else -2
theorem z_ix {x a b : Int32} {na nb : Nat} (ha : a = nI na) (hb : b = nI nb) (hla : na < 2 ^ 31) (hlb : nb < 2 ^ 31) (h : a ≤ x ∧ x ≤ b) : ∃ j : Nat, x = nI j ∧ na ≤ j ∧ j ≤ nb := by
  have h1 := h.1
  have h2 := h.2
  rw [ha, Int32.le_iff_toInt_le, nI_toInt hla] at h1
  rw [hb, Int32.le_iff_toInt_le, nI_toInt hlb] at h2
  obtain ⟨j, hj, rfl⟩ := nI_of (x := x) (fun z => by rw [Int32.lt_iff_toInt_lt] at z; have : (0 : Int32).toInt = 0 := by decide
                                                     omega)
  rw [nI_toInt hj] at h1 h2
  exact ⟨j, rfl, by omega, by omega⟩
set_option maxHeartbeats 4000000 in
set_option maxRecDepth 100000 in
theorem c_X8_lowest (l : Launch) (V : zV) (g : Nat → Nat) (w pa be av sl sv pd cd : Nat → Int32) (st le ap pl wy : Int32) (n : Nat) (wr fr : Int32) (hn : w 7 = nI n) (h30 : n ≤ 30) : Met l yX8_lowest wsX8_lowest (zR 1 0 0) (zPc V [.ref (g 0), .int wr, .int fr] (fun H => va_P V.1 vwCl (zmW V g w pa be av sl sv pd cd st le ap pl wy) H)) (vp_Si (fun r => r = (zoI (mLow w n wr fr)))) 0 0 (fun _ => False) := by
  refine Met.ofW (cc := cX8_lowest) (maxL := 6) (ret := (some .int)) (by decide) rfl ?_
  intro p e s m args below meth c s₁ B hml hv
  obtain ⟨rfl, hP, hE⟩ := hv
  have hx := B.exec
  have hb := B.bytes
  have hr := B.returns
  have hts := atoms_spec (ws := wsX8_lowest) B.pre
  have hown : s.vm.findClass RX8 = some m.cls := findClass_of_methodNamed B.named
  have hlocks := B.notSynchronized
  have hl := lv_entry ([.ref (g 0), .int wr, .int fr]) (n := 6) (Nat.le_of_ble_eq_true rfl)
  rw [lg_entry_eq]
  generalize (lg_sl ([.ref (g 0), .int wr, .int fr]) ++ List.replicate (6 - (lg_sl ([.ref (g 0), .int wr, .int fr])).length) Slot.unset).toArray = ls at hl ⊢
  have hl : lv_has ls 6 [(0, .ref (g 0)), (1, .int wr), (2, .int fr)] := hl
  refine lv_bipush (v := (-6)) hx hb dX8_lowest_0 (by decide +kernel) ?_
  refine lv_istore_n (lv' := [(3, .int (-6)), (0, .ref (g 0)), (1, .int wr), (2, .int fr)]) hx hb dX8_lowest_2 rfl hl (by decide) rfl (fun ls hl => ?_)
  refine lv_iconst (v := 0) hx hb dX8_lowest_3 (by decide +kernel) ?_
  refine lv_istore (lv' := [(4, .int 0), (3, .int (-6)), (0, .ref (g 0)), (1, .int wr), (2, .int fr)]) hx hb dX8_lowest_4 hl (by decide) rfl (fun ls hl => ?_)
  have L_6 : ∀ (n_ i : Nat) (ls : Array Slot), i ≤ n → n + 1 ≤ i + n_ → lv_has ls 6 [(4, .int (nI i)), (3, .int (zoI (mLow w i wr fr))), (0, .ref (g 0)), (1, .int wr), (2, .int fr)] → W p l e (headSpec wsX8_lowest (zR 1 0 0)).room s m (List.toArray [.ref (g 0), .int wr, .int fr]) below meth c s.heap [] 0 0 (MQ below (vp_Si (fun r => r = (zoI (mLow w n wr fr)))) (List.toArray [.ref (g 0), .int wr, .int fr]) s 0 0 (fun _ => False)) (F0 m 6 ls []) := by
    intro n_
    induction n_ with
    | zero => intro i   ls hi_ hn_; exact absurd hn_ (by omega)
    | succ n_ ih =>
      intro i   ls hi_ hn_   hl
      refine lv_iload hx hb dX8_lowest_6 (lv_at hl 0 rfl) ?_
      refine lv_aload_n hx hb dX8_lowest_8 rfl (lv_at hl 2 rfl) ?_
      refine zm_get 0 (.ref (g 1)) hx hb hts (fun x h => List.mem_cons_of_mem _ (hU_X8 x h)) hown hE hP (by decide) rfl (hts _ (List.mem_cons_of_mem _ uM_5)) (fun _ h9 => h9) dX8_lowest_9 ?_
      refine lv_bipush (v := 7) hx hb dX8_lowest_12 (by decide +kernel) ?_
      refine z_iald (k := 7) hx hb hE hP 1 (zm_c1 V g w pa be av sl sv pd cd st le ap pl wy) (by omega) (by decide) dX8_lowest_14 ?_
      refine zt_i hn ?_
      refine zb_ge (x := i) (y := n) (tgt := 87) hx hb dX8_lowest_15 (by decide) (by omega) (by omega) (fun c_15 => ?_) (fun c_15 => ?_)
      · refine lv_iload_n hx hb dX8_lowest_87 rfl (lv_at hl 1 rfl) ?_
        exact zr_si hx hb hr hlocks (by rw [show n = i by omega]) dX8_lowest_88
      · refine lv_aload_n hx hb dX8_lowest_18 rfl (lv_at hl 2 rfl) ?_
        refine lv_iload hx hb dX8_lowest_19 (lv_at hl 0 rfl) ?_
        refine lv_iconst (v := 1) hx hb dX8_lowest_21 (by decide +kernel) ?_
        refine zc_se (va_runV (As := [.int (nI i), .int 1]) (rest := []) ⟨hx, hb, hml, hown, hts⟩ (c_X8_its l V g w pa be av sl sv pd cd st le ap pl wy i 1 (by omega)) (cwV 2 hts (zgV_ wsM_all uM_16 uM_18 uM_19 uM_20 uM_21) rfl rfl rfl (by decide +kernel) ⟨Nat.le_of_ble_eq_true rfl, Nat.le_of_ble_eq_true rfl⟩) (zPreV (B := fun H => va_P V.1 vwCl (zmW V g w pa be av sl sv pd cd st le ap pl wy) H) hP hE (va_recv hE.1 hP (ci := 8) (q0 := 0) (q := (RX8, TX8, 13)) rfl (zm_c0 V g w pa be av sl sv pd cd st le ap pl wy))) rfl rfl hl.1 rfl (lv_room (Nat.le_of_ble_eq_true rfl)) dX8_lowest_22 ⟨Nat.le_of_ble_eq_true rfl, Nat.le_of_ble_eq_true rfl⟩) ?_
        refine lv_iload_n hx hb dX8_lowest_25 rfl (lv_at hl 3 rfl) ?_
        refine lv_icmp_ne (tgt := 44) hx hb dX8_lowest_26 (by decide) (fun c_26 => ?_) (fun c_26 => ?_)
        · refine lv_iconst (v := 0) hx hb dX8_lowest_44 (by decide +kernel) ?_
          refine lv_istore (lv' := [(5, .int 0), (4, .int (nI i)), (3, .int (zoI (mLow w i wr fr))), (0, .ref (g 0)), (1, .int wr), (2, .int fr)]) hx hb dX8_lowest_45 hl (by decide) rfl (fun ls hl => ?_)
          refine lv_iload hx hb dX8_lowest_47 (lv_at hl 0 rfl) ?_
          refine lv_if_eq (tgt := 79) hx hb dX8_lowest_49 (by decide) (fun c_49 => ?_) (fun c_49 => ?_)
          rotate_left
          · exact absurd c_49 (by decide +kernel)
          refine lv_iload_n hx hb dX8_lowest_79 rfl (lv_at hl 2 rfl) ?_
          refine lv_istore_n (lv' := [(3, .int (zoI (mLow w i wr fr))), (5, .int 0), (4, .int (nI i)), (0, .ref (g 0)), (1, .int wr), (2, .int fr)]) hx hb dX8_lowest_80 rfl hl (by decide) rfl (fun ls hl => ?_)
          refine lv_iinc (v := nI (i + 1)) (lv' := [(4, .int (nI (i + 1))), (3, .int (zoI (mLow w i wr fr))), (5, .int 0), (0, .ref (g 0)), (1, .int wr), (2, .int fr)]) hx hb dX8_lowest_81 hl (k := 2) rfl (z_inc1 i) (by decide) rfl (fun ls hl => ?_)
          refine lv_goto (tgt := 6) hx hb dX8_lowest_84 (by decide) ?_
          have e_ : zoI (mLow w i wr fr) = zoI (mLow w (i + 1) wr fr) := by
            first
              | exact congrArg zoI (zBest_skip (decide_eq_false (fun h => c_26 h.1))).symm
              | exact congrArg zoI (zBest_skip (decide_eq_false (fun h => z_lt' c_37 h.2))).symm
              | exact congrArg zoI (zBest_first hq (decide_eq_true ⟨c_26, z_nlt c_37⟩)).symm
              | exact congrArg zoI (zBest_less hq (decide_eq_true ⟨c_26, z_nlt c_37⟩) (decide_eq_true (z_nle c_71))).symm
              | exact congrArg zoI (zBest_keep hq (decide_eq_false (z_le' c_71))).symm
          rw [e_] at hl
          exact ih (i + 1) ls (by omega) (by omega) (lv_sub hl [0, 1, 3, 4, 5] rfl)
        · refine lv_aload_n hx hb dX8_lowest_29 rfl (lv_at hl 2 rfl) ?_
          refine lv_iload hx hb dX8_lowest_30 (lv_at hl 0 rfl) ?_
          refine lv_iconst (v := 2) hx hb dX8_lowest_32 (by decide +kernel) ?_
          refine zc_se (va_runV (As := [.int (nI i), .int 2]) (rest := []) ⟨hx, hb, hml, hown, hts⟩ (c_X8_its l V g w pa be av sl sv pd cd st le ap pl wy i 2 (by omega)) (cwV 2 hts (zgV_ wsM_all uM_16 uM_18 uM_19 uM_20 uM_21) rfl rfl rfl (by decide +kernel) ⟨Nat.le_of_ble_eq_true rfl, Nat.le_of_ble_eq_true rfl⟩) (zPreV (B := fun H => va_P V.1 vwCl (zmW V g w pa be av sl sv pd cd st le ap pl wy) H) hP hE (va_recv hE.1 hP (ci := 8) (q0 := 0) (q := (RX8, TX8, 13)) rfl (zm_c0 V g w pa be av sl sv pd cd st le ap pl wy))) rfl rfl hl.1 rfl (lv_room (Nat.le_of_ble_eq_true rfl)) dX8_lowest_33 ⟨Nat.le_of_ble_eq_true rfl, Nat.le_of_ble_eq_true rfl⟩) ?_
          refine lv_iload_n hx hb dX8_lowest_36 rfl (lv_at hl 4 rfl) ?_
          refine lv_icmp_lt (tgt := 44) hx hb dX8_lowest_37 (by decide) (fun c_37 => ?_) (fun c_37 => ?_)
          · refine lv_iconst (v := 0) hx hb dX8_lowest_44 (by decide +kernel) ?_
            refine lv_istore (lv' := [(5, .int 0), (4, .int (nI i)), (3, .int (zoI (mLow w i wr fr))), (0, .ref (g 0)), (1, .int wr), (2, .int fr)]) hx hb dX8_lowest_45 hl (by decide) rfl (fun ls hl => ?_)
            refine lv_iload hx hb dX8_lowest_47 (lv_at hl 0 rfl) ?_
            refine lv_if_eq (tgt := 79) hx hb dX8_lowest_49 (by decide) (fun c_49 => ?_) (fun c_49 => ?_)
            rotate_left
            · exact absurd c_49 (by decide +kernel)
            refine lv_iload_n hx hb dX8_lowest_79 rfl (lv_at hl 2 rfl) ?_
            refine lv_istore_n (lv' := [(3, .int (zoI (mLow w i wr fr))), (5, .int 0), (4, .int (nI i)), (0, .ref (g 0)), (1, .int wr), (2, .int fr)]) hx hb dX8_lowest_80 rfl hl (by decide) rfl (fun ls hl => ?_)
            refine lv_iinc (v := nI (i + 1)) (lv' := [(4, .int (nI (i + 1))), (3, .int (zoI (mLow w i wr fr))), (5, .int 0), (0, .ref (g 0)), (1, .int wr), (2, .int fr)]) hx hb dX8_lowest_81 hl (k := 2) rfl (z_inc1 i) (by decide) rfl (fun ls hl => ?_)
            refine lv_goto (tgt := 6) hx hb dX8_lowest_84 (by decide) ?_
            have e_ : zoI (mLow w i wr fr) = zoI (mLow w (i + 1) wr fr) := by
              first
                | exact congrArg zoI (zBest_skip (decide_eq_false (fun h => c_26 h.1))).symm
                | exact congrArg zoI (zBest_skip (decide_eq_false (fun h => z_lt' c_37 h.2))).symm
                | exact congrArg zoI (zBest_first hq (decide_eq_true ⟨c_26, z_nlt c_37⟩)).symm
                | exact congrArg zoI (zBest_less hq (decide_eq_true ⟨c_26, z_nlt c_37⟩) (decide_eq_true (z_nle c_71))).symm
                | exact congrArg zoI (zBest_keep hq (decide_eq_false (z_le' c_71))).symm
            rw [e_] at hl
            exact ih (i + 1) ls (by omega) (by omega) (lv_sub hl [0, 1, 3, 4, 5] rfl)
          · refine lv_iconst (v := 1) hx hb dX8_lowest_40 (by decide +kernel) ?_
            refine lv_goto (tgt := 45) hx hb dX8_lowest_41 (by decide) ?_
            refine lv_istore (lv' := [(5, .int 1), (4, .int (nI i)), (3, .int (zoI (mLow w i wr fr))), (0, .ref (g 0)), (1, .int wr), (2, .int fr)]) hx hb dX8_lowest_45 hl (by decide) rfl (fun ls hl => ?_)
            refine lv_iload hx hb dX8_lowest_47 (lv_at hl 0 rfl) ?_
            refine lv_if_eq (tgt := 79) hx hb dX8_lowest_49 (by decide) (fun c_49 => ?_) (fun c_49 => ?_)
            · exact absurd c_49 (by decide +kernel)
            rcases hq : mLow w i wr fr with _ | b
            · rw [hq] at hl
              have hl : lv_has ls 6 [(5, .int 1), (4, .int (nI i)), (3, .int (-6)), (0, .ref (g 0)), (1, .int wr), (2, .int fr)] := hl
              refine lv_iload_n hx hb dX8_lowest_52 rfl (lv_at hl 2 rfl) ?_
              refine lv_bipush (v := (-6)) hx hb dX8_lowest_53 (by decide +kernel) ?_
              refine lv_icmp_eq (tgt := 74) hx hb dX8_lowest_55 (by decide) (fun c_55 => ?_) (fun c_55 => ?_)
              · refine lv_iload hx hb dX8_lowest_74 (lv_at hl 1 rfl) ?_
                refine lv_goto (tgt := 80) hx hb dX8_lowest_76 (by decide) ?_
                refine lv_istore_n (lv' := [(3, .int (nI i)), (5, .int 1), (4, .int (nI i)), (0, .ref (g 0)), (1, .int wr), (2, .int fr)]) hx hb dX8_lowest_80 rfl hl (by decide) rfl (fun ls hl => ?_)
                refine lv_iinc (v := nI (i + 1)) (lv' := [(4, .int (nI (i + 1))), (3, .int (nI i)), (5, .int 1), (0, .ref (g 0)), (1, .int wr), (2, .int fr)]) hx hb dX8_lowest_81 hl (k := 2) rfl (z_inc1 i) (by decide) rfl (fun ls hl => ?_)
                refine lv_goto (tgt := 6) hx hb dX8_lowest_84 (by decide) ?_
                have e_ : nI i = zoI (mLow w (i + 1) wr fr) := by
                  first
                    | exact congrArg zoI (zBest_skip (decide_eq_false (fun h => c_26 h.1))).symm
                    | exact congrArg zoI (zBest_skip (decide_eq_false (fun h => z_lt' c_37 h.2))).symm
                    | exact congrArg zoI (zBest_first hq (decide_eq_true ⟨c_26, z_nlt c_37⟩)).symm
                    | exact congrArg zoI (zBest_less hq (decide_eq_true ⟨c_26, z_nlt c_37⟩) (decide_eq_true (z_nle c_71))).symm
                    | exact congrArg zoI (zBest_keep hq (decide_eq_false (z_le' c_71))).symm
                rw [e_] at hl
                exact ih (i + 1) ls (by omega) (by omega) (lv_sub hl [0, 1, 3, 4, 5] rfl)
              · exact absurd rfl c_55
            · rw [hq] at hl
              have hl : lv_has ls 6 [(5, .int 1), (4, .int (nI i)), (3, .int (nI b)), (0, .ref (g 0)), (1, .int wr), (2, .int fr)] := hl
              have hb30 : b < i := (zBest_lt hq).1
              refine lv_iload_n hx hb dX8_lowest_52 rfl (lv_at hl 2 rfl) ?_
              refine lv_bipush (v := (-6)) hx hb dX8_lowest_53 (by decide +kernel) ?_
              refine lv_icmp_eq (tgt := 74) hx hb dX8_lowest_55 (by decide) (fun c_55 => ?_) (fun c_55 => ?_)
              · exact absurd c_55 (z_n6 (by omega))
              · refine lv_aload_n hx hb dX8_lowest_58 rfl (lv_at hl 3 rfl) ?_
                refine lv_iload hx hb dX8_lowest_59 (lv_at hl 1 rfl) ?_
                refine lv_iconst (v := 2) hx hb dX8_lowest_61 (by decide +kernel) ?_
                refine zc_se (va_runV (As := [.int (nI i), .int 2]) (rest := []) ⟨hx, hb, hml, hown, hts⟩ (c_X8_its l V g w pa be av sl sv pd cd st le ap pl wy i 2 (by omega)) (cwV 2 hts (zgV_ wsM_all uM_16 uM_18 uM_19 uM_20 uM_21) rfl rfl rfl (by decide +kernel) ⟨Nat.le_of_ble_eq_true rfl, Nat.le_of_ble_eq_true rfl⟩) (zPreV (B := fun H => va_P V.1 vwCl (zmW V g w pa be av sl sv pd cd st le ap pl wy) H) hP hE (va_recv hE.1 hP (ci := 8) (q0 := 0) (q := (RX8, TX8, 13)) rfl (zm_c0 V g w pa be av sl sv pd cd st le ap pl wy))) rfl rfl hl.1 rfl (lv_room (Nat.le_of_ble_eq_true rfl)) dX8_lowest_62 ⟨Nat.le_of_ble_eq_true rfl, Nat.le_of_ble_eq_true rfl⟩) ?_
                refine lv_aload_n hx hb dX8_lowest_65 rfl (lv_at hl 3 rfl) ?_
                refine lv_iload_n hx hb dX8_lowest_66 rfl (lv_at hl 2 rfl) ?_
                refine lv_iconst (v := 2) hx hb dX8_lowest_67 (by decide +kernel) ?_
                refine zc_se (va_runV (As := [.int (nI b), .int 2]) (rest := [.int (zF w i 2)]) ⟨hx, hb, hml, hown, hts⟩ (c_X8_its l V g w pa be av sl sv pd cd st le ap pl wy b 2 (by omega)) (cwV 2 hts (zgV_ wsM_all uM_16 uM_18 uM_19 uM_20 uM_21) rfl rfl rfl (by decide +kernel) ⟨Nat.le_of_ble_eq_true rfl, Nat.le_of_ble_eq_true rfl⟩) (zPreV (B := fun H => va_P V.1 vwCl (zmW V g w pa be av sl sv pd cd st le ap pl wy) H) hP hE (va_recv hE.1 hP (ci := 8) (q0 := 0) (q := (RX8, TX8, 13)) rfl (zm_c0 V g w pa be av sl sv pd cd st le ap pl wy))) rfl rfl hl.1 rfl (lv_room (Nat.le_of_ble_eq_true rfl)) dX8_lowest_68 ⟨Nat.le_of_ble_eq_true rfl, Nat.le_of_ble_eq_true rfl⟩) ?_
                refine lv_icmp_ge (tgt := 79) hx hb dX8_lowest_71 (by decide) (fun c_71 => ?_) (fun c_71 => ?_)
                · refine lv_iload_n hx hb dX8_lowest_79 rfl (lv_at hl 2 rfl) ?_
                  refine lv_istore_n (lv' := [(3, .int (nI b)), (5, .int 1), (4, .int (nI i)), (0, .ref (g 0)), (1, .int wr), (2, .int fr)]) hx hb dX8_lowest_80 rfl hl (by decide) rfl (fun ls hl => ?_)
                  refine lv_iinc (v := nI (i + 1)) (lv' := [(4, .int (nI (i + 1))), (3, .int (nI b)), (5, .int 1), (0, .ref (g 0)), (1, .int wr), (2, .int fr)]) hx hb dX8_lowest_81 hl (k := 2) rfl (z_inc1 i) (by decide) rfl (fun ls hl => ?_)
                  refine lv_goto (tgt := 6) hx hb dX8_lowest_84 (by decide) ?_
                  have e_ : nI b = zoI (mLow w (i + 1) wr fr) := by
                    first
                      | exact congrArg zoI (zBest_skip (decide_eq_false (fun h => c_26 h.1))).symm
                      | exact congrArg zoI (zBest_skip (decide_eq_false (fun h => z_lt' c_37 h.2))).symm
                      | exact congrArg zoI (zBest_first hq (decide_eq_true ⟨c_26, z_nlt c_37⟩)).symm
                      | exact congrArg zoI (zBest_less hq (decide_eq_true ⟨c_26, z_nlt c_37⟩) (decide_eq_true (z_nle c_71))).symm
                      | exact congrArg zoI (zBest_keep hq (decide_eq_false (z_le' c_71))).symm
                  rw [e_] at hl
                  exact ih (i + 1) ls (by omega) (by omega) (lv_sub hl [0, 1, 3, 4, 5] rfl)
                · refine lv_iload hx hb dX8_lowest_74 (lv_at hl 1 rfl) ?_
                  refine lv_goto (tgt := 80) hx hb dX8_lowest_76 (by decide) ?_
                  refine lv_istore_n (lv' := [(3, .int (nI i)), (5, .int 1), (4, .int (nI i)), (0, .ref (g 0)), (1, .int wr), (2, .int fr)]) hx hb dX8_lowest_80 rfl hl (by decide) rfl (fun ls hl => ?_)
                  refine lv_iinc (v := nI (i + 1)) (lv' := [(4, .int (nI (i + 1))), (3, .int (nI i)), (5, .int 1), (0, .ref (g 0)), (1, .int wr), (2, .int fr)]) hx hb dX8_lowest_81 hl (k := 2) rfl (z_inc1 i) (by decide) rfl (fun ls hl => ?_)
                  refine lv_goto (tgt := 6) hx hb dX8_lowest_84 (by decide) ?_
                  have e_ : nI i = zoI (mLow w (i + 1) wr fr) := by
                    first
                      | exact congrArg zoI (zBest_skip (decide_eq_false (fun h => c_26 h.1))).symm
                      | exact congrArg zoI (zBest_skip (decide_eq_false (fun h => z_lt' c_37 h.2))).symm
                      | exact congrArg zoI (zBest_first hq (decide_eq_true ⟨c_26, z_nlt c_37⟩)).symm
                      | exact congrArg zoI (zBest_less hq (decide_eq_true ⟨c_26, z_nlt c_37⟩) (decide_eq_true (z_nle c_71))).symm
                      | exact congrArg zoI (zBest_keep hq (decide_eq_false (z_le' c_71))).symm
                  rw [e_] at hl
                  exact ih (i + 1) ls (by omega) (by omega) (lv_sub hl [0, 1, 3, 4, 5] rfl)
  exact L_6 (n + 1) 0 ls (by omega) (by omega) (lv_sub hl [0, 1, 2, 3, 4] rfl)
set_option maxHeartbeats 4000000 in
set_option maxRecDepth 100000 in
theorem c_X8_oldest (l : Launch) (V : zV) (g : Nat → Nat) (w pa be av sl sv pd cd : Nat → Int32) (st le ap pl wy : Int32) (n : Nat) (wr : Int32) (hn : w 7 = nI n) (h30 : n ≤ 30) : Met l yX8_oldest wsX8_oldest (zR 1 0 0) (zPc V [.ref (g 0), .int wr] (fun H => va_P V.1 vwCl (zmW V g w pa be av sl sv pd cd st le ap pl wy) H)) (vp_Si (fun r => r = (zoI (mOld w n wr)))) 0 0 (fun _ => False) := by
  refine Met.ofW (cc := cX8_oldest) (maxL := 4) (ret := (some .int)) (by decide) rfl ?_
  intro p e s m args below meth c s₁ B hml hv
  obtain ⟨rfl, hP, hE⟩ := hv
  have hx := B.exec
  have hb := B.bytes
  have hr := B.returns
  have hts := atoms_spec (ws := wsX8_oldest) B.pre
  have hown : s.vm.findClass RX8 = some m.cls := findClass_of_methodNamed B.named
  have hlocks := B.notSynchronized
  have hl := lv_entry ([.ref (g 0), .int wr]) (n := 4) (Nat.le_of_ble_eq_true rfl)
  rw [lg_entry_eq]
  generalize (lg_sl ([.ref (g 0), .int wr]) ++ List.replicate (4 - (lg_sl ([.ref (g 0), .int wr])).length) Slot.unset).toArray = ls at hl ⊢
  have hl : lv_has ls 4 [(0, .ref (g 0)), (1, .int wr)] := hl
  refine lv_bipush (v := (-6)) hx hb dX8_oldest_0 (by decide +kernel) ?_
  refine lv_istore_n (lv' := [(2, .int (-6)), (0, .ref (g 0)), (1, .int wr)]) hx hb dX8_oldest_2 rfl hl (by decide) rfl (fun ls hl => ?_)
  refine lv_iconst (v := 0) hx hb dX8_oldest_3 (by decide +kernel) ?_
  refine lv_istore_n (lv' := [(3, .int 0), (2, .int (-6)), (0, .ref (g 0)), (1, .int wr)]) hx hb dX8_oldest_4 rfl hl (by decide) rfl (fun ls hl => ?_)
  have L_5 : ∀ (n_ i : Nat) (ls : Array Slot), i ≤ n → n + 1 ≤ i + n_ → lv_has ls 4 [(3, .int (nI i)), (2, .int (zoI (mOld w i wr))), (0, .ref (g 0)), (1, .int wr)] → W p l e (headSpec wsX8_oldest (zR 1 0 0)).room s m (List.toArray [.ref (g 0), .int wr]) below meth c s.heap [] 0 0 (MQ below (vp_Si (fun r => r = (zoI (mOld w n wr)))) (List.toArray [.ref (g 0), .int wr]) s 0 0 (fun _ => False)) (F0 m 5 ls []) := by
    intro n_
    induction n_ with
    | zero => intro i   ls hi_ hn_; exact absurd hn_ (by omega)
    | succ n_ ih =>
      intro i   ls hi_ hn_   hl
      refine lv_iload_n hx hb dX8_oldest_5 rfl (lv_at hl 0 rfl) ?_
      refine lv_aload_n hx hb dX8_oldest_6 rfl (lv_at hl 2 rfl) ?_
      refine zm_get 0 (.ref (g 1)) hx hb hts (fun x h => List.mem_cons_of_mem _ (hU_X8 x h)) hown hE hP (by decide) rfl (hts _ (List.mem_cons_of_mem _ uM_5)) (fun _ h9 => h9) dX8_oldest_7 ?_
      refine lv_bipush (v := 7) hx hb dX8_oldest_10 (by decide +kernel) ?_
      refine z_iald (k := 7) hx hb hE hP 1 (zm_c1 V g w pa be av sl sv pd cd st le ap pl wy) (by omega) (by decide) dX8_oldest_12 ?_
      refine zt_i hn ?_
      refine zb_ge (x := i) (y := n) (tgt := 59) hx hb dX8_oldest_13 (by decide) (by omega) (by omega) (fun c_13 => ?_) (fun c_13 => ?_)
      · refine lv_iload_n hx hb dX8_oldest_59 rfl (lv_at hl 1 rfl) ?_
        exact zr_si hx hb hr hlocks (by rw [show n = i by omega]) dX8_oldest_60
      · refine lv_aload_n hx hb dX8_oldest_16 rfl (lv_at hl 2 rfl) ?_
        refine lv_iload_n hx hb dX8_oldest_17 rfl (lv_at hl 0 rfl) ?_
        refine lv_iconst (v := 1) hx hb dX8_oldest_18 (by decide +kernel) ?_
        refine zc_se (va_runV (As := [.int (nI i), .int 1]) (rest := []) ⟨hx, hb, hml, hown, hts⟩ (c_X8_its l V g w pa be av sl sv pd cd st le ap pl wy i 1 (by omega)) (cwV 2 hts (zgV_ wsM_all uM_16 uM_18 uM_19 uM_20 uM_21) rfl rfl rfl (by decide +kernel) ⟨Nat.le_of_ble_eq_true rfl, Nat.le_of_ble_eq_true rfl⟩) (zPreV (B := fun H => va_P V.1 vwCl (zmW V g w pa be av sl sv pd cd st le ap pl wy) H) hP hE (va_recv hE.1 hP (ci := 8) (q0 := 0) (q := (RX8, TX8, 13)) rfl (zm_c0 V g w pa be av sl sv pd cd st le ap pl wy))) rfl rfl hl.1 rfl (lv_room (Nat.le_of_ble_eq_true rfl)) dX8_oldest_19 ⟨Nat.le_of_ble_eq_true rfl, Nat.le_of_ble_eq_true rfl⟩) ?_
        refine lv_iload_n hx hb dX8_oldest_22 rfl (lv_at hl 3 rfl) ?_
        refine lv_icmp_ne (tgt := 51) hx hb dX8_oldest_23 (by decide) (fun c_23 => ?_) (fun c_23 => ?_)
        · refine lv_iload_n hx hb dX8_oldest_51 rfl (lv_at hl 1 rfl) ?_
          refine lv_istore_n (lv' := [(2, .int (zoI (mOld w i wr))), (3, .int (nI i)), (0, .ref (g 0)), (1, .int wr)]) hx hb dX8_oldest_52 rfl hl (by decide) rfl (fun ls hl => ?_)
          refine lv_iinc (v := nI (i + 1)) (lv' := [(3, .int (nI (i + 1))), (2, .int (zoI (mOld w i wr))), (0, .ref (g 0)), (1, .int wr)]) hx hb dX8_oldest_53 hl (k := 1) rfl (z_inc1 i) (by decide) rfl (fun ls hl => ?_)
          refine lv_goto (tgt := 5) hx hb dX8_oldest_56 (by decide) ?_
          have e_ : zoI (mOld w i wr) = zoI (mOld w (i + 1) wr) := by
            first
              | exact congrArg zoI (zBest_skip (decide_eq_false c_23)).symm
              | exact congrArg zoI (zBest_first hq (decide_eq_true c_23)).symm
              | exact congrArg zoI (zBest_less hq (decide_eq_true c_23) (decide_eq_true (z_nle c_44))).symm
              | exact congrArg zoI (zBest_keep hq (decide_eq_false (z_le' c_44))).symm
          rw [e_] at hl
          exact ih (i + 1) ls (by omega) (by omega) (lv_sub hl [0, 1, 2, 3] rfl)
        · rcases hq : mOld w i wr with _ | b
          · rw [hq] at hl
            have hl : lv_has ls 4 [(3, .int (nI i)), (2, .int (-6)), (0, .ref (g 0)), (1, .int wr)] := hl
            refine lv_iload_n hx hb dX8_oldest_26 rfl (lv_at hl 1 rfl) ?_
            refine lv_bipush (v := (-6)) hx hb dX8_oldest_27 (by decide +kernel) ?_
            refine lv_icmp_eq (tgt := 47) hx hb dX8_oldest_29 (by decide) (fun c_29 => ?_) (fun c_29 => ?_)
            · refine lv_iload_n hx hb dX8_oldest_47 rfl (lv_at hl 0 rfl) ?_
              refine lv_goto (tgt := 52) hx hb dX8_oldest_48 (by decide) ?_
              refine lv_istore_n (lv' := [(2, .int (nI i)), (3, .int (nI i)), (0, .ref (g 0)), (1, .int wr)]) hx hb dX8_oldest_52 rfl hl (by decide) rfl (fun ls hl => ?_)
              refine lv_iinc (v := nI (i + 1)) (lv' := [(3, .int (nI (i + 1))), (2, .int (nI i)), (0, .ref (g 0)), (1, .int wr)]) hx hb dX8_oldest_53 hl (k := 1) rfl (z_inc1 i) (by decide) rfl (fun ls hl => ?_)
              refine lv_goto (tgt := 5) hx hb dX8_oldest_56 (by decide) ?_
              have e_ : nI i = zoI (mOld w (i + 1) wr) := by
                first
                  | exact congrArg zoI (zBest_skip (decide_eq_false c_23)).symm
                  | exact congrArg zoI (zBest_first hq (decide_eq_true c_23)).symm
                  | exact congrArg zoI (zBest_less hq (decide_eq_true c_23) (decide_eq_true (z_nle c_44))).symm
                  | exact congrArg zoI (zBest_keep hq (decide_eq_false (z_le' c_44))).symm
              rw [e_] at hl
              exact ih (i + 1) ls (by omega) (by omega) (lv_sub hl [0, 1, 2, 3] rfl)
            · exact absurd rfl c_29
          · rw [hq] at hl
            have hl : lv_has ls 4 [(3, .int (nI i)), (2, .int (nI b)), (0, .ref (g 0)), (1, .int wr)] := hl
            have hb30 : b < i := (zBest_lt hq).1
            refine lv_iload_n hx hb dX8_oldest_26 rfl (lv_at hl 1 rfl) ?_
            refine lv_bipush (v := (-6)) hx hb dX8_oldest_27 (by decide +kernel) ?_
            refine lv_icmp_eq (tgt := 47) hx hb dX8_oldest_29 (by decide) (fun c_29 => ?_) (fun c_29 => ?_)
            · exact absurd c_29 (z_n6 (by omega))
            · refine lv_aload_n hx hb dX8_oldest_32 rfl (lv_at hl 2 rfl) ?_
              refine lv_iload_n hx hb dX8_oldest_33 rfl (lv_at hl 0 rfl) ?_
              refine lv_iconst (v := 4) hx hb dX8_oldest_34 (by decide +kernel) ?_
              refine zc_se (va_runV (As := [.int (nI i), .int 4]) (rest := []) ⟨hx, hb, hml, hown, hts⟩ (c_X8_its l V g w pa be av sl sv pd cd st le ap pl wy i 4 (by omega)) (cwV 2 hts (zgV_ wsM_all uM_16 uM_18 uM_19 uM_20 uM_21) rfl rfl rfl (by decide +kernel) ⟨Nat.le_of_ble_eq_true rfl, Nat.le_of_ble_eq_true rfl⟩) (zPreV (B := fun H => va_P V.1 vwCl (zmW V g w pa be av sl sv pd cd st le ap pl wy) H) hP hE (va_recv hE.1 hP (ci := 8) (q0 := 0) (q := (RX8, TX8, 13)) rfl (zm_c0 V g w pa be av sl sv pd cd st le ap pl wy))) rfl rfl hl.1 rfl (lv_room (Nat.le_of_ble_eq_true rfl)) dX8_oldest_35 ⟨Nat.le_of_ble_eq_true rfl, Nat.le_of_ble_eq_true rfl⟩) ?_
              refine lv_aload_n hx hb dX8_oldest_38 rfl (lv_at hl 2 rfl) ?_
              refine lv_iload_n hx hb dX8_oldest_39 rfl (lv_at hl 1 rfl) ?_
              refine lv_iconst (v := 4) hx hb dX8_oldest_40 (by decide +kernel) ?_
              refine zc_se (va_runV (As := [.int (nI b), .int 4]) (rest := [.int (zF w i 4)]) ⟨hx, hb, hml, hown, hts⟩ (c_X8_its l V g w pa be av sl sv pd cd st le ap pl wy b 4 (by omega)) (cwV 2 hts (zgV_ wsM_all uM_16 uM_18 uM_19 uM_20 uM_21) rfl rfl rfl (by decide +kernel) ⟨Nat.le_of_ble_eq_true rfl, Nat.le_of_ble_eq_true rfl⟩) (zPreV (B := fun H => va_P V.1 vwCl (zmW V g w pa be av sl sv pd cd st le ap pl wy) H) hP hE (va_recv hE.1 hP (ci := 8) (q0 := 0) (q := (RX8, TX8, 13)) rfl (zm_c0 V g w pa be av sl sv pd cd st le ap pl wy))) rfl rfl hl.1 rfl (lv_room (Nat.le_of_ble_eq_true rfl)) dX8_oldest_41 ⟨Nat.le_of_ble_eq_true rfl, Nat.le_of_ble_eq_true rfl⟩) ?_
              refine lv_icmp_ge (tgt := 51) hx hb dX8_oldest_44 (by decide) (fun c_44 => ?_) (fun c_44 => ?_)
              · refine lv_iload_n hx hb dX8_oldest_51 rfl (lv_at hl 1 rfl) ?_
                refine lv_istore_n (lv' := [(2, .int (nI b)), (3, .int (nI i)), (0, .ref (g 0)), (1, .int wr)]) hx hb dX8_oldest_52 rfl hl (by decide) rfl (fun ls hl => ?_)
                refine lv_iinc (v := nI (i + 1)) (lv' := [(3, .int (nI (i + 1))), (2, .int (nI b)), (0, .ref (g 0)), (1, .int wr)]) hx hb dX8_oldest_53 hl (k := 1) rfl (z_inc1 i) (by decide) rfl (fun ls hl => ?_)
                refine lv_goto (tgt := 5) hx hb dX8_oldest_56 (by decide) ?_
                have e_ : nI b = zoI (mOld w (i + 1) wr) := by
                  first
                    | exact congrArg zoI (zBest_skip (decide_eq_false c_23)).symm
                    | exact congrArg zoI (zBest_first hq (decide_eq_true c_23)).symm
                    | exact congrArg zoI (zBest_less hq (decide_eq_true c_23) (decide_eq_true (z_nle c_44))).symm
                    | exact congrArg zoI (zBest_keep hq (decide_eq_false (z_le' c_44))).symm
                rw [e_] at hl
                exact ih (i + 1) ls (by omega) (by omega) (lv_sub hl [0, 1, 2, 3] rfl)
              · refine lv_iload_n hx hb dX8_oldest_47 rfl (lv_at hl 0 rfl) ?_
                refine lv_goto (tgt := 52) hx hb dX8_oldest_48 (by decide) ?_
                refine lv_istore_n (lv' := [(2, .int (nI i)), (3, .int (nI i)), (0, .ref (g 0)), (1, .int wr)]) hx hb dX8_oldest_52 rfl hl (by decide) rfl (fun ls hl => ?_)
                refine lv_iinc (v := nI (i + 1)) (lv' := [(3, .int (nI (i + 1))), (2, .int (nI i)), (0, .ref (g 0)), (1, .int wr)]) hx hb dX8_oldest_53 hl (k := 1) rfl (z_inc1 i) (by decide) rfl (fun ls hl => ?_)
                refine lv_goto (tgt := 5) hx hb dX8_oldest_56 (by decide) ?_
                have e_ : nI i = zoI (mOld w (i + 1) wr) := by
                  first
                    | exact congrArg zoI (zBest_skip (decide_eq_false c_23)).symm
                    | exact congrArg zoI (zBest_first hq (decide_eq_true c_23)).symm
                    | exact congrArg zoI (zBest_less hq (decide_eq_true c_23) (decide_eq_true (z_nle c_44))).symm
                    | exact congrArg zoI (zBest_keep hq (decide_eq_false (z_le' c_44))).symm
                rw [e_] at hl
                exact ih (i + 1) ls (by omega) (by omega) (lv_sub hl [0, 1, 2, 3] rfl)
  exact L_5 (n + 1) 0 ls (by omega) (by omega) (lv_sub hl [0, 1, 2, 3] rfl)
set_option maxHeartbeats 4000000 in
set_option maxRecDepth 100000 in
theorem c_X8_isOld (l : Launch) (V : zV) (g : Nat → Nat) (w pa be av sl sv pd cd : Nat → Int32) (st le ap pl wy : Int32) (k : Nat) (hk : k < 30) (hw1 : zF w k 1 = 0 ∨ zF w k 1 = 1) : Met l yX8_isOld wsX8_isOld (zR 1 0 0) (zPc V [.ref (g 0), .int (nI k)] (fun H => va_P V.1 vwCl (zmW V g w pa be av sl sv pd cd st le ap pl wy) H)) (vp_Si (fun r => r = (if w (zF w k 1).toNatClampNeg ≤ w 6 - zF w k 4 then 1 else 0))) 0 0 (fun _ => False) := by
  refine Met.ofW (cc := cX8_isOld) (maxL := 2) (ret := (some .boolean)) (by decide) rfl ?_
  intro p e s m args below meth c s₁ B hml hv
  obtain ⟨rfl, hP, hE⟩ := hv
  have hx := B.exec
  have hb := B.bytes
  have hr := B.returns
  have hts := atoms_spec (ws := wsX8_isOld) B.pre
  have hown : s.vm.findClass RX8 = some m.cls := findClass_of_methodNamed B.named
  have hlocks := B.notSynchronized
  have hl := lv_entry ([.ref (g 0), .int (nI k)]) (n := 2) (Nat.le_of_ble_eq_true rfl)
  rw [lg_entry_eq]
  generalize (lg_sl ([.ref (g 0), .int (nI k)]) ++ List.replicate (2 - (lg_sl ([.ref (g 0), .int (nI k)])).length) Slot.unset).toArray = ls at hl ⊢
  have hl : lv_has ls 2 [(0, .ref (g 0)), (1, .int (nI k))] := hl
  refine lv_aload_n hx hb dX8_isOld_0 rfl (lv_at hl 0 rfl) ?_
  refine zm_get 0 (.ref (g 1)) hx hb hts (fun x h => List.mem_cons_of_mem _ (hU_X8 x h)) hown hE hP (by decide) rfl (hts _ (List.mem_cons_of_mem _ uM_5)) (fun _ h9 => h9) dX8_isOld_1 ?_
  refine lv_bipush (v := 6) hx hb dX8_isOld_4 (by decide +kernel) ?_
  refine z_iald (k := 6) hx hb hE hP 1 (zm_c1 V g w pa be av sl sv pd cd st le ap pl wy) (by omega) (by decide) dX8_isOld_6 ?_
  refine lv_aload_n hx hb dX8_isOld_7 rfl (lv_at hl 0 rfl) ?_
  refine lv_iload_n hx hb dX8_isOld_8 rfl (lv_at hl 1 rfl) ?_
  refine lv_iconst (v := 4) hx hb dX8_isOld_9 (by decide +kernel) ?_
  refine zc_se (va_runV (As := [.int (nI k), .int 4]) (rest := [.int (w 6)]) ⟨hx, hb, hml, hown, hts⟩ (c_X8_its l V g w pa be av sl sv pd cd st le ap pl wy k 4 (by omega)) (cwV 2 hts (zgV_ wsM_all uM_16 uM_18 uM_19 uM_20 uM_21) rfl rfl rfl (by decide +kernel) ⟨Nat.le_of_ble_eq_true rfl, Nat.le_of_ble_eq_true rfl⟩) (zPreV (B := fun H => va_P V.1 vwCl (zmW V g w pa be av sl sv pd cd st le ap pl wy) H) hP hE (va_recv hE.1 hP (ci := 8) (q0 := 0) (q := (RX8, TX8, 13)) rfl (zm_c0 V g w pa be av sl sv pd cd st le ap pl wy))) rfl rfl hl.1 rfl (lv_room (Nat.le_of_ble_eq_true rfl)) dX8_isOld_10 ⟨Nat.le_of_ble_eq_true rfl, Nat.le_of_ble_eq_true rfl⟩) ?_
  refine lv_isub hx hb dX8_isOld_13 ?_
  refine lv_aload_n hx hb dX8_isOld_14 rfl (lv_at hl 0 rfl) ?_
  refine zm_get 0 (.ref (g 1)) hx hb hts (fun x h => List.mem_cons_of_mem _ (hU_X8 x h)) hown hE hP (by decide) rfl (hts _ (List.mem_cons_of_mem _ uM_5)) (fun _ h9 => h9) dX8_isOld_15 ?_
  refine lv_aload_n hx hb dX8_isOld_18 rfl (lv_at hl 0 rfl) ?_
  refine lv_iload_n hx hb dX8_isOld_19 rfl (lv_at hl 1 rfl) ?_
  refine lv_iconst (v := 1) hx hb dX8_isOld_20 (by decide +kernel) ?_
  refine zc_se (va_runV (As := [.int (nI k), .int 1]) (rest := [.ref (g 1), .int ((w 6) - (zF w k 4))]) ⟨hx, hb, hml, hown, hts⟩ (c_X8_its l V g w pa be av sl sv pd cd st le ap pl wy k 1 (by omega)) (cwV 2 hts (zgV_ wsM_all uM_16 uM_18 uM_19 uM_20 uM_21) rfl rfl rfl (by decide +kernel) ⟨Nat.le_of_ble_eq_true rfl, Nat.le_of_ble_eq_true rfl⟩) (zPreV (B := fun H => va_P V.1 vwCl (zmW V g w pa be av sl sv pd cd st le ap pl wy) H) hP hE (va_recv hE.1 hP (ci := 8) (q0 := 0) (q := (RX8, TX8, 13)) rfl (zm_c0 V g w pa be av sl sv pd cd st le ap pl wy))) rfl rfl hl.1 rfl (lv_room (Nat.le_of_ble_eq_true rfl)) dX8_isOld_21 ⟨Nat.le_of_ble_eq_true rfl, Nat.le_of_ble_eq_true rfl⟩) ?_
  obtain ⟨j_, hj_, ej_⟩ := z_01 hw1
  refine zt_i ej_ ?_
  refine z_iald (k := j_) hx hb hE hP 1 (zm_c1 V g w pa be av sl sv pd cd st le ap pl wy) (by omega) (by decide) dX8_isOld_24 ?_
  refine lv_icmp_lt (tgt := 32) hx hb dX8_isOld_25 (by decide) (fun c_25 => ?_) (fun c_25 => ?_)
  · refine lv_iconst (v := 0) hx hb dX8_isOld_32 (by decide +kernel) ?_
    exact zr_sz hx hb hr hlocks (by first | exact Or.inl rfl | exact Or.inr rfl | assumption) (by rw [ej_, nI_clamp (by omega)]; first | rw [if_neg (z_lt' c_25)] | rw [if_pos (z_nlt c_25)]) dX8_isOld_33
  · refine lv_iconst (v := 1) hx hb dX8_isOld_28 (by decide +kernel) ?_
    refine lv_goto (tgt := 33) hx hb dX8_isOld_29 (by decide) ?_
    exact zr_sz hx hb hr hlocks (by first | exact Or.inl rfl | exact Or.inr rfl | assumption) (by rw [ej_, nI_clamp (by omega)]; first | rw [if_neg (z_lt' c_25)] | rw [if_pos (z_nlt c_25)]) dX8_isOld_33
set_option maxHeartbeats 4000000 in
set_option maxRecDepth 100000 in
theorem c_X8_nextSort (l : Launch) (V : zV) (g : Nat → Nat) (w pa be av sl sv pd cd : Nat → Int32) (st le ap pl wy : Int32) (n : Nat) (hn : w 7 = nI n) (h30 : n ≤ 30) : Met l yX8_nextSort wsX8_nextSort (zR 2 0 0) (zPc V [.ref (g 0)] (fun H => va_P V.1 vwCl (zmW V g w pa be av sl sv pd cd st le ap pl wy) H)) (vp_Si (fun r => r = (mNext w n))) 0 0 (fun _ => False) := by
  refine Met.ofW (cc := cX8_nextSort) (maxL := 2) (ret := (some .int)) (by decide) rfl ?_
  intro p e s m args below meth c s₁ B hml hv
  obtain ⟨rfl, hP, hE⟩ := hv
  have hx := B.exec
  have hb := B.bytes
  have hr := B.returns
  have hts := atoms_spec (ws := wsX8_nextSort) B.pre
  have hown : s.vm.findClass RX8 = some m.cls := findClass_of_methodNamed B.named
  have hlocks := B.notSynchronized
  have hl := lv_entry ([.ref (g 0)]) (n := 2) (Nat.le_of_ble_eq_true rfl)
  rw [lg_entry_eq]
  generalize (lg_sl ([.ref (g 0)]) ++ List.replicate (2 - (lg_sl ([.ref (g 0)])).length) Slot.unset).toArray = ls at hl ⊢
  have hl : lv_has ls 2 [(0, .ref (g 0))] := hl
  have hm1 := zCnt_le (fun k => decide (zF w k 1 = 1)) n
  have hm2 : mMany w n 1 ≤ n := hm1
  refine lv_aload_n hx hb dX8_nextSort_0 rfl (lv_at hl 0 rfl) ?_
  refine lv_iconst (v := 1) hx hb dX8_nextSort_1 (by decide +kernel) ?_
  refine zc_se (va_runV (As := [.int 1]) (rest := []) ⟨hx, hb, hml, hown, hts⟩ (c_X8_many l V g w pa be av sl sv pd cd st le ap pl wy n 1 hn h30) (cwV 1 hts (zgV_ wsM_all uM_23 uM_44 uM_45 uM_46 uM_21) rfl rfl rfl (by decide +kernel) ⟨Nat.le_of_ble_eq_true rfl, Nat.le_of_ble_eq_true rfl⟩) (zPreV (B := fun H => va_P V.1 vwCl (zmW V g w pa be av sl sv pd cd st le ap pl wy) H) hP hE (va_recv hE.1 hP (ci := 8) (q0 := 0) (q := (RX8, TX8, 13)) rfl (zm_c0 V g w pa be av sl sv pd cd st le ap pl wy))) rfl rfl hl.1 rfl (lv_room (Nat.le_of_ble_eq_true rfl)) dX8_nextSort_2 ⟨Nat.le_of_ble_eq_true rfl, Nat.le_of_ble_eq_true rfl⟩) ?_
  refine lv_istore_n (lv' := [(1, .int (nI (mMany w n 1))), (0, .ref (g 0))]) hx hb dX8_nextSort_5 rfl hl (by decide) rfl (fun ls hl => ?_)
  refine lv_iload_n hx hb dX8_nextSort_6 rfl (lv_at hl 0 rfl) ?_
  refine lv_aload_n hx hb dX8_nextSort_7 rfl (lv_at hl 1 rfl) ?_
  refine zm_get 0 (.ref (g 1)) hx hb hts (fun x h => List.mem_cons_of_mem _ (hU_X8 x h)) hown hE hP (by decide) rfl (hts _ (List.mem_cons_of_mem _ uM_5)) (fun _ h9 => h9) dX8_nextSort_8 ?_
  refine lv_bipush (v := 7) hx hb dX8_nextSort_11 (by decide +kernel) ?_
  refine z_iald (k := 7) hx hb hE hP 1 (zm_c1 V g w pa be av sl sv pd cd st le ap pl wy) (by omega) (by decide) dX8_nextSort_13 ?_
  refine zt_i hn ?_
  refine zb_ne (x := mMany w n 1) (y := n) (tgt := 21) hx hb dX8_nextSort_14 (by decide) (by omega) (by omega) (fun c_14 => ?_) (fun c_14 => ?_)
  · refine lv_iload_n hx hb dX8_nextSort_21 rfl (lv_at hl 0 rfl) ?_
    refine zb0_ne (x := mMany w n 1) (tgt := 29) hx hb dX8_nextSort_22 (by decide) (by omega) (fun c_22 => ?_) (fun c_22 => ?_)
    · refine lv_aload_n hx hb dX8_nextSort_29 rfl (lv_at hl 1 rfl) ?_
      refine zm_get 0 (.ref (g 1)) hx hb hts (fun x h => List.mem_cons_of_mem _ (hU_X8 x h)) hown hE hP (by decide) rfl (hts _ (List.mem_cons_of_mem _ uM_5)) (fun _ h9 => h9) dX8_nextSort_30 ?_
      refine lv_bipush (v := 15) hx hb dX8_nextSort_33 (by decide +kernel) ?_
      refine z_iald (k := 15) hx hb hE hP 1 (zm_c1 V g w pa be av sl sv pd cd st le ap pl wy) (by omega) (by decide) dX8_nextSort_35 ?_
      refine lv_aload_n hx hb dX8_nextSort_36 rfl (lv_at hl 1 rfl) ?_
      refine zm_get 0 (.ref (g 1)) hx hb hts (fun x h => List.mem_cons_of_mem _ (hU_X8 x h)) hown hE hP (by decide) rfl (hts _ (List.mem_cons_of_mem _ uM_5)) (fun _ h9 => h9) dX8_nextSort_37 ?_
      refine lv_iconst (v := 3) hx hb dX8_nextSort_40 (by decide +kernel) ?_
      refine z_iald (k := 3) hx hb hE hP 1 (zm_c1 V g w pa be av sl sv pd cd st le ap pl wy) (by omega) (by decide) dX8_nextSort_41 ?_
      refine lv_icmp_lt (tgt := 49) hx hb dX8_nextSort_42 (by decide) (fun c_42 => ?_) (fun c_42 => ?_)
      · refine lv_iconst (v := 0) hx hb dX8_nextSort_49 (by decide +kernel) ?_
        exact zr_si hx hb hr hlocks (by first | exact (if_pos c_14).symm | exact ((if_neg c_14).trans (if_pos c_22)).symm | exact ((if_neg c_14).trans ((if_neg c_22).trans (if_pos (z_nlt c_42)))).symm | exact ((if_neg c_14).trans ((if_neg c_22).trans (if_neg (z_lt' c_42)))).symm) dX8_nextSort_50
      · refine lv_iconst (v := 1) hx hb dX8_nextSort_45 (by decide +kernel) ?_
        refine lv_goto (tgt := 50) hx hb dX8_nextSort_46 (by decide) ?_
        exact zr_si hx hb hr hlocks (by first | exact (if_pos c_14).symm | exact ((if_neg c_14).trans (if_pos c_22)).symm | exact ((if_neg c_14).trans ((if_neg c_22).trans (if_pos (z_nlt c_42)))).symm | exact ((if_neg c_14).trans ((if_neg c_22).trans (if_neg (z_lt' c_42)))).symm) dX8_nextSort_50
    · refine lv_iconst (v := 0) hx hb dX8_nextSort_25 (by decide +kernel) ?_
      refine lv_goto (tgt := 50) hx hb dX8_nextSort_26 (by decide) ?_
      exact zr_si hx hb hr hlocks (by first | exact (if_pos c_14).symm | exact ((if_neg c_14).trans (if_pos c_22)).symm | exact ((if_neg c_14).trans ((if_neg c_22).trans (if_pos (z_nlt c_42)))).symm | exact ((if_neg c_14).trans ((if_neg c_22).trans (if_neg (z_lt' c_42)))).symm) dX8_nextSort_50
  · refine lv_iconst (v := 1) hx hb dX8_nextSort_17 (by decide +kernel) ?_
    refine lv_goto (tgt := 50) hx hb dX8_nextSort_18 (by decide) ?_
    exact zr_si hx hb hr hlocks (by first | exact (if_pos c_14).symm | exact ((if_neg c_14).trans (if_pos c_22)).symm | exact ((if_neg c_14).trans ((if_neg c_22).trans (if_pos (z_nlt c_42)))).symm | exact ((if_neg c_14).trans ((if_neg c_22).trans (if_neg (z_lt' c_42)))).symm) dX8_nextSort_50
set_option maxHeartbeats 4000000 in
set_option maxRecDepth 100000 in
theorem c_X8_minute (l : Launch) (V : zV) (g : Nat → Nat) (w pa be av sl sv pd cd : Nat → Int32) (st le ap pl wy : Int32) (k : Nat) (hk : k < 30) (hpl : pl = nI k) : Met l yX8_minute wsX8_minute (zR 1 0 0) (zPc V [.ref (g 0)] (fun H => va_P V.1 vwCl (zmW V g w pa be av sl sv pd cd st le ap pl wy) H)) (vp_Si (fun r => r = (mMinute w k))) 0 0 (fun _ => False) := by
  refine Met.ofW (cc := cX8_minute) (maxL := 1) (ret := (some .int)) (by decide) rfl ?_
  intro p e s m args below meth c s₁ B hml hv
  obtain ⟨rfl, hP, hE⟩ := hv
  have hx := B.exec
  have hb := B.bytes
  have hr := B.returns
  have hts := atoms_spec (ws := wsX8_minute) B.pre
  have hown : s.vm.findClass RX8 = some m.cls := findClass_of_methodNamed B.named
  have hlocks := B.notSynchronized
  have hl := lv_entry ([.ref (g 0)]) (n := 1) (Nat.le_of_ble_eq_true rfl)
  rw [lg_entry_eq]
  generalize (lg_sl ([.ref (g 0)]) ++ List.replicate (1 - (lg_sl ([.ref (g 0)])).length) Slot.unset).toArray = ls at hl ⊢
  have hl : lv_has ls 1 [(0, .ref (g 0))] := hl
  subst hpl
  refine lv_aload_n hx hb dX8_minute_0 rfl (lv_at hl 0 rfl) ?_
  refine zm_get 0 (.ref (g 1)) hx hb hts (fun x h => List.mem_cons_of_mem _ (hU_X8 x h)) hown hE hP (by decide) rfl (hts _ (List.mem_cons_of_mem _ uM_5)) (fun _ h9 => h9) dX8_minute_1 ?_
  refine lv_bipush (v := 6) hx hb dX8_minute_4 (by decide +kernel) ?_
  refine z_iald (k := 6) hx hb hE hP 1 (zm_c1 V g w pa be av sl sv pd cd st le ap (nI k) wy) (by omega) (by decide) dX8_minute_6 ?_
  refine lv_aload_n hx hb dX8_minute_7 rfl (lv_at hl 0 rfl) ?_
  refine zm_get 0 (.ref (g 1)) hx hb hts (fun x h => List.mem_cons_of_mem _ (hU_X8 x h)) hown hE hP (by decide) rfl (hts _ (List.mem_cons_of_mem _ uM_5)) (fun _ h9 => h9) dX8_minute_8 ?_
  refine lv_iconst (v := 4) hx hb dX8_minute_11 (by decide +kernel) ?_
  refine z_iald (k := 4) hx hb hE hP 1 (zm_c1 V g w pa be av sl sv pd cd st le ap (nI k) wy) (by omega) (by decide) dX8_minute_12 ?_
  refine lv_aload_n hx hb dX8_minute_13 rfl (lv_at hl 0 rfl) ?_
  refine lv_aload_n hx hb dX8_minute_14 rfl (lv_at hl 0 rfl) ?_
  refine zm_get 11 (.int (nI k)) hx hb hts (fun x h => List.mem_cons_of_mem _ (hU_X8 x h)) hown hE hP (by decide) rfl (hts _ (List.mem_cons_of_mem _ uM_48)) (fun _ h9 => h9) dX8_minute_15 ?_
  refine lv_iconst (v := 2) hx hb dX8_minute_18 (by decide +kernel) ?_
  refine zc_se (va_runV (As := [.int (nI k), .int 2]) (rest := [.int (w 4), .int (w 6)]) ⟨hx, hb, hml, hown, hts⟩ (c_X8_its l V g w pa be av sl sv pd cd st le ap (nI k) wy k 2 (by omega)) (cwV 2 hts (zgV_ wsM_all uM_16 uM_18 uM_19 uM_20 uM_21) rfl rfl rfl (by decide +kernel) ⟨Nat.le_of_ble_eq_true rfl, Nat.le_of_ble_eq_true rfl⟩) (zPreV (B := fun H => va_P V.1 vwCl (zmW V g w pa be av sl sv pd cd st le ap (nI k) wy) H) hP hE (va_recv hE.1 hP (ci := 8) (q0 := 0) (q := (RX8, TX8, 13)) rfl (zm_c0 V g w pa be av sl sv pd cd st le ap (nI k) wy))) rfl rfl hl.1 rfl (lv_room (Nat.le_of_ble_eq_true rfl)) dX8_minute_19 ⟨Nat.le_of_ble_eq_true rfl, Nat.le_of_ble_eq_true rfl⟩) ?_
  refine lv_aload_n hx hb dX8_minute_22 rfl (lv_at hl 0 rfl) ?_
  refine zm_get 0 (.ref (g 1)) hx hb hts (fun x h => List.mem_cons_of_mem _ (hU_X8 x h)) hown hE hP (by decide) rfl (hts _ (List.mem_cons_of_mem _ uM_5)) (fun _ h9 => h9) dX8_minute_23 ?_
  refine lv_bipush (v := 9) hx hb dX8_minute_26 (by decide +kernel) ?_
  refine z_iald (k := 9) hx hb hE hP 1 (zm_c1 V g w pa be av sl sv pd cd st le ap (nI k) wy) (by omega) (by decide) dX8_minute_28 ?_
  refine zc_se (va_runS (As := [.int (zF w k 2), .int (w 9)]) (rest := [.int (w 4), .int (w 6)]) ⟨hx, hb, hml, hown, hts⟩ (c_X8_far l V (zF w k 2) (w 9)) (va_cwS 2 hts (zgS_ wsM_all uM_15 uM_63 uM_64 uM_21) rfl rfl rfl (by decide +kernel) ⟨Nat.le_of_ble_eq_true rfl, Nat.le_of_ble_eq_true rfl⟩) (zPreS (B := fun _ => True) trivial hE) rfl rfl hl.1 rfl (lv_room (Nat.le_of_ble_eq_true rfl)) dX8_minute_29 ⟨Nat.le_of_ble_eq_true rfl, Nat.le_of_ble_eq_true rfl⟩) ?_
  refine lv_imul hx hb dX8_minute_32 ?_
  refine lv_iadd hx hb dX8_minute_33 ?_
  refine lv_aload_n hx hb dX8_minute_34 rfl (lv_at hl 0 rfl) ?_
  refine zm_get 0 (.ref (g 1)) hx hb hts (fun x h => List.mem_cons_of_mem _ (hU_X8 x h)) hown hE hP (by decide) rfl (hts _ (List.mem_cons_of_mem _ uM_5)) (fun _ h9 => h9) dX8_minute_35 ?_
  refine lv_iconst (v := 5) hx hb dX8_minute_38 (by decide +kernel) ?_
  refine z_iald (k := 5) hx hb hE hP 1 (zm_c1 V g w pa be av sl sv pd cd st le ap (nI k) wy) (by omega) (by decide) dX8_minute_39 ?_
  refine lv_aload_n hx hb dX8_minute_40 rfl (lv_at hl 0 rfl) ?_
  refine lv_aload_n hx hb dX8_minute_41 rfl (lv_at hl 0 rfl) ?_
  refine zm_get 11 (.int (nI k)) hx hb hts (fun x h => List.mem_cons_of_mem _ (hU_X8 x h)) hown hE hP (by decide) rfl (hts _ (List.mem_cons_of_mem _ uM_48)) (fun _ h9 => h9) dX8_minute_42 ?_
  refine lv_iconst (v := 3) hx hb dX8_minute_45 (by decide +kernel) ?_
  refine zc_se (va_runV (As := [.int (nI k), .int 3]) (rest := [.int (w 5), .int ((w 6) + ((w 4) * (mFar (zF w k 2) (w 9))))]) ⟨hx, hb, hml, hown, hts⟩ (c_X8_its l V g w pa be av sl sv pd cd st le ap (nI k) wy k 3 (by omega)) (cwV 2 hts (zgV_ wsM_all uM_16 uM_18 uM_19 uM_20 uM_21) rfl rfl rfl (by decide +kernel) ⟨Nat.le_of_ble_eq_true rfl, Nat.le_of_ble_eq_true rfl⟩) (zPreV (B := fun H => va_P V.1 vwCl (zmW V g w pa be av sl sv pd cd st le ap (nI k) wy) H) hP hE (va_recv hE.1 hP (ci := 8) (q0 := 0) (q := (RX8, TX8, 13)) rfl (zm_c0 V g w pa be av sl sv pd cd st le ap (nI k) wy))) rfl rfl hl.1 rfl (lv_room (Nat.le_of_ble_eq_true rfl)) dX8_minute_46 ⟨Nat.le_of_ble_eq_true rfl, Nat.le_of_ble_eq_true rfl⟩) ?_
  refine lv_imul hx hb dX8_minute_49 ?_
  refine lv_iadd hx hb dX8_minute_50 ?_
  exact zr_si hx hb hr hlocks (by rfl) dX8_minute_51
set_option maxHeartbeats 4000000 in
set_option maxRecDepth 100000 in
theorem c_X8_isSlip (l : Launch) (V : zV) (a d mm : Int32) : Met l yX8_isSlip wsX8_isSlip (zR 1 0 0) (zPc V [.int a, .int d, .int mm] (fun H => True)) (vp_Si (fun r => r = (if mSlip a d mm then 1 else 0))) 0 0 (fun _ => False) := by
  refine Met.ofW (cc := cX8_isSlip) (maxL := 3) (ret := (some .boolean)) (by decide) rfl ?_
  intro p e s m args below meth c s₁ B hml hv
  obtain ⟨rfl, hP, hE⟩ := hv
  have hx := B.exec
  have hb := B.bytes
  have hr := B.returns
  have hts := atoms_spec (ws := wsX8_isSlip) B.pre
  have hown : s.vm.findClass RX8 = some m.cls := findClass_of_methodNamed B.named
  have hlocks := B.notSynchronized
  have hl := lv_entry ([.int a, .int d, .int mm]) (n := 3) (Nat.le_of_ble_eq_true rfl)
  rw [lg_entry_eq]
  generalize (lg_sl ([.int a, .int d, .int mm]) ++ List.replicate (3 - (lg_sl ([.int a, .int d, .int mm])).length) Slot.unset).toArray = ls at hl ⊢
  have hl : lv_has ls 3 [(0, .int a), (1, .int d), (2, .int mm)] := hl
  refine lv_iload_n hx hb dX8_isSlip_0 rfl (lv_at hl 0 rfl) ?_
  refine lv_i2l (v := a.toInt64) hx hb dX8_isSlip_1 rfl ?_
  refine lv_iconst (v := 0) hx hb dX8_isSlip_2 (by decide +kernel) ?_
  refine lv_iconst (v := 1) hx hb dX8_isSlip_3 (by decide +kernel) ?_
  refine zc_se (va_runS (As := [.long a.toInt64, .int 0, .int 1]) (rest := []) ⟨hx, hb, hml, hown, hts⟩ (c_X8_in l V a 0 1) (va_cwS 3 hts (zgS_ wsM_all uM_14 uM_29 uM_30 uM_21) rfl rfl rfl (by decide +kernel) ⟨Nat.le_of_ble_eq_true rfl, Nat.le_of_ble_eq_true rfl⟩) (zPreS (B := fun _ => True) trivial hE) rfl rfl hl.1 rfl (lv_room (Nat.le_of_ble_eq_true rfl)) dX8_isSlip_4 ⟨Nat.le_of_ble_eq_true rfl, Nat.le_of_ble_eq_true rfl⟩) ?_
  refine zbp_eq (P := 0 ≤ a ∧ a ≤ 1) (tgt := 44) hx hb dX8_isSlip_7 (by decide) (fun c_7 => ?_) (fun c_7 => ?_)
  · refine lv_iconst (v := 0) hx hb dX8_isSlip_44 (by decide +kernel) ?_
    exact zr_sz hx hb hr hlocks (by first | exact Or.inl rfl | exact Or.inr rfl | assumption) (by first | exact (if_neg (fun h => c_7 h.1)).symm | exact (if_neg (fun h => c_18 h.2.1)).symm | exact (if_neg (fun h => c_29 h.2.2.1)).symm | exact (if_neg (fun h => z_lt' c_37 h.2.2.2)).symm | exact (if_pos ⟨c_7, c_18, c_29, z_nlt c_37⟩).symm) dX8_isSlip_45
  · refine lv_iload_n hx hb dX8_isSlip_10 rfl (lv_at hl 1 rfl) ?_
    refine lv_i2l (v := d.toInt64) hx hb dX8_isSlip_11 rfl ?_
    refine lv_iconst (v := 0) hx hb dX8_isSlip_12 (by decide +kernel) ?_
    refine lv_bipush (v := 99) hx hb dX8_isSlip_13 (by decide +kernel) ?_
    refine zc_se (va_runS (As := [.long d.toInt64, .int 0, .int 99]) (rest := []) ⟨hx, hb, hml, hown, hts⟩ (c_X8_in l V d 0 99) (va_cwS 3 hts (zgS_ wsM_all uM_14 uM_29 uM_30 uM_21) rfl rfl rfl (by decide +kernel) ⟨Nat.le_of_ble_eq_true rfl, Nat.le_of_ble_eq_true rfl⟩) (zPreS (B := fun _ => True) trivial hE) rfl rfl hl.1 rfl (lv_room (Nat.le_of_ble_eq_true rfl)) dX8_isSlip_15 ⟨Nat.le_of_ble_eq_true rfl, Nat.le_of_ble_eq_true rfl⟩) ?_
    refine zbp_eq (P := 0 ≤ d ∧ d ≤ 99) (tgt := 44) hx hb dX8_isSlip_18 (by decide) (fun c_18 => ?_) (fun c_18 => ?_)
    · refine lv_iconst (v := 0) hx hb dX8_isSlip_44 (by decide +kernel) ?_
      exact zr_sz hx hb hr hlocks (by first | exact Or.inl rfl | exact Or.inr rfl | assumption) (by first | exact (if_neg (fun h => c_7 h.1)).symm | exact (if_neg (fun h => c_18 h.2.1)).symm | exact (if_neg (fun h => c_29 h.2.2.1)).symm | exact (if_neg (fun h => z_lt' c_37 h.2.2.2)).symm | exact (if_pos ⟨c_7, c_18, c_29, z_nlt c_37⟩).symm) dX8_isSlip_45
    · refine lv_iload_n hx hb dX8_isSlip_21 rfl (lv_at hl 2 rfl) ?_
      refine lv_i2l (v := mm.toInt64) hx hb dX8_isSlip_22 rfl ?_
      refine lv_iconst (v := 1) hx hb dX8_isSlip_23 (by decide +kernel) ?_
      refine lv_bipush (v := 9) hx hb dX8_isSlip_24 (by decide +kernel) ?_
      refine zc_se (va_runS (As := [.long mm.toInt64, .int 1, .int 9]) (rest := []) ⟨hx, hb, hml, hown, hts⟩ (c_X8_in l V mm 1 9) (va_cwS 3 hts (zgS_ wsM_all uM_14 uM_29 uM_30 uM_21) rfl rfl rfl (by decide +kernel) ⟨Nat.le_of_ble_eq_true rfl, Nat.le_of_ble_eq_true rfl⟩) (zPreS (B := fun _ => True) trivial hE) rfl rfl hl.1 rfl (lv_room (Nat.le_of_ble_eq_true rfl)) dX8_isSlip_26 ⟨Nat.le_of_ble_eq_true rfl, Nat.le_of_ble_eq_true rfl⟩) ?_
      refine zbp_eq (P := 1 ≤ mm ∧ mm ≤ 9) (tgt := 44) hx hb dX8_isSlip_29 (by decide) (fun c_29 => ?_) (fun c_29 => ?_)
      · refine lv_iconst (v := 0) hx hb dX8_isSlip_44 (by decide +kernel) ?_
        exact zr_sz hx hb hr hlocks (by first | exact Or.inl rfl | exact Or.inr rfl | assumption) (by first | exact (if_neg (fun h => c_7 h.1)).symm | exact (if_neg (fun h => c_18 h.2.1)).symm | exact (if_neg (fun h => c_29 h.2.2.1)).symm | exact (if_neg (fun h => z_lt' c_37 h.2.2.2)).symm | exact (if_pos ⟨c_7, c_18, c_29, z_nlt c_37⟩).symm) dX8_isSlip_45
      · refine lv_iload_n hx hb dX8_isSlip_32 rfl (lv_at hl 1 rfl) ?_
        refine lv_iload_n hx hb dX8_isSlip_33 rfl (lv_at hl 2 rfl) ?_
        refine lv_iadd hx hb dX8_isSlip_34 ?_
        refine lv_bipush (v := 100) hx hb dX8_isSlip_35 (by decide +kernel) ?_
        refine lv_icmp_gt (tgt := 44) hx hb dX8_isSlip_37 (by decide) (fun c_37 => ?_) (fun c_37 => ?_)
        · refine lv_iconst (v := 0) hx hb dX8_isSlip_44 (by decide +kernel) ?_
          exact zr_sz hx hb hr hlocks (by first | exact Or.inl rfl | exact Or.inr rfl | assumption) (by first | exact (if_neg (fun h => c_7 h.1)).symm | exact (if_neg (fun h => c_18 h.2.1)).symm | exact (if_neg (fun h => c_29 h.2.2.1)).symm | exact (if_neg (fun h => z_lt' c_37 h.2.2.2)).symm | exact (if_pos ⟨c_7, c_18, c_29, z_nlt c_37⟩).symm) dX8_isSlip_45
        · refine lv_iconst (v := 1) hx hb dX8_isSlip_40 (by decide +kernel) ?_
          refine lv_goto (tgt := 45) hx hb dX8_isSlip_41 (by decide) ?_
          exact zr_sz hx hb hr hlocks (by first | exact Or.inl rfl | exact Or.inr rfl | assumption) (by first | exact (if_neg (fun h => c_7 h.1)).symm | exact (if_neg (fun h => c_18 h.2.1)).symm | exact (if_neg (fun h => c_29 h.2.2.1)).symm | exact (if_neg (fun h => z_lt' c_37 h.2.2.2)).symm | exact (if_pos ⟨c_7, c_18, c_29, z_nlt c_37⟩).symm) dX8_isSlip_45
set_option maxHeartbeats 4000000 in
set_option maxRecDepth 100000 in
theorem c_X8_partner (l : Launch) (V : zV) (g : Nat → Nat) (w pa be av sl sv pd cd : Nat → Int32) (st le ap pl wy : Int32) (n : Nat) (wr d mm : Int32) (hn : w 7 = nI n) (h30 : n ≤ 30) : Met l yX8_partner wsX8_partner (zR 2 0 0) (zPc V [.ref (g 0), .int wr, .int d, .int mm] (fun H => va_P V.1 vwCl (zmW V g w pa be av sl sv pd cd st le ap pl wy) H)) (vp_Si (fun r => r = (zoI (mPart w n wr d mm)))) 0 0 (fun _ => False) := by
  refine Met.ofW (cc := cX8_partner) (maxL := 5) (ret := (some .int)) (by decide) rfl ?_
  intro p e s m args below meth c s₁ B hml hv
  obtain ⟨rfl, hP, hE⟩ := hv
  have hx := B.exec
  have hb := B.bytes
  have hr := B.returns
  have hts := atoms_spec (ws := wsX8_partner) B.pre
  have hown : s.vm.findClass RX8 = some m.cls := findClass_of_methodNamed B.named
  have hlocks := B.notSynchronized
  have hl := lv_entry ([.ref (g 0), .int wr, .int d, .int mm]) (n := 5) (Nat.le_of_ble_eq_true rfl)
  rw [lg_entry_eq]
  generalize (lg_sl ([.ref (g 0), .int wr, .int d, .int mm]) ++ List.replicate (5 - (lg_sl ([.ref (g 0), .int wr, .int d, .int mm])).length) Slot.unset).toArray = ls at hl ⊢
  have hl : lv_has ls 5 [(0, .ref (g 0)), (1, .int wr), (2, .int d), (3, .int mm)] := hl
  refine lv_iconst (v := 0) hx hb dX8_partner_0 (by decide +kernel) ?_
  refine lv_istore (lv' := [(4, .int 0), (0, .ref (g 0)), (1, .int wr), (2, .int d), (3, .int mm)]) hx hb dX8_partner_1 hl (by decide) rfl (fun ls hl => ?_)
  have L_3 : ∀ (n_ i : Nat) (ls : Array Slot), i ≤ n → n + 1 ≤ i + n_ → (mPart w i wr d mm = none) → lv_has ls 5 [(4, .int (nI i)), (0, .ref (g 0)), (1, .int wr), (2, .int d), (3, .int mm)] → W p l e (headSpec wsX8_partner (zR 2 0 0)).room s m (List.toArray [.ref (g 0), .int wr, .int d, .int mm]) below meth c s.heap [] 0 0 (MQ below (vp_Si (fun r => r = (zoI (mPart w n wr d mm)))) (List.toArray [.ref (g 0), .int wr, .int d, .int mm]) s 0 0 (fun _ => False)) (F0 m 3 ls []) := by
    intro n_
    induction n_ with
    | zero => intro i   ls hi_ hn_; exact absurd hn_ (by omega)
    | succ n_ ih =>
      intro i   ls hi_ hn_ hno  hl
      refine lv_iload hx hb dX8_partner_3 (lv_at hl 0 rfl) ?_
      refine lv_aload_n hx hb dX8_partner_5 rfl (lv_at hl 1 rfl) ?_
      refine zm_get 0 (.ref (g 1)) hx hb hts (fun x h => List.mem_cons_of_mem _ (hU_X8 x h)) hown hE hP (by decide) rfl (hts _ (List.mem_cons_of_mem _ uM_5)) (fun _ h9 => h9) dX8_partner_6 ?_
      refine lv_bipush (v := 7) hx hb dX8_partner_9 (by decide +kernel) ?_
      refine z_iald (k := 7) hx hb hE hP 1 (zm_c1 V g w pa be av sl sv pd cd st le ap pl wy) (by omega) (by decide) dX8_partner_11 ?_
      refine zt_i hn ?_
      refine zb_ge (x := i) (y := n) (tgt := 61) hx hb dX8_partner_12 (by decide) (by omega) (by omega) (fun c_12 => ?_) (fun c_12 => ?_)
      · refine lv_bipush (v := (-6)) hx hb dX8_partner_61 (by decide +kernel) ?_
        exact zr_si hx hb hr hlocks (by rw [show n = i by omega, hno]; rfl) dX8_partner_63
      · refine lv_aload_n hx hb dX8_partner_15 rfl (lv_at hl 1 rfl) ?_
        refine lv_iload hx hb dX8_partner_16 (lv_at hl 0 rfl) ?_
        refine lv_iconst (v := 1) hx hb dX8_partner_18 (by decide +kernel) ?_
        refine zc_se (va_runV (As := [.int (nI i), .int 1]) (rest := []) ⟨hx, hb, hml, hown, hts⟩ (c_X8_its l V g w pa be av sl sv pd cd st le ap pl wy i 1 (by omega)) (cwV 2 hts (zgV_ wsM_all uM_16 uM_18 uM_19 uM_20 uM_21) rfl rfl rfl (by decide +kernel) ⟨Nat.le_of_ble_eq_true rfl, Nat.le_of_ble_eq_true rfl⟩) (zPreV (B := fun H => va_P V.1 vwCl (zmW V g w pa be av sl sv pd cd st le ap pl wy) H) hP hE (va_recv hE.1 hP (ci := 8) (q0 := 0) (q := (RX8, TX8, 13)) rfl (zm_c0 V g w pa be av sl sv pd cd st le ap pl wy))) rfl rfl hl.1 rfl (lv_room (Nat.le_of_ble_eq_true rfl)) dX8_partner_19 ⟨Nat.le_of_ble_eq_true rfl, Nat.le_of_ble_eq_true rfl⟩) ?_
        refine lv_iload_n hx hb dX8_partner_22 rfl (lv_at hl 2 rfl) ?_
        refine lv_icmp_ne (tgt := 55) hx hb dX8_partner_23 (by decide) (fun c_23 => ?_) (fun c_23 => ?_)
        · refine lv_iinc (v := nI (i + 1)) (lv' := [(4, .int (nI (i + 1))), (0, .ref (g 0)), (1, .int wr), (2, .int d), (3, .int mm)]) hx hb dX8_partner_55 hl (k := 0) rfl (z_inc1 i) (by decide) rfl (fun ls hl => ?_)
          refine lv_goto (tgt := 3) hx hb dX8_partner_58 (by decide) ?_
          exact ih (i + 1) ls (by omega) (by omega) (zFirst_no hno (by first | exact decide_eq_false (fun h => c_23 h.1) | exact decide_eq_false (fun h => c_35 h.2.1) | exact decide_eq_false (fun h => z_lt' c_49 h.2.2))) (lv_sub hl [0, 1, 2, 3, 4] rfl)
        · refine lv_aload_n hx hb dX8_partner_26 rfl (lv_at hl 1 rfl) ?_
          refine lv_iload hx hb dX8_partner_27 (lv_at hl 0 rfl) ?_
          refine zc_se (va_runV (As := [.int (nI i)]) (rest := []) ⟨hx, hb, hml, hown, hts⟩ (c_X8_lastOf l V g w pa be av sl sv pd cd st le ap pl wy i (by omega)) (cwV 1 hts (zgV_ wsM_all uM_17 uM_74 uM_75 uM_76 uM_21) rfl rfl rfl (by decide +kernel) ⟨Nat.le_of_ble_eq_true rfl, Nat.le_of_ble_eq_true rfl⟩) (zPreV (B := fun H => va_P V.1 vwCl (zmW V g w pa be av sl sv pd cd st le ap pl wy) H) hP hE (va_recv hE.1 hP (ci := 8) (q0 := 0) (q := (RX8, TX8, 13)) rfl (zm_c0 V g w pa be av sl sv pd cd st le ap pl wy))) rfl rfl hl.1 rfl (lv_room (Nat.le_of_ble_eq_true rfl)) dX8_partner_29 ⟨Nat.le_of_ble_eq_true rfl, Nat.le_of_ble_eq_true rfl⟩) ?_
          refine lv_iload_n hx hb dX8_partner_32 rfl (lv_at hl 3 rfl) ?_
          refine lv_iconst (v := 1) hx hb dX8_partner_33 (by decide +kernel) ?_
          refine lv_isub hx hb dX8_partner_34 ?_
          refine lv_icmp_ne (tgt := 55) hx hb dX8_partner_35 (by decide) (fun c_35 => ?_) (fun c_35 => ?_)
          · refine lv_iinc (v := nI (i + 1)) (lv' := [(4, .int (nI (i + 1))), (0, .ref (g 0)), (1, .int wr), (2, .int d), (3, .int mm)]) hx hb dX8_partner_55 hl (k := 0) rfl (z_inc1 i) (by decide) rfl (fun ls hl => ?_)
            refine lv_goto (tgt := 3) hx hb dX8_partner_58 (by decide) ?_
            exact ih (i + 1) ls (by omega) (by omega) (zFirst_no hno (by first | exact decide_eq_false (fun h => c_23 h.1) | exact decide_eq_false (fun h => c_35 h.2.1) | exact decide_eq_false (fun h => z_lt' c_49 h.2.2))) (lv_sub hl [0, 1, 2, 3, 4] rfl)
          · refine lv_aload_n hx hb dX8_partner_38 rfl (lv_at hl 1 rfl) ?_
            refine lv_iload hx hb dX8_partner_39 (lv_at hl 0 rfl) ?_
            refine lv_iconst (v := 3) hx hb dX8_partner_41 (by decide +kernel) ?_
            refine zc_se (va_runV (As := [.int (nI i), .int 3]) (rest := []) ⟨hx, hb, hml, hown, hts⟩ (c_X8_its l V g w pa be av sl sv pd cd st le ap pl wy i 3 (by omega)) (cwV 2 hts (zgV_ wsM_all uM_16 uM_18 uM_19 uM_20 uM_21) rfl rfl rfl (by decide +kernel) ⟨Nat.le_of_ble_eq_true rfl, Nat.le_of_ble_eq_true rfl⟩) (zPreV (B := fun H => va_P V.1 vwCl (zmW V g w pa be av sl sv pd cd st le ap pl wy) H) hP hE (va_recv hE.1 hP (ci := 8) (q0 := 0) (q := (RX8, TX8, 13)) rfl (zm_c0 V g w pa be av sl sv pd cd st le ap pl wy))) rfl rfl hl.1 rfl (lv_room (Nat.le_of_ble_eq_true rfl)) dX8_partner_42 ⟨Nat.le_of_ble_eq_true rfl, Nat.le_of_ble_eq_true rfl⟩) ?_
            refine lv_iload_n hx hb dX8_partner_45 rfl (lv_at hl 4 rfl) ?_
            refine lv_iadd hx hb dX8_partner_46 ?_
            refine lv_bipush (v := 9) hx hb dX8_partner_47 (by decide +kernel) ?_
            refine lv_icmp_gt (tgt := 55) hx hb dX8_partner_49 (by decide) (fun c_49 => ?_) (fun c_49 => ?_)
            · refine lv_iinc (v := nI (i + 1)) (lv' := [(4, .int (nI (i + 1))), (0, .ref (g 0)), (1, .int wr), (2, .int d), (3, .int mm)]) hx hb dX8_partner_55 hl (k := 0) rfl (z_inc1 i) (by decide) rfl (fun ls hl => ?_)
              refine lv_goto (tgt := 3) hx hb dX8_partner_58 (by decide) ?_
              exact ih (i + 1) ls (by omega) (by omega) (zFirst_no hno (by first | exact decide_eq_false (fun h => c_23 h.1) | exact decide_eq_false (fun h => c_35 h.2.1) | exact decide_eq_false (fun h => z_lt' c_49 h.2.2))) (lv_sub hl [0, 1, 2, 3, 4] rfl)
            · refine lv_iload hx hb dX8_partner_52 (lv_at hl 0 rfl) ?_
              exact zr_si hx hb hr hlocks (by rw [mPart, zFirst_hit hno (decide_eq_true ⟨c_23, c_35, z_nlt c_49⟩) (by omega)]; rfl) dX8_partner_54
  exact L_3 (n + 1) 0 ls (by omega) (by omega) rfl (lv_sub hl [0, 1, 2, 3, 4] rfl)
def mLeast (x : Int32) : Int32 := if x = 4 then 0 else 1
def mMost (x : Int32) : Int32 := if x < 2 then 999 else if x = 2 then 16 else if x = 5 then 20 else 9
theorem z_lg {ago : Int32} {e : Nat} (he : e ≤ 20) (h : 0 ≤ ago ∧ ago ≤ nI e - 1) : ∃ j : Nat, ago = nI j ∧ j < e := by
  obtain ⟨h1, h2⟩ := h
  have h3 : (nI e - nI 1).toInt = (e : Int) - (1 : Nat) := pk_sub_toInt (by omega) (by decide)
  rw [Int32.le_iff_toInt_le, show nI e - 1 = nI e - nI 1 from rfl, h3] at h2
  obtain ⟨j, hj, rfl⟩ := nI_of (x := ago) (z_le' h1)
  rw [nI_toInt hj] at h2
  exact ⟨j, rfl, by omega⟩
set_option maxHeartbeats 4000000 in
set_option maxRecDepth 100000 in
theorem c_X8_leastOf (l : Launch) (V : zV) (x : Int32) : Met l yX8_leastOf wsX8_leastOf (zR 0 0 0) (zPc V [.int x] (fun H => True)) (vp_Si (fun r => r = (mLeast x))) 0 0 (fun _ => False) := by
  refine Met.ofW (cc := cX8_leastOf) (maxL := 1) (ret := (some .int)) (by decide) rfl ?_
  intro p e s m args below meth c s₁ B hml hv
  obtain ⟨rfl, hP, hE⟩ := hv
  have hx := B.exec
  have hb := B.bytes
  have hr := B.returns
  have hts := atoms_spec (ws := wsX8_leastOf) B.pre
  have hown : s.vm.findClass RX8 = some m.cls := findClass_of_methodNamed B.named
  have hlocks := B.notSynchronized
  have hl := lv_entry ([.int x]) (n := 1) (Nat.le_of_ble_eq_true rfl)
  rw [lg_entry_eq]
  generalize (lg_sl ([.int x]) ++ List.replicate (1 - (lg_sl ([.int x])).length) Slot.unset).toArray = ls at hl ⊢
  have hl : lv_has ls 1 [(0, .int x)] := hl
  refine lv_iload_n hx hb dX8_leastOf_0 rfl (lv_at hl 0 rfl) ?_
  refine lv_iconst (v := 4) hx hb dX8_leastOf_1 (by decide +kernel) ?_
  refine lv_icmp_ne (tgt := 9) hx hb dX8_leastOf_2 (by decide) (fun c_2 => ?_) (fun c_2 => ?_)
  · refine lv_iconst (v := 1) hx hb dX8_leastOf_9 (by decide +kernel) ?_
    exact zr_si hx hb hr hlocks (by first | exact (if_neg c_2).symm | exact (if_pos c_2).symm) dX8_leastOf_10
  · refine lv_iconst (v := 0) hx hb dX8_leastOf_5 (by decide +kernel) ?_
    refine lv_goto (tgt := 10) hx hb dX8_leastOf_6 (by decide) ?_
    exact zr_si hx hb hr hlocks (by first | exact (if_neg c_2).symm | exact (if_pos c_2).symm) dX8_leastOf_10
set_option maxHeartbeats 4000000 in
set_option maxRecDepth 100000 in
theorem c_X8_mostOf (l : Launch) (V : zV) (x : Int32) : Met l yX8_mostOf wsX8_mostOf (zR 0 0 0) (zPc V [.int x] (fun H => True)) (vp_Si (fun r => r = (mMost x))) 0 0 (fun _ => False) := by
  refine Met.ofW (cc := cX8_mostOf) (maxL := 1) (ret := (some .int)) (by decide) rfl ?_
  intro p e s m args below meth c s₁ B hml hv
  obtain ⟨rfl, hP, hE⟩ := hv
  have hx := B.exec
  have hb := B.bytes
  have hr := B.returns
  have hts := atoms_spec (ws := wsX8_mostOf) B.pre
  have hown : s.vm.findClass RX8 = some m.cls := findClass_of_methodNamed B.named
  have hlocks := B.notSynchronized
  have hl := lv_entry ([.int x]) (n := 1) (Nat.le_of_ble_eq_true rfl)
  rw [lg_entry_eq]
  generalize (lg_sl ([.int x]) ++ List.replicate (1 - (lg_sl ([.int x])).length) Slot.unset).toArray = ls at hl ⊢
  have hl : lv_has ls 1 [(0, .int x)] := hl
  refine lv_iload_n hx hb dX8_mostOf_0 rfl (lv_at hl 0 rfl) ?_
  refine lv_iconst (v := 2) hx hb dX8_mostOf_1 (by decide +kernel) ?_
  refine lv_icmp_ge (tgt := 11) hx hb dX8_mostOf_2 (by decide) (fun c_2 => ?_) (fun c_2 => ?_)
  · refine lv_iload_n hx hb dX8_mostOf_11 rfl (lv_at hl 0 rfl) ?_
    refine lv_iconst (v := 2) hx hb dX8_mostOf_12 (by decide +kernel) ?_
    refine lv_icmp_ne (tgt := 21) hx hb dX8_mostOf_13 (by decide) (fun c_13 => ?_) (fun c_13 => ?_)
    · refine lv_iload_n hx hb dX8_mostOf_21 rfl (lv_at hl 0 rfl) ?_
      refine lv_iconst (v := 5) hx hb dX8_mostOf_22 (by decide +kernel) ?_
      refine lv_icmp_ne (tgt := 31) hx hb dX8_mostOf_23 (by decide) (fun c_23 => ?_) (fun c_23 => ?_)
      · refine lv_bipush (v := 9) hx hb dX8_mostOf_31 (by decide +kernel) ?_
        exact zr_si hx hb hr hlocks (by first | exact (if_pos (z_nle c_2)).symm | exact ((if_neg (z_le' c_2)).trans (if_pos c_13)).symm | exact ((if_neg (z_le' c_2)).trans ((if_neg c_13).trans (if_pos c_23))).symm | exact ((if_neg (z_le' c_2)).trans ((if_neg c_13).trans (if_neg c_23))).symm) dX8_mostOf_33
      · refine lv_bipush (v := 20) hx hb dX8_mostOf_26 (by decide +kernel) ?_
        refine lv_goto (tgt := 33) hx hb dX8_mostOf_28 (by decide) ?_
        exact zr_si hx hb hr hlocks (by first | exact (if_pos (z_nle c_2)).symm | exact ((if_neg (z_le' c_2)).trans (if_pos c_13)).symm | exact ((if_neg (z_le' c_2)).trans ((if_neg c_13).trans (if_pos c_23))).symm | exact ((if_neg (z_le' c_2)).trans ((if_neg c_13).trans (if_neg c_23))).symm) dX8_mostOf_33
    · refine lv_bipush (v := 16) hx hb dX8_mostOf_16 (by decide +kernel) ?_
      refine lv_goto (tgt := 33) hx hb dX8_mostOf_18 (by decide) ?_
      exact zr_si hx hb hr hlocks (by first | exact (if_pos (z_nle c_2)).symm | exact ((if_neg (z_le' c_2)).trans (if_pos c_13)).symm | exact ((if_neg (z_le' c_2)).trans ((if_neg c_13).trans (if_pos c_23))).symm | exact ((if_neg (z_le' c_2)).trans ((if_neg c_13).trans (if_neg c_23))).symm) dX8_mostOf_33
  · refine lv_sipush (v := 999) hx hb dX8_mostOf_5 (by decide +kernel) ?_
    refine lv_goto (tgt := 33) hx hb dX8_mostOf_8 (by decide) ?_
    exact zr_si hx hb hr hlocks (by first | exact (if_pos (z_nle c_2)).symm | exact ((if_neg (z_le' c_2)).trans (if_pos c_13)).symm | exact ((if_neg (z_le' c_2)).trans ((if_neg c_13).trans (if_pos c_23))).symm | exact ((if_neg (z_le' c_2)).trans ((if_neg c_13).trans (if_neg c_23))).symm) dX8_mostOf_33
set_option maxHeartbeats 4000000 in
set_option maxRecDepth 100000 in
theorem c_X8_sees (l : Launch) (V : zV) (g : Nat → Nat) (w pa be av sl sv pd cd : Nat → Int32) (st le ap pl wy : Int32) (a n : Nat) (lo hi : Int32) (hap : ap = nI a) (hle : le = nI n) (h80 : n ≤ 80) (ha : a < 2 ^ 31) : Met l yX8_sees wsX8_sees (zR 1 0 0) (zPc V [.ref (g 0), .int lo, .int hi] (fun H => va_P V.1 vwCl (zmW V g w pa be av sl sv pd cd st le ap pl wy) H)) (vp_Si (fun r => r = (if a < n ∧ (lo ≤ pd a ∧ pd a ≤ hi) then 1 else 0))) 0 0 (fun _ => False) := by
  refine Met.ofW (cc := cX8_sees) (maxL := 3) (ret := (some .boolean)) (by decide) rfl ?_
  intro p e s m args below meth c s₁ B hml hv
  obtain ⟨rfl, hP, hE⟩ := hv
  have hx := B.exec
  have hb := B.bytes
  have hr := B.returns
  have hts := atoms_spec (ws := wsX8_sees) B.pre
  have hown : s.vm.findClass RX8 = some m.cls := findClass_of_methodNamed B.named
  have hlocks := B.notSynchronized
  have hl := lv_entry ([.ref (g 0), .int lo, .int hi]) (n := 3) (Nat.le_of_ble_eq_true rfl)
  rw [lg_entry_eq]
  generalize (lg_sl ([.ref (g 0), .int lo, .int hi]) ++ List.replicate (3 - (lg_sl ([.ref (g 0), .int lo, .int hi])).length) Slot.unset).toArray = ls at hl ⊢
  have hl : lv_has ls 3 [(0, .ref (g 0)), (1, .int lo), (2, .int hi)] := hl
  subst hap
  subst hle
  refine lv_aload_n hx hb dX8_sees_0 rfl (lv_at hl 0 rfl) ?_
  refine zm_get 9 (.int (nI a)) hx hb hts (fun x h => List.mem_cons_of_mem _ (hU_X8 x h)) hown hE hP (by decide) rfl (hts _ (List.mem_cons_of_mem _ uM_143)) (fun _ h9 => h9) dX8_sees_1 ?_
  refine lv_aload_n hx hb dX8_sees_4 rfl (lv_at hl 0 rfl) ?_
  refine zm_get 8 (.int (nI n)) hx hb hts (fun x h => List.mem_cons_of_mem _ (hU_X8 x h)) hown hE hP (by decide) rfl (hts _ (List.mem_cons_of_mem _ uM_134)) (fun _ h9 => h9) dX8_sees_5 ?_
  refine zb_ge (x := a) (y := n) (tgt := 33) hx hb dX8_sees_8 (by decide) (by omega) (by omega) (fun c_8 => ?_) (fun c_8 => ?_)
  · refine lv_iconst (v := 0) hx hb dX8_sees_33 (by decide +kernel) ?_
    exact zr_sz hx hb hr hlocks (by first | exact Or.inl rfl | exact Or.inr rfl | assumption) (by first | exact (if_neg (fun h => absurd h.1 (by omega))).symm | exact (if_pos ⟨c_8, c_26⟩).symm | exact (if_neg (fun h => c_26 h.2)).symm) dX8_sees_34
  · refine lv_aload_n hx hb dX8_sees_11 rfl (lv_at hl 0 rfl) ?_
    refine zm_get 7 (.ref (g 7)) hx hb hts (fun x h => List.mem_cons_of_mem _ (hU_X8 x h)) hown hE hP (by decide) rfl (hts _ (List.mem_cons_of_mem _ uM_12)) (fun _ h9 => h9) dX8_sees_12 ?_
    refine lv_aload_n hx hb dX8_sees_15 rfl (lv_at hl 0 rfl) ?_
    refine zm_get 9 (.int (nI a)) hx hb hts (fun x h => List.mem_cons_of_mem _ (hU_X8 x h)) hown hE hP (by decide) rfl (hts _ (List.mem_cons_of_mem _ uM_143)) (fun _ h9 => h9) dX8_sees_16 ?_
    refine z_iald (k := a) hx hb hE hP 7 (zm_c7 V g w pa be av sl sv pd cd st (nI n) (nI a) pl wy) (by omega) (by decide) dX8_sees_19 ?_
    refine lv_i2l (v := (pd a).toInt64) hx hb dX8_sees_20 rfl ?_
    refine lv_iload_n hx hb dX8_sees_21 rfl (lv_at hl 1 rfl) ?_
    refine lv_iload_n hx hb dX8_sees_22 rfl (lv_at hl 2 rfl) ?_
    refine zc_se (va_runS (As := [.long ((pd a).toInt64), .int lo, .int hi]) (rest := []) ⟨hx, hb, hml, hown, hts⟩ (c_X8_in l V (pd a) lo hi) (va_cwS 3 hts (zgS_ wsM_all uM_14 uM_29 uM_30 uM_21) rfl rfl rfl (by decide +kernel) ⟨Nat.le_of_ble_eq_true rfl, Nat.le_of_ble_eq_true rfl⟩) (zPreS (B := fun _ => True) trivial hE) rfl rfl hl.1 rfl (lv_room (Nat.le_of_ble_eq_true rfl)) dX8_sees_23 ⟨Nat.le_of_ble_eq_true rfl, Nat.le_of_ble_eq_true rfl⟩) ?_
    refine zbp_eq (P := lo ≤ pd a ∧ pd a ≤ hi) (tgt := 33) hx hb dX8_sees_26 (by decide) (fun c_26 => ?_) (fun c_26 => ?_)
    · refine lv_iconst (v := 0) hx hb dX8_sees_33 (by decide +kernel) ?_
      exact zr_sz hx hb hr hlocks (by first | exact Or.inl rfl | exact Or.inr rfl | assumption) (by first | exact (if_neg (fun h => absurd h.1 (by omega))).symm | exact (if_pos ⟨c_8, c_26⟩).symm | exact (if_neg (fun h => c_26 h.2)).symm) dX8_sees_34
    · refine lv_iconst (v := 1) hx hb dX8_sees_29 (by decide +kernel) ?_
      refine lv_goto (tgt := 34) hx hb dX8_sees_30 (by decide) ?_
      exact zr_sz hx hb hr hlocks (by first | exact Or.inl rfl | exact Or.inr rfl | assumption) (by first | exact (if_neg (fun h => absurd h.1 (by omega))).symm | exact (if_pos ⟨c_8, c_26⟩).symm | exact (if_neg (fun h => c_26 h.2)).symm) dX8_sees_34
set_option maxHeartbeats 4000000 in
set_option maxRecDepth 100000 in
theorem c_X8_rank (l : Launch) (V : zV) (g : Nat → Nat) (w pa be av sl sv pd cd : Nat → Int32) (st le ap pl wy : Int32) (n k : Nat) (hn : w 7 = nI n) (h30 : n ≤ 30) (hk : k < 30) : Met l yX8_rank wsX8_rank (zR 1 0 0) (zPc V [.ref (g 0), .int (nI k)] (fun H => va_P V.1 vwCl (zmW V g w pa be av sl sv pd cd st le ap pl wy) H)) (vp_Si (fun r => r = (nI (mRank w n k)))) 0 0 (fun _ => False) := by
  refine Met.ofW (cc := cX8_rank) (maxL := 5) (ret := (some .int)) (by decide) rfl ?_
  intro p e s m args below meth c s₁ B hml hv
  obtain ⟨rfl, hP, hE⟩ := hv
  have hx := B.exec
  have hb := B.bytes
  have hr := B.returns
  have hts := atoms_spec (ws := wsX8_rank) B.pre
  have hown : s.vm.findClass RX8 = some m.cls := findClass_of_methodNamed B.named
  have hlocks := B.notSynchronized
  have hl := lv_entry ([.ref (g 0), .int (nI k)]) (n := 5) (Nat.le_of_ble_eq_true rfl)
  rw [lg_entry_eq]
  generalize (lg_sl ([.ref (g 0), .int (nI k)]) ++ List.replicate (5 - (lg_sl ([.ref (g 0), .int (nI k)])).length) Slot.unset).toArray = ls at hl ⊢
  have hl : lv_has ls 5 [(0, .ref (g 0)), (1, .int (nI k))] := hl
  refine lv_iconst (v := 0) hx hb dX8_rank_0 (by decide +kernel) ?_
  refine lv_istore_n (lv' := [(2, .int 0), (0, .ref (g 0)), (1, .int (nI k))]) hx hb dX8_rank_1 rfl hl (by decide) rfl (fun ls hl => ?_)
  refine lv_iconst (v := 0) hx hb dX8_rank_2 (by decide +kernel) ?_
  refine lv_istore_n (lv' := [(3, .int 0), (2, .int 0), (0, .ref (g 0)), (1, .int (nI k))]) hx hb dX8_rank_3 rfl hl (by decide) rfl (fun ls hl => ?_)
  have L_4 : ∀ (n_ i : Nat) (ls : Array Slot), i ≤ n → n + 1 ≤ i + n_ → lv_has ls 5 [(3, .int (nI i)), (2, .int (nI (mRank w i k))), (0, .ref (g 0)), (1, .int (nI k))] → W p l e (headSpec wsX8_rank (zR 1 0 0)).room s m (List.toArray [.ref (g 0), .int (nI k)]) below meth c s.heap [] 0 0 (MQ below (vp_Si (fun r => r = (nI (mRank w n k)))) (List.toArray [.ref (g 0), .int (nI k)]) s 0 0 (fun _ => False)) (F0 m 4 ls []) := by
    intro n_
    induction n_ with
    | zero => intro i   ls hi_ hn_; exact absurd hn_ (by omega)
    | succ n_ ih =>
      intro i   ls hi_ hn_   hl
      refine lv_iload_n hx hb dX8_rank_4 rfl (lv_at hl 0 rfl) ?_
      refine lv_aload_n hx hb dX8_rank_5 rfl (lv_at hl 2 rfl) ?_
      refine zm_get 0 (.ref (g 1)) hx hb hts (fun x h => List.mem_cons_of_mem _ (hU_X8 x h)) hown hE hP (by decide) rfl (hts _ (List.mem_cons_of_mem _ uM_5)) (fun _ h9 => h9) dX8_rank_6 ?_
      refine lv_bipush (v := 7) hx hb dX8_rank_9 (by decide +kernel) ?_
      refine z_iald (k := 7) hx hb hE hP 1 (zm_c1 V g w pa be av sl sv pd cd st le ap pl wy) (by omega) (by decide) dX8_rank_11 ?_
      refine zt_i hn ?_
      refine zb_ge (x := i) (y := n) (tgt := 91) hx hb dX8_rank_12 (by decide) (by omega) (by omega) (fun c_12 => ?_) (fun c_12 => ?_)
      · refine lv_iload_n hx hb dX8_rank_91 rfl (lv_at hl 1 rfl) ?_
        exact zr_si hx hb hr hlocks (by rw [show n = i by omega]) dX8_rank_92
      · refine lv_aload_n hx hb dX8_rank_15 rfl (lv_at hl 2 rfl) ?_
        refine lv_iload_n hx hb dX8_rank_16 rfl (lv_at hl 0 rfl) ?_
        refine lv_iconst (v := 2) hx hb dX8_rank_17 (by decide +kernel) ?_
        refine zc_se (va_runV (As := [.int (nI i), .int 2]) (rest := []) ⟨hx, hb, hml, hown, hts⟩ (c_X8_its l V g w pa be av sl sv pd cd st le ap pl wy i 2 (by omega)) (cwV 2 hts (zgV_ wsM_all uM_16 uM_18 uM_19 uM_20 uM_21) rfl rfl rfl (by decide +kernel) ⟨Nat.le_of_ble_eq_true rfl, Nat.le_of_ble_eq_true rfl⟩) (zPreV (B := fun H => va_P V.1 vwCl (zmW V g w pa be av sl sv pd cd st le ap pl wy) H) hP hE (va_recv hE.1 hP (ci := 8) (q0 := 0) (q := (RX8, TX8, 13)) rfl (zm_c0 V g w pa be av sl sv pd cd st le ap pl wy))) rfl rfl hl.1 rfl (lv_room (Nat.le_of_ble_eq_true rfl)) dX8_rank_18 ⟨Nat.le_of_ble_eq_true rfl, Nat.le_of_ble_eq_true rfl⟩) ?_
        refine lv_aload_n hx hb dX8_rank_21 rfl (lv_at hl 2 rfl) ?_
        refine lv_iload_n hx hb dX8_rank_22 rfl (lv_at hl 3 rfl) ?_
        refine lv_iconst (v := 2) hx hb dX8_rank_23 (by decide +kernel) ?_
        refine zc_se (va_runV (As := [.int (nI k), .int 2]) (rest := [.int (zF w i 2)]) ⟨hx, hb, hml, hown, hts⟩ (c_X8_its l V g w pa be av sl sv pd cd st le ap pl wy k 2 (by omega)) (cwV 2 hts (zgV_ wsM_all uM_16 uM_18 uM_19 uM_20 uM_21) rfl rfl rfl (by decide +kernel) ⟨Nat.le_of_ble_eq_true rfl, Nat.le_of_ble_eq_true rfl⟩) (zPreV (B := fun H => va_P V.1 vwCl (zmW V g w pa be av sl sv pd cd st le ap pl wy) H) hP hE (va_recv hE.1 hP (ci := 8) (q0 := 0) (q := (RX8, TX8, 13)) rfl (zm_c0 V g w pa be av sl sv pd cd st le ap pl wy))) rfl rfl hl.1 rfl (lv_room (Nat.le_of_ble_eq_true rfl)) dX8_rank_24 ⟨Nat.le_of_ble_eq_true rfl, Nat.le_of_ble_eq_true rfl⟩) ?_
        refine lv_icmp_lt (tgt := 50) hx hb dX8_rank_27 (by decide) (fun c_27 => ?_) (fun c_27 => ?_)
        · refine lv_iconst (v := 1) hx hb dX8_rank_50 (by decide +kernel) ?_
          refine lv_goto (tgt := 55) hx hb dX8_rank_51 (by decide) ?_
          refine lv_istore (lv' := [(4, .int 1), (3, .int (nI i)), (2, .int (nI (mRank w i k))), (0, .ref (g 0)), (1, .int (nI k))]) hx hb dX8_rank_55 hl (by decide) rfl (fun ls hl => ?_)
          refine lv_iload_n hx hb dX8_rank_57 rfl (lv_at hl 2 rfl) ?_
          refine lv_aload_n hx hb dX8_rank_58 rfl (lv_at hl 3 rfl) ?_
          refine lv_iload_n hx hb dX8_rank_59 rfl (lv_at hl 1 rfl) ?_
          refine lv_iconst (v := 1) hx hb dX8_rank_60 (by decide +kernel) ?_
          refine zc_se (va_runV (As := [.int (nI i), .int 1]) (rest := [.int (nI (mRank w i k))]) ⟨hx, hb, hml, hown, hts⟩ (c_X8_its l V g w pa be av sl sv pd cd st le ap pl wy i 1 (by omega)) (cwV 2 hts (zgV_ wsM_all uM_16 uM_18 uM_19 uM_20 uM_21) rfl rfl rfl (by decide +kernel) ⟨Nat.le_of_ble_eq_true rfl, Nat.le_of_ble_eq_true rfl⟩) (zPreV (B := fun H => va_P V.1 vwCl (zmW V g w pa be av sl sv pd cd st le ap pl wy) H) hP hE (va_recv hE.1 hP (ci := 8) (q0 := 0) (q := (RX8, TX8, 13)) rfl (zm_c0 V g w pa be av sl sv pd cd st le ap pl wy))) rfl rfl hl.1 rfl (lv_room (Nat.le_of_ble_eq_true rfl)) dX8_rank_61 ⟨Nat.le_of_ble_eq_true rfl, Nat.le_of_ble_eq_true rfl⟩) ?_
          refine lv_aload_n hx hb dX8_rank_64 rfl (lv_at hl 3 rfl) ?_
          refine lv_iload_n hx hb dX8_rank_65 rfl (lv_at hl 4 rfl) ?_
          refine lv_iconst (v := 1) hx hb dX8_rank_66 (by decide +kernel) ?_
          refine zc_se (va_runV (As := [.int (nI k), .int 1]) (rest := [.int (zF w i 1), .int (nI (mRank w i k))]) ⟨hx, hb, hml, hown, hts⟩ (c_X8_its l V g w pa be av sl sv pd cd st le ap pl wy k 1 (by omega)) (cwV 2 hts (zgV_ wsM_all uM_16 uM_18 uM_19 uM_20 uM_21) rfl rfl rfl (by decide +kernel) ⟨Nat.le_of_ble_eq_true rfl, Nat.le_of_ble_eq_true rfl⟩) (zPreV (B := fun H => va_P V.1 vwCl (zmW V g w pa be av sl sv pd cd st le ap pl wy) H) hP hE (va_recv hE.1 hP (ci := 8) (q0 := 0) (q := (RX8, TX8, 13)) rfl (zm_c0 V g w pa be av sl sv pd cd st le ap pl wy))) rfl rfl hl.1 rfl (lv_room (Nat.le_of_ble_eq_true rfl)) dX8_rank_67 ⟨Nat.le_of_ble_eq_true rfl, Nat.le_of_ble_eq_true rfl⟩) ?_
          refine lv_icmp_ne (tgt := 82) hx hb dX8_rank_70 (by decide) (fun c_70 => ?_) (fun c_70 => ?_)
          · refine lv_iconst (v := 0) hx hb dX8_rank_82 (by decide +kernel) ?_
            refine lv_iadd hx hb dX8_rank_83 ?_
            refine zt_i (z_add (a := mRank w i k) (b := 0) (by first | rfl | omega)) ?_
            refine lv_istore_n (lv' := [(2, .int (nI (mRank w i k))), (4, .int 1), (3, .int (nI i)), (0, .ref (g 0)), (1, .int (nI k))]) hx hb dX8_rank_84 rfl hl (by decide) rfl (fun ls hl => ?_)
            refine lv_iinc (v := nI (i + 1)) (lv' := [(3, .int (nI (i + 1))), (2, .int (nI (mRank w i k))), (4, .int 1), (0, .ref (g 0)), (1, .int (nI k))]) hx hb dX8_rank_85 hl (k := 2) rfl (z_inc1 i) (by decide) rfl (fun ls hl => ?_)
            refine lv_goto (tgt := 4) hx hb dX8_rank_88 (by decide) ?_
            have e_ : mRank w i k = mRank w (i + 1) k := by
              first
                | exact zCnt_y (decide_eq_true ⟨c_70, Or.inl c_27⟩)
                | exact zCnt_y (decide_eq_true ⟨c_70, Or.inr ⟨c_42, c_47⟩⟩)
                | exact zCnt_n (decide_eq_false (fun h => c_70 h.1))
                | exact zCnt_n (decide_eq_false (fun h => h.2.elim c_27 (fun q => c_42 q.1)))
                | exact zCnt_n (decide_eq_false (fun h => h.2.elim c_27 (fun q => absurd q.2 (by omega))))
            rw [e_] at hl
            exact ih (i + 1) ls (by omega) (by omega) (lv_sub hl [0, 1, 3, 4] rfl)
          · refine lv_iload hx hb dX8_rank_73 (lv_at hl 0 rfl) ?_
            refine lv_if_eq (tgt := 82) hx hb dX8_rank_75 (by decide) (fun c_75 => ?_) (fun c_75 => ?_)
            · exact absurd c_75 (by decide +kernel)
            refine lv_iconst (v := 1) hx hb dX8_rank_78 (by decide +kernel) ?_
            refine lv_goto (tgt := 83) hx hb dX8_rank_79 (by decide) ?_
            refine lv_iadd hx hb dX8_rank_83 ?_
            refine zt_i (z_add (a := mRank w i k) (b := 1) (by first | rfl | omega)) ?_
            refine lv_istore_n (lv' := [(2, .int (nI (mRank w i k + 1))), (4, .int 1), (3, .int (nI i)), (0, .ref (g 0)), (1, .int (nI k))]) hx hb dX8_rank_84 rfl hl (by decide) rfl (fun ls hl => ?_)
            refine lv_iinc (v := nI (i + 1)) (lv' := [(3, .int (nI (i + 1))), (2, .int (nI (mRank w i k + 1))), (4, .int 1), (0, .ref (g 0)), (1, .int (nI k))]) hx hb dX8_rank_85 hl (k := 2) rfl (z_inc1 i) (by decide) rfl (fun ls hl => ?_)
            refine lv_goto (tgt := 4) hx hb dX8_rank_88 (by decide) ?_
            have e_ : mRank w i k + 1 = mRank w (i + 1) k := by
              first
                | exact zCnt_y (decide_eq_true ⟨c_70, Or.inl c_27⟩)
                | exact zCnt_y (decide_eq_true ⟨c_70, Or.inr ⟨c_42, c_47⟩⟩)
                | exact zCnt_n (decide_eq_false (fun h => c_70 h.1))
                | exact zCnt_n (decide_eq_false (fun h => h.2.elim c_27 (fun q => c_42 q.1)))
                | exact zCnt_n (decide_eq_false (fun h => h.2.elim c_27 (fun q => absurd q.2 (by omega))))
            rw [e_] at hl
            exact ih (i + 1) ls (by omega) (by omega) (lv_sub hl [0, 1, 3, 4] rfl)
        · refine lv_aload_n hx hb dX8_rank_30 rfl (lv_at hl 2 rfl) ?_
          refine lv_iload_n hx hb dX8_rank_31 rfl (lv_at hl 0 rfl) ?_
          refine lv_iconst (v := 2) hx hb dX8_rank_32 (by decide +kernel) ?_
          refine zc_se (va_runV (As := [.int (nI i), .int 2]) (rest := []) ⟨hx, hb, hml, hown, hts⟩ (c_X8_its l V g w pa be av sl sv pd cd st le ap pl wy i 2 (by omega)) (cwV 2 hts (zgV_ wsM_all uM_16 uM_18 uM_19 uM_20 uM_21) rfl rfl rfl (by decide +kernel) ⟨Nat.le_of_ble_eq_true rfl, Nat.le_of_ble_eq_true rfl⟩) (zPreV (B := fun H => va_P V.1 vwCl (zmW V g w pa be av sl sv pd cd st le ap pl wy) H) hP hE (va_recv hE.1 hP (ci := 8) (q0 := 0) (q := (RX8, TX8, 13)) rfl (zm_c0 V g w pa be av sl sv pd cd st le ap pl wy))) rfl rfl hl.1 rfl (lv_room (Nat.le_of_ble_eq_true rfl)) dX8_rank_33 ⟨Nat.le_of_ble_eq_true rfl, Nat.le_of_ble_eq_true rfl⟩) ?_
          refine lv_aload_n hx hb dX8_rank_36 rfl (lv_at hl 2 rfl) ?_
          refine lv_iload_n hx hb dX8_rank_37 rfl (lv_at hl 3 rfl) ?_
          refine lv_iconst (v := 2) hx hb dX8_rank_38 (by decide +kernel) ?_
          refine zc_se (va_runV (As := [.int (nI k), .int 2]) (rest := [.int (zF w i 2)]) ⟨hx, hb, hml, hown, hts⟩ (c_X8_its l V g w pa be av sl sv pd cd st le ap pl wy k 2 (by omega)) (cwV 2 hts (zgV_ wsM_all uM_16 uM_18 uM_19 uM_20 uM_21) rfl rfl rfl (by decide +kernel) ⟨Nat.le_of_ble_eq_true rfl, Nat.le_of_ble_eq_true rfl⟩) (zPreV (B := fun H => va_P V.1 vwCl (zmW V g w pa be av sl sv pd cd st le ap pl wy) H) hP hE (va_recv hE.1 hP (ci := 8) (q0 := 0) (q := (RX8, TX8, 13)) rfl (zm_c0 V g w pa be av sl sv pd cd st le ap pl wy))) rfl rfl hl.1 rfl (lv_room (Nat.le_of_ble_eq_true rfl)) dX8_rank_39 ⟨Nat.le_of_ble_eq_true rfl, Nat.le_of_ble_eq_true rfl⟩) ?_
          refine lv_icmp_ne (tgt := 54) hx hb dX8_rank_42 (by decide) (fun c_42 => ?_) (fun c_42 => ?_)
          · refine lv_iconst (v := 0) hx hb dX8_rank_54 (by decide +kernel) ?_
            refine lv_istore (lv' := [(4, .int 0), (3, .int (nI i)), (2, .int (nI (mRank w i k))), (0, .ref (g 0)), (1, .int (nI k))]) hx hb dX8_rank_55 hl (by decide) rfl (fun ls hl => ?_)
            refine lv_iload_n hx hb dX8_rank_57 rfl (lv_at hl 2 rfl) ?_
            refine lv_aload_n hx hb dX8_rank_58 rfl (lv_at hl 3 rfl) ?_
            refine lv_iload_n hx hb dX8_rank_59 rfl (lv_at hl 1 rfl) ?_
            refine lv_iconst (v := 1) hx hb dX8_rank_60 (by decide +kernel) ?_
            refine zc_se (va_runV (As := [.int (nI i), .int 1]) (rest := [.int (nI (mRank w i k))]) ⟨hx, hb, hml, hown, hts⟩ (c_X8_its l V g w pa be av sl sv pd cd st le ap pl wy i 1 (by omega)) (cwV 2 hts (zgV_ wsM_all uM_16 uM_18 uM_19 uM_20 uM_21) rfl rfl rfl (by decide +kernel) ⟨Nat.le_of_ble_eq_true rfl, Nat.le_of_ble_eq_true rfl⟩) (zPreV (B := fun H => va_P V.1 vwCl (zmW V g w pa be av sl sv pd cd st le ap pl wy) H) hP hE (va_recv hE.1 hP (ci := 8) (q0 := 0) (q := (RX8, TX8, 13)) rfl (zm_c0 V g w pa be av sl sv pd cd st le ap pl wy))) rfl rfl hl.1 rfl (lv_room (Nat.le_of_ble_eq_true rfl)) dX8_rank_61 ⟨Nat.le_of_ble_eq_true rfl, Nat.le_of_ble_eq_true rfl⟩) ?_
            refine lv_aload_n hx hb dX8_rank_64 rfl (lv_at hl 3 rfl) ?_
            refine lv_iload_n hx hb dX8_rank_65 rfl (lv_at hl 4 rfl) ?_
            refine lv_iconst (v := 1) hx hb dX8_rank_66 (by decide +kernel) ?_
            refine zc_se (va_runV (As := [.int (nI k), .int 1]) (rest := [.int (zF w i 1), .int (nI (mRank w i k))]) ⟨hx, hb, hml, hown, hts⟩ (c_X8_its l V g w pa be av sl sv pd cd st le ap pl wy k 1 (by omega)) (cwV 2 hts (zgV_ wsM_all uM_16 uM_18 uM_19 uM_20 uM_21) rfl rfl rfl (by decide +kernel) ⟨Nat.le_of_ble_eq_true rfl, Nat.le_of_ble_eq_true rfl⟩) (zPreV (B := fun H => va_P V.1 vwCl (zmW V g w pa be av sl sv pd cd st le ap pl wy) H) hP hE (va_recv hE.1 hP (ci := 8) (q0 := 0) (q := (RX8, TX8, 13)) rfl (zm_c0 V g w pa be av sl sv pd cd st le ap pl wy))) rfl rfl hl.1 rfl (lv_room (Nat.le_of_ble_eq_true rfl)) dX8_rank_67 ⟨Nat.le_of_ble_eq_true rfl, Nat.le_of_ble_eq_true rfl⟩) ?_
            refine lv_icmp_ne (tgt := 82) hx hb dX8_rank_70 (by decide) (fun c_70 => ?_) (fun c_70 => ?_)
            · refine lv_iconst (v := 0) hx hb dX8_rank_82 (by decide +kernel) ?_
              refine lv_iadd hx hb dX8_rank_83 ?_
              refine zt_i (z_add (a := mRank w i k) (b := 0) (by first | rfl | omega)) ?_
              refine lv_istore_n (lv' := [(2, .int (nI (mRank w i k))), (4, .int 0), (3, .int (nI i)), (0, .ref (g 0)), (1, .int (nI k))]) hx hb dX8_rank_84 rfl hl (by decide) rfl (fun ls hl => ?_)
              refine lv_iinc (v := nI (i + 1)) (lv' := [(3, .int (nI (i + 1))), (2, .int (nI (mRank w i k))), (4, .int 0), (0, .ref (g 0)), (1, .int (nI k))]) hx hb dX8_rank_85 hl (k := 2) rfl (z_inc1 i) (by decide) rfl (fun ls hl => ?_)
              refine lv_goto (tgt := 4) hx hb dX8_rank_88 (by decide) ?_
              have e_ : mRank w i k = mRank w (i + 1) k := by
                first
                  | exact zCnt_y (decide_eq_true ⟨c_70, Or.inl c_27⟩)
                  | exact zCnt_y (decide_eq_true ⟨c_70, Or.inr ⟨c_42, c_47⟩⟩)
                  | exact zCnt_n (decide_eq_false (fun h => c_70 h.1))
                  | exact zCnt_n (decide_eq_false (fun h => h.2.elim c_27 (fun q => c_42 q.1)))
                  | exact zCnt_n (decide_eq_false (fun h => h.2.elim c_27 (fun q => absurd q.2 (by omega))))
              rw [e_] at hl
              exact ih (i + 1) ls (by omega) (by omega) (lv_sub hl [0, 1, 3, 4] rfl)
            · refine lv_iload hx hb dX8_rank_73 (lv_at hl 0 rfl) ?_
              refine lv_if_eq (tgt := 82) hx hb dX8_rank_75 (by decide) (fun c_75 => ?_) (fun c_75 => ?_)
              rotate_left
              · exact absurd c_75 (by decide +kernel)
              refine lv_iconst (v := 0) hx hb dX8_rank_82 (by decide +kernel) ?_
              refine lv_iadd hx hb dX8_rank_83 ?_
              refine zt_i (z_add (a := mRank w i k) (b := 0) (by first | rfl | omega)) ?_
              refine lv_istore_n (lv' := [(2, .int (nI (mRank w i k))), (4, .int 0), (3, .int (nI i)), (0, .ref (g 0)), (1, .int (nI k))]) hx hb dX8_rank_84 rfl hl (by decide) rfl (fun ls hl => ?_)
              refine lv_iinc (v := nI (i + 1)) (lv' := [(3, .int (nI (i + 1))), (2, .int (nI (mRank w i k))), (4, .int 0), (0, .ref (g 0)), (1, .int (nI k))]) hx hb dX8_rank_85 hl (k := 2) rfl (z_inc1 i) (by decide) rfl (fun ls hl => ?_)
              refine lv_goto (tgt := 4) hx hb dX8_rank_88 (by decide) ?_
              have e_ : mRank w i k = mRank w (i + 1) k := by
                first
                  | exact zCnt_y (decide_eq_true ⟨c_70, Or.inl c_27⟩)
                  | exact zCnt_y (decide_eq_true ⟨c_70, Or.inr ⟨c_42, c_47⟩⟩)
                  | exact zCnt_n (decide_eq_false (fun h => c_70 h.1))
                  | exact zCnt_n (decide_eq_false (fun h => h.2.elim c_27 (fun q => c_42 q.1)))
                  | exact zCnt_n (decide_eq_false (fun h => h.2.elim c_27 (fun q => absurd q.2 (by omega))))
              rw [e_] at hl
              exact ih (i + 1) ls (by omega) (by omega) (lv_sub hl [0, 1, 3, 4] rfl)
          · refine lv_iload_n hx hb dX8_rank_45 rfl (lv_at hl 0 rfl) ?_
            refine lv_iload_n hx hb dX8_rank_46 rfl (lv_at hl 3 rfl) ?_
            refine zb_ge (x := i) (y := k) (tgt := 54) hx hb dX8_rank_47 (by decide) (by omega) (by omega) (fun c_47 => ?_) (fun c_47 => ?_)
            · refine lv_iconst (v := 0) hx hb dX8_rank_54 (by decide +kernel) ?_
              refine lv_istore (lv' := [(4, .int 0), (3, .int (nI i)), (2, .int (nI (mRank w i k))), (0, .ref (g 0)), (1, .int (nI k))]) hx hb dX8_rank_55 hl (by decide) rfl (fun ls hl => ?_)
              refine lv_iload_n hx hb dX8_rank_57 rfl (lv_at hl 2 rfl) ?_
              refine lv_aload_n hx hb dX8_rank_58 rfl (lv_at hl 3 rfl) ?_
              refine lv_iload_n hx hb dX8_rank_59 rfl (lv_at hl 1 rfl) ?_
              refine lv_iconst (v := 1) hx hb dX8_rank_60 (by decide +kernel) ?_
              refine zc_se (va_runV (As := [.int (nI i), .int 1]) (rest := [.int (nI (mRank w i k))]) ⟨hx, hb, hml, hown, hts⟩ (c_X8_its l V g w pa be av sl sv pd cd st le ap pl wy i 1 (by omega)) (cwV 2 hts (zgV_ wsM_all uM_16 uM_18 uM_19 uM_20 uM_21) rfl rfl rfl (by decide +kernel) ⟨Nat.le_of_ble_eq_true rfl, Nat.le_of_ble_eq_true rfl⟩) (zPreV (B := fun H => va_P V.1 vwCl (zmW V g w pa be av sl sv pd cd st le ap pl wy) H) hP hE (va_recv hE.1 hP (ci := 8) (q0 := 0) (q := (RX8, TX8, 13)) rfl (zm_c0 V g w pa be av sl sv pd cd st le ap pl wy))) rfl rfl hl.1 rfl (lv_room (Nat.le_of_ble_eq_true rfl)) dX8_rank_61 ⟨Nat.le_of_ble_eq_true rfl, Nat.le_of_ble_eq_true rfl⟩) ?_
              refine lv_aload_n hx hb dX8_rank_64 rfl (lv_at hl 3 rfl) ?_
              refine lv_iload_n hx hb dX8_rank_65 rfl (lv_at hl 4 rfl) ?_
              refine lv_iconst (v := 1) hx hb dX8_rank_66 (by decide +kernel) ?_
              refine zc_se (va_runV (As := [.int (nI k), .int 1]) (rest := [.int (zF w i 1), .int (nI (mRank w i k))]) ⟨hx, hb, hml, hown, hts⟩ (c_X8_its l V g w pa be av sl sv pd cd st le ap pl wy k 1 (by omega)) (cwV 2 hts (zgV_ wsM_all uM_16 uM_18 uM_19 uM_20 uM_21) rfl rfl rfl (by decide +kernel) ⟨Nat.le_of_ble_eq_true rfl, Nat.le_of_ble_eq_true rfl⟩) (zPreV (B := fun H => va_P V.1 vwCl (zmW V g w pa be av sl sv pd cd st le ap pl wy) H) hP hE (va_recv hE.1 hP (ci := 8) (q0 := 0) (q := (RX8, TX8, 13)) rfl (zm_c0 V g w pa be av sl sv pd cd st le ap pl wy))) rfl rfl hl.1 rfl (lv_room (Nat.le_of_ble_eq_true rfl)) dX8_rank_67 ⟨Nat.le_of_ble_eq_true rfl, Nat.le_of_ble_eq_true rfl⟩) ?_
              refine lv_icmp_ne (tgt := 82) hx hb dX8_rank_70 (by decide) (fun c_70 => ?_) (fun c_70 => ?_)
              · refine lv_iconst (v := 0) hx hb dX8_rank_82 (by decide +kernel) ?_
                refine lv_iadd hx hb dX8_rank_83 ?_
                refine zt_i (z_add (a := mRank w i k) (b := 0) (by first | rfl | omega)) ?_
                refine lv_istore_n (lv' := [(2, .int (nI (mRank w i k))), (4, .int 0), (3, .int (nI i)), (0, .ref (g 0)), (1, .int (nI k))]) hx hb dX8_rank_84 rfl hl (by decide) rfl (fun ls hl => ?_)
                refine lv_iinc (v := nI (i + 1)) (lv' := [(3, .int (nI (i + 1))), (2, .int (nI (mRank w i k))), (4, .int 0), (0, .ref (g 0)), (1, .int (nI k))]) hx hb dX8_rank_85 hl (k := 2) rfl (z_inc1 i) (by decide) rfl (fun ls hl => ?_)
                refine lv_goto (tgt := 4) hx hb dX8_rank_88 (by decide) ?_
                have e_ : mRank w i k = mRank w (i + 1) k := by
                  first
                    | exact zCnt_y (decide_eq_true ⟨c_70, Or.inl c_27⟩)
                    | exact zCnt_y (decide_eq_true ⟨c_70, Or.inr ⟨c_42, c_47⟩⟩)
                    | exact zCnt_n (decide_eq_false (fun h => c_70 h.1))
                    | exact zCnt_n (decide_eq_false (fun h => h.2.elim c_27 (fun q => c_42 q.1)))
                    | exact zCnt_n (decide_eq_false (fun h => h.2.elim c_27 (fun q => absurd q.2 (by omega))))
                rw [e_] at hl
                exact ih (i + 1) ls (by omega) (by omega) (lv_sub hl [0, 1, 3, 4] rfl)
              · refine lv_iload hx hb dX8_rank_73 (lv_at hl 0 rfl) ?_
                refine lv_if_eq (tgt := 82) hx hb dX8_rank_75 (by decide) (fun c_75 => ?_) (fun c_75 => ?_)
                rotate_left
                · exact absurd c_75 (by decide +kernel)
                refine lv_iconst (v := 0) hx hb dX8_rank_82 (by decide +kernel) ?_
                refine lv_iadd hx hb dX8_rank_83 ?_
                refine zt_i (z_add (a := mRank w i k) (b := 0) (by first | rfl | omega)) ?_
                refine lv_istore_n (lv' := [(2, .int (nI (mRank w i k))), (4, .int 0), (3, .int (nI i)), (0, .ref (g 0)), (1, .int (nI k))]) hx hb dX8_rank_84 rfl hl (by decide) rfl (fun ls hl => ?_)
                refine lv_iinc (v := nI (i + 1)) (lv' := [(3, .int (nI (i + 1))), (2, .int (nI (mRank w i k))), (4, .int 0), (0, .ref (g 0)), (1, .int (nI k))]) hx hb dX8_rank_85 hl (k := 2) rfl (z_inc1 i) (by decide) rfl (fun ls hl => ?_)
                refine lv_goto (tgt := 4) hx hb dX8_rank_88 (by decide) ?_
                have e_ : mRank w i k = mRank w (i + 1) k := by
                  first
                    | exact zCnt_y (decide_eq_true ⟨c_70, Or.inl c_27⟩)
                    | exact zCnt_y (decide_eq_true ⟨c_70, Or.inr ⟨c_42, c_47⟩⟩)
                    | exact zCnt_n (decide_eq_false (fun h => c_70 h.1))
                    | exact zCnt_n (decide_eq_false (fun h => h.2.elim c_27 (fun q => c_42 q.1)))
                    | exact zCnt_n (decide_eq_false (fun h => h.2.elim c_27 (fun q => absurd q.2 (by omega))))
                rw [e_] at hl
                exact ih (i + 1) ls (by omega) (by omega) (lv_sub hl [0, 1, 3, 4] rfl)
            · refine lv_iconst (v := 1) hx hb dX8_rank_50 (by decide +kernel) ?_
              refine lv_goto (tgt := 55) hx hb dX8_rank_51 (by decide) ?_
              refine lv_istore (lv' := [(4, .int 1), (3, .int (nI i)), (2, .int (nI (mRank w i k))), (0, .ref (g 0)), (1, .int (nI k))]) hx hb dX8_rank_55 hl (by decide) rfl (fun ls hl => ?_)
              refine lv_iload_n hx hb dX8_rank_57 rfl (lv_at hl 2 rfl) ?_
              refine lv_aload_n hx hb dX8_rank_58 rfl (lv_at hl 3 rfl) ?_
              refine lv_iload_n hx hb dX8_rank_59 rfl (lv_at hl 1 rfl) ?_
              refine lv_iconst (v := 1) hx hb dX8_rank_60 (by decide +kernel) ?_
              refine zc_se (va_runV (As := [.int (nI i), .int 1]) (rest := [.int (nI (mRank w i k))]) ⟨hx, hb, hml, hown, hts⟩ (c_X8_its l V g w pa be av sl sv pd cd st le ap pl wy i 1 (by omega)) (cwV 2 hts (zgV_ wsM_all uM_16 uM_18 uM_19 uM_20 uM_21) rfl rfl rfl (by decide +kernel) ⟨Nat.le_of_ble_eq_true rfl, Nat.le_of_ble_eq_true rfl⟩) (zPreV (B := fun H => va_P V.1 vwCl (zmW V g w pa be av sl sv pd cd st le ap pl wy) H) hP hE (va_recv hE.1 hP (ci := 8) (q0 := 0) (q := (RX8, TX8, 13)) rfl (zm_c0 V g w pa be av sl sv pd cd st le ap pl wy))) rfl rfl hl.1 rfl (lv_room (Nat.le_of_ble_eq_true rfl)) dX8_rank_61 ⟨Nat.le_of_ble_eq_true rfl, Nat.le_of_ble_eq_true rfl⟩) ?_
              refine lv_aload_n hx hb dX8_rank_64 rfl (lv_at hl 3 rfl) ?_
              refine lv_iload_n hx hb dX8_rank_65 rfl (lv_at hl 4 rfl) ?_
              refine lv_iconst (v := 1) hx hb dX8_rank_66 (by decide +kernel) ?_
              refine zc_se (va_runV (As := [.int (nI k), .int 1]) (rest := [.int (zF w i 1), .int (nI (mRank w i k))]) ⟨hx, hb, hml, hown, hts⟩ (c_X8_its l V g w pa be av sl sv pd cd st le ap pl wy k 1 (by omega)) (cwV 2 hts (zgV_ wsM_all uM_16 uM_18 uM_19 uM_20 uM_21) rfl rfl rfl (by decide +kernel) ⟨Nat.le_of_ble_eq_true rfl, Nat.le_of_ble_eq_true rfl⟩) (zPreV (B := fun H => va_P V.1 vwCl (zmW V g w pa be av sl sv pd cd st le ap pl wy) H) hP hE (va_recv hE.1 hP (ci := 8) (q0 := 0) (q := (RX8, TX8, 13)) rfl (zm_c0 V g w pa be av sl sv pd cd st le ap pl wy))) rfl rfl hl.1 rfl (lv_room (Nat.le_of_ble_eq_true rfl)) dX8_rank_67 ⟨Nat.le_of_ble_eq_true rfl, Nat.le_of_ble_eq_true rfl⟩) ?_
              refine lv_icmp_ne (tgt := 82) hx hb dX8_rank_70 (by decide) (fun c_70 => ?_) (fun c_70 => ?_)
              · refine lv_iconst (v := 0) hx hb dX8_rank_82 (by decide +kernel) ?_
                refine lv_iadd hx hb dX8_rank_83 ?_
                refine zt_i (z_add (a := mRank w i k) (b := 0) (by first | rfl | omega)) ?_
                refine lv_istore_n (lv' := [(2, .int (nI (mRank w i k))), (4, .int 1), (3, .int (nI i)), (0, .ref (g 0)), (1, .int (nI k))]) hx hb dX8_rank_84 rfl hl (by decide) rfl (fun ls hl => ?_)
                refine lv_iinc (v := nI (i + 1)) (lv' := [(3, .int (nI (i + 1))), (2, .int (nI (mRank w i k))), (4, .int 1), (0, .ref (g 0)), (1, .int (nI k))]) hx hb dX8_rank_85 hl (k := 2) rfl (z_inc1 i) (by decide) rfl (fun ls hl => ?_)
                refine lv_goto (tgt := 4) hx hb dX8_rank_88 (by decide) ?_
                have e_ : mRank w i k = mRank w (i + 1) k := by
                  first
                    | exact zCnt_y (decide_eq_true ⟨c_70, Or.inl c_27⟩)
                    | exact zCnt_y (decide_eq_true ⟨c_70, Or.inr ⟨c_42, c_47⟩⟩)
                    | exact zCnt_n (decide_eq_false (fun h => c_70 h.1))
                    | exact zCnt_n (decide_eq_false (fun h => h.2.elim c_27 (fun q => c_42 q.1)))
                    | exact zCnt_n (decide_eq_false (fun h => h.2.elim c_27 (fun q => absurd q.2 (by omega))))
                rw [e_] at hl
                exact ih (i + 1) ls (by omega) (by omega) (lv_sub hl [0, 1, 3, 4] rfl)
              · refine lv_iload hx hb dX8_rank_73 (lv_at hl 0 rfl) ?_
                refine lv_if_eq (tgt := 82) hx hb dX8_rank_75 (by decide) (fun c_75 => ?_) (fun c_75 => ?_)
                · exact absurd c_75 (by decide +kernel)
                refine lv_iconst (v := 1) hx hb dX8_rank_78 (by decide +kernel) ?_
                refine lv_goto (tgt := 83) hx hb dX8_rank_79 (by decide) ?_
                refine lv_iadd hx hb dX8_rank_83 ?_
                refine zt_i (z_add (a := mRank w i k) (b := 1) (by first | rfl | omega)) ?_
                refine lv_istore_n (lv' := [(2, .int (nI (mRank w i k + 1))), (4, .int 1), (3, .int (nI i)), (0, .ref (g 0)), (1, .int (nI k))]) hx hb dX8_rank_84 rfl hl (by decide) rfl (fun ls hl => ?_)
                refine lv_iinc (v := nI (i + 1)) (lv' := [(3, .int (nI (i + 1))), (2, .int (nI (mRank w i k + 1))), (4, .int 1), (0, .ref (g 0)), (1, .int (nI k))]) hx hb dX8_rank_85 hl (k := 2) rfl (z_inc1 i) (by decide) rfl (fun ls hl => ?_)
                refine lv_goto (tgt := 4) hx hb dX8_rank_88 (by decide) ?_
                have e_ : mRank w i k + 1 = mRank w (i + 1) k := by
                  first
                    | exact zCnt_y (decide_eq_true ⟨c_70, Or.inl c_27⟩)
                    | exact zCnt_y (decide_eq_true ⟨c_70, Or.inr ⟨c_42, c_47⟩⟩)
                    | exact zCnt_n (decide_eq_false (fun h => c_70 h.1))
                    | exact zCnt_n (decide_eq_false (fun h => h.2.elim c_27 (fun q => c_42 q.1)))
                    | exact zCnt_n (decide_eq_false (fun h => h.2.elim c_27 (fun q => absurd q.2 (by omega))))
                rw [e_] at hl
                exact ih (i + 1) ls (by omega) (by omega) (lv_sub hl [0, 1, 3, 4] rfl)
  exact L_4 (n + 1) 0 ls (by omega) (by omega) (lv_sub hl [0, 1, 2, 3] rfl)
set_option maxHeartbeats 4000000 in
set_option maxRecDepth 100000 in
theorem c_X8_of (l : Launch) (V : zV) (g : Nat → Nat) (w pa be av sl sv pd cd : Nat → Int32) (st le ap pl wy : Int32) (n : Nat) (x what : Int32) (hn : w 7 = nI n) (h30 : n ≤ 30) (hwr : ∀ k, k < n → zF w k 1 = 0 ∨ zF w k 1 = 1) : Met l yX8_of wsX8_of (zR 2 0 0) (zPc V [.ref (g 0), .int x, .int what] (fun H => va_P V.1 vwCl (zmW V g w pa be av sl sv pd cd st le ap pl wy) H)) (vp_Si (fun r => r = (mOf w n x what))) 0 0 (fun _ => False) := by
  refine Met.ofW (cc := cX8_of) (maxL := 4) (ret := (some .int)) (by decide) rfl ?_
  intro p e s m args below meth c s₁ B hml hv
  obtain ⟨rfl, hP, hE⟩ := hv
  have hx := B.exec
  have hb := B.bytes
  have hr := B.returns
  have hts := atoms_spec (ws := wsX8_of) B.pre
  have hown : s.vm.findClass RX8 = some m.cls := findClass_of_methodNamed B.named
  have hlocks := B.notSynchronized
  have hl := lv_entry ([.ref (g 0), .int x, .int what]) (n := 4) (Nat.le_of_ble_eq_true rfl)
  rw [lg_entry_eq]
  generalize (lg_sl ([.ref (g 0), .int x, .int what]) ++ List.replicate (4 - (lg_sl ([.ref (g 0), .int x, .int what])).length) Slot.unset).toArray = ls at hl ⊢
  have hl : lv_has ls 4 [(0, .ref (g 0)), (1, .int x), (2, .int what)] := hl
  refine lv_aload_n hx hb dX8_of_0 rfl (lv_at hl 0 rfl) ?_
  refine lv_iload_n hx hb dX8_of_1 rfl (lv_at hl 1 rfl) ?_
  refine zc_se (va_runV (As := [.int x]) (rest := []) ⟨hx, hb, hml, hown, hts⟩ (c_X8_find l V g w pa be av sl sv pd cd st le ap pl wy n x hn h30) (cwV 1 hts (zgV_ wsM_all uM_22 uM_115 uM_116 uM_117 uM_21) rfl rfl rfl (by decide +kernel) ⟨Nat.le_of_ble_eq_true rfl, Nat.le_of_ble_eq_true rfl⟩) (zPreV (B := fun H => va_P V.1 vwCl (zmW V g w pa be av sl sv pd cd st le ap pl wy) H) hP hE (va_recv hE.1 hP (ci := 8) (q0 := 0) (q := (RX8, TX8, 13)) rfl (zm_c0 V g w pa be av sl sv pd cd st le ap pl wy))) rfl rfl hl.1 rfl (lv_room (Nat.le_of_ble_eq_true rfl)) dX8_of_2 ⟨Nat.le_of_ble_eq_true rfl, Nat.le_of_ble_eq_true rfl⟩) ?_
  rcases hq : mFind w n x with _ | k
  · refine zt_i (y := (-6)) (by first | rfl | exact congrArg zoI hq) ?_
    refine lv_istore_n (lv' := [(3, .int (-6)), (0, .ref (g 0)), (1, .int x), (2, .int what)]) hx hb dX8_of_5 rfl hl (by decide) rfl (fun ls hl => ?_)
    refine lv_iload_n hx hb dX8_of_6 rfl (lv_at hl 0 rfl) ?_
    refine lv_bipush (v := (-6)) hx hb dX8_of_7 (by decide +kernel) ?_
    refine lv_icmp_ne (tgt := 14) hx hb dX8_of_9 (by decide) (fun c_9 => ?_) (fun c_9 => ?_)
    · exact absurd rfl c_9
    · refine lv_iconst (v := (-1)) hx hb dX8_of_12 (by decide +kernel) ?_
      exact zr_si hx hb hr hlocks (by rw [mOf, hq]) dX8_of_13
  · refine zt_i (y := nI k) (by first | rfl | exact congrArg zoI hq) ?_
    have hkn : k < n := (zFirst_lt hq).1
    refine lv_istore_n (lv' := [(3, .int (nI k)), (0, .ref (g 0)), (1, .int x), (2, .int what)]) hx hb dX8_of_5 rfl hl (by decide) rfl (fun ls hl => ?_)
    refine lv_iload_n hx hb dX8_of_6 rfl (lv_at hl 0 rfl) ?_
    refine lv_bipush (v := (-6)) hx hb dX8_of_7 (by decide +kernel) ?_
    refine lv_icmp_ne (tgt := 14) hx hb dX8_of_9 (by decide) (fun c_9 => ?_) (fun c_9 => ?_)
    · refine lv_iload_n hx hb dX8_of_14 rfl (lv_at hl 3 rfl) ?_
      rcases z_rng what 6 (by decide) with ⟨k_, hk_, hc_⟩ | hc_
      · rcases (show k_ = 0 ∨ k_ = 1 ∨ k_ = 2 ∨ k_ = 3 ∨ k_ = 4 ∨ k_ = 5 by omega) with rfl | rfl | rfl | rfl | rfl | rfl
        · have hc_ : what = 0 := hc_
          refine lv_tableIn (off := 37) (tgt := 52) hx hb dX8_of_15 (by rw [hc_]; decide) (by rw [hc_]; decide) (by rw [hc_]; rfl) (by decide) ?_
          refine lv_aload_n hx hb dX8_of_52 rfl (lv_at hl 1 rfl) ?_
          refine lv_iload_n hx hb dX8_of_53 rfl (lv_at hl 0 rfl) ?_
          refine lv_iconst (v := 1) hx hb dX8_of_54 (by decide +kernel) ?_
          refine zc_se (va_runV (As := [.int (nI k), .int 1]) (rest := []) ⟨hx, hb, hml, hown, hts⟩ (c_X8_its l V g w pa be av sl sv pd cd st le ap pl wy k 1 (by omega)) (cwV 2 hts (zgV_ wsM_all uM_16 uM_18 uM_19 uM_20 uM_21) rfl rfl rfl (by decide +kernel) ⟨Nat.le_of_ble_eq_true rfl, Nat.le_of_ble_eq_true rfl⟩) (zPreV (B := fun H => va_P V.1 vwCl (zmW V g w pa be av sl sv pd cd st le ap pl wy) H) hP hE (va_recv hE.1 hP (ci := 8) (q0 := 0) (q := (RX8, TX8, 13)) rfl (zm_c0 V g w pa be av sl sv pd cd st le ap pl wy))) rfl rfl hl.1 rfl (lv_room (Nat.le_of_ble_eq_true rfl)) dX8_of_55 ⟨Nat.le_of_ble_eq_true rfl, Nat.le_of_ble_eq_true rfl⟩) ?_
          exact zr_si hx hb hr hlocks (by subst hc_; rw [mOf, hq]; rfl) dX8_of_58
        · have hc_ : what = 1 := hc_
          refine lv_tableIn (off := 44) (tgt := 59) hx hb dX8_of_15 (by rw [hc_]; decide) (by rw [hc_]; decide) (by rw [hc_]; rfl) (by decide) ?_
          refine lv_aload_n hx hb dX8_of_59 rfl (lv_at hl 1 rfl) ?_
          refine lv_iload_n hx hb dX8_of_60 rfl (lv_at hl 0 rfl) ?_
          refine lv_iconst (v := 2) hx hb dX8_of_61 (by decide +kernel) ?_
          refine zc_se (va_runV (As := [.int (nI k), .int 2]) (rest := []) ⟨hx, hb, hml, hown, hts⟩ (c_X8_its l V g w pa be av sl sv pd cd st le ap pl wy k 2 (by omega)) (cwV 2 hts (zgV_ wsM_all uM_16 uM_18 uM_19 uM_20 uM_21) rfl rfl rfl (by decide +kernel) ⟨Nat.le_of_ble_eq_true rfl, Nat.le_of_ble_eq_true rfl⟩) (zPreV (B := fun H => va_P V.1 vwCl (zmW V g w pa be av sl sv pd cd st le ap pl wy) H) hP hE (va_recv hE.1 hP (ci := 8) (q0 := 0) (q := (RX8, TX8, 13)) rfl (zm_c0 V g w pa be av sl sv pd cd st le ap pl wy))) rfl rfl hl.1 rfl (lv_room (Nat.le_of_ble_eq_true rfl)) dX8_of_62 ⟨Nat.le_of_ble_eq_true rfl, Nat.le_of_ble_eq_true rfl⟩) ?_
          exact zr_si hx hb hr hlocks (by subst hc_; rw [mOf, hq]; rfl) dX8_of_65
        · have hc_ : what = 2 := hc_
          refine lv_tableIn (off := 51) (tgt := 66) hx hb dX8_of_15 (by rw [hc_]; decide) (by rw [hc_]; decide) (by rw [hc_]; rfl) (by decide) ?_
          refine lv_aload_n hx hb dX8_of_66 rfl (lv_at hl 1 rfl) ?_
          refine lv_iload_n hx hb dX8_of_67 rfl (lv_at hl 0 rfl) ?_
          refine zc_se (va_runV (As := [.int (nI k)]) (rest := []) ⟨hx, hb, hml, hown, hts⟩ (c_X8_lastOf l V g w pa be av sl sv pd cd st le ap pl wy k (by omega)) (cwV 1 hts (zgV_ wsM_all uM_17 uM_74 uM_75 uM_76 uM_21) rfl rfl rfl (by decide +kernel) ⟨Nat.le_of_ble_eq_true rfl, Nat.le_of_ble_eq_true rfl⟩) (zPreV (B := fun H => va_P V.1 vwCl (zmW V g w pa be av sl sv pd cd st le ap pl wy) H) hP hE (va_recv hE.1 hP (ci := 8) (q0 := 0) (q := (RX8, TX8, 13)) rfl (zm_c0 V g w pa be av sl sv pd cd st le ap pl wy))) rfl rfl hl.1 rfl (lv_room (Nat.le_of_ble_eq_true rfl)) dX8_of_68 ⟨Nat.le_of_ble_eq_true rfl, Nat.le_of_ble_eq_true rfl⟩) ?_
          exact zr_si hx hb hr hlocks (by subst hc_; rw [mOf, hq]; rfl) dX8_of_71
        · have hc_ : what = 3 := hc_
          refine lv_tableIn (off := 57) (tgt := 72) hx hb dX8_of_15 (by rw [hc_]; decide) (by rw [hc_]; decide) (by rw [hc_]; rfl) (by decide) ?_
          refine lv_aload_n hx hb dX8_of_72 rfl (lv_at hl 1 rfl) ?_
          refine zm_get 0 (.ref (g 1)) hx hb hts (fun x h => List.mem_cons_of_mem _ (hU_X8 x h)) hown hE hP (by decide) rfl (hts _ (List.mem_cons_of_mem _ uM_5)) (fun _ h9 => h9) dX8_of_73 ?_
          refine lv_bipush (v := 6) hx hb dX8_of_76 (by decide +kernel) ?_
          refine z_iald (k := 6) hx hb hE hP 1 (zm_c1 V g w pa be av sl sv pd cd st le ap pl wy) (by omega) (by decide) dX8_of_78 ?_
          refine lv_aload_n hx hb dX8_of_79 rfl (lv_at hl 1 rfl) ?_
          refine lv_iload_n hx hb dX8_of_80 rfl (lv_at hl 0 rfl) ?_
          refine lv_iconst (v := 4) hx hb dX8_of_81 (by decide +kernel) ?_
          refine zc_se (va_runV (As := [.int (nI k), .int 4]) (rest := [.int (w 6)]) ⟨hx, hb, hml, hown, hts⟩ (c_X8_its l V g w pa be av sl sv pd cd st le ap pl wy k 4 (by omega)) (cwV 2 hts (zgV_ wsM_all uM_16 uM_18 uM_19 uM_20 uM_21) rfl rfl rfl (by decide +kernel) ⟨Nat.le_of_ble_eq_true rfl, Nat.le_of_ble_eq_true rfl⟩) (zPreV (B := fun H => va_P V.1 vwCl (zmW V g w pa be av sl sv pd cd st le ap pl wy) H) hP hE (va_recv hE.1 hP (ci := 8) (q0 := 0) (q := (RX8, TX8, 13)) rfl (zm_c0 V g w pa be av sl sv pd cd st le ap pl wy))) rfl rfl hl.1 rfl (lv_room (Nat.le_of_ble_eq_true rfl)) dX8_of_82 ⟨Nat.le_of_ble_eq_true rfl, Nat.le_of_ble_eq_true rfl⟩) ?_
          refine lv_isub hx hb dX8_of_85 ?_
          exact zr_si hx hb hr hlocks (by subst hc_; rw [mOf, hq]; rfl) dX8_of_86
        · have hc_ : what = 4 := hc_
          refine lv_tableIn (off := 72) (tgt := 87) hx hb dX8_of_15 (by rw [hc_]; decide) (by rw [hc_]; decide) (by rw [hc_]; rfl) (by decide) ?_
          refine lv_aload_n hx hb dX8_of_87 rfl (lv_at hl 1 rfl) ?_
          refine lv_iload_n hx hb dX8_of_88 rfl (lv_at hl 0 rfl) ?_
          refine zc_se (va_runV (As := [.int (nI k)]) (rest := []) ⟨hx, hb, hml, hown, hts⟩ (c_X8_isOld l V g w pa be av sl sv pd cd st le ap pl wy k (by omega) (hwr k (by omega))) (cwV 1 hts (zgV_ wsM_all uM_42 uM_59 uM_60 uM_61 uM_21) rfl rfl rfl (by decide +kernel) ⟨Nat.le_of_ble_eq_true rfl, Nat.le_of_ble_eq_true rfl⟩) (zPreV (B := fun H => va_P V.1 vwCl (zmW V g w pa be av sl sv pd cd st le ap pl wy) H) hP hE (va_recv hE.1 hP (ci := 8) (q0 := 0) (q := (RX8, TX8, 13)) rfl (zm_c0 V g w pa be av sl sv pd cd st le ap pl wy))) rfl rfl hl.1 rfl (lv_room (Nat.le_of_ble_eq_true rfl)) dX8_of_89 ⟨Nat.le_of_ble_eq_true rfl, Nat.le_of_ble_eq_true rfl⟩) ?_
          refine zbp_eq (P := w (zF w k 1).toNatClampNeg ≤ w 6 - zF w k 4) (tgt := 99) hx hb dX8_of_92 (by decide) (fun c_92 => ?_) (fun c_92 => ?_)
          · refine lv_iconst (v := 0) hx hb dX8_of_99 (by decide +kernel) ?_
            exact zr_si hx hb hr hlocks (by subst hc_; rw [mOf, hq]; first | exact (if_pos c_92).symm | exact (if_neg c_92).symm) dX8_of_100
          · refine lv_iconst (v := 1) hx hb dX8_of_95 (by decide +kernel) ?_
            refine lv_goto (tgt := 100) hx hb dX8_of_96 (by decide) ?_
            exact zr_si hx hb hr hlocks (by subst hc_; rw [mOf, hq]; first | exact (if_pos c_92).symm | exact (if_neg c_92).symm) dX8_of_100
        · have hc_ : what = 5 := hc_
          refine lv_tableIn (off := 86) (tgt := 101) hx hb dX8_of_15 (by rw [hc_]; decide) (by rw [hc_]; decide) (by rw [hc_]; rfl) (by decide) ?_
          refine lv_aload_n hx hb dX8_of_101 rfl (lv_at hl 1 rfl) ?_
          refine lv_iload_n hx hb dX8_of_102 rfl (lv_at hl 0 rfl) ?_
          refine lv_iconst (v := 5) hx hb dX8_of_103 (by decide +kernel) ?_
          refine zc_se (va_runV (As := [.int (nI k), .int 5]) (rest := []) ⟨hx, hb, hml, hown, hts⟩ (c_X8_its l V g w pa be av sl sv pd cd st le ap pl wy k 5 (by omega)) (cwV 2 hts (zgV_ wsM_all uM_16 uM_18 uM_19 uM_20 uM_21) rfl rfl rfl (by decide +kernel) ⟨Nat.le_of_ble_eq_true rfl, Nat.le_of_ble_eq_true rfl⟩) (zPreV (B := fun H => va_P V.1 vwCl (zmW V g w pa be av sl sv pd cd st le ap pl wy) H) hP hE (va_recv hE.1 hP (ci := 8) (q0 := 0) (q := (RX8, TX8, 13)) rfl (zm_c0 V g w pa be av sl sv pd cd st le ap pl wy))) rfl rfl hl.1 rfl (lv_room (Nat.le_of_ble_eq_true rfl)) dX8_of_104 ⟨Nat.le_of_ble_eq_true rfl, Nat.le_of_ble_eq_true rfl⟩) ?_
          exact zr_si hx hb hr hlocks (by subst hc_; rw [mOf, hq]; rfl) dX8_of_107
      · have hne_ : ¬ what = 0 ∧ ¬ what = 1 ∧ ¬ what = 2 ∧ ¬ what = 3 ∧ ¬ what = 4 ∧ ¬ what = 5 := by
          refine ⟨?_, ?_, ?_, ?_, ?_, ?_⟩ <;> (intro e_; rw [e_] at hc_; revert hc_; decide)
        refine lv_tableOut (tgt := 108) hx hb dX8_of_15 hc_ (by decide) ?_
        refine lv_bipush (v := (-2)) hx hb dX8_of_108 (by decide +kernel) ?_
        exact zr_si hx hb hr hlocks (by rw [mOf, hq]; simp [hne_]) dX8_of_110
    · exact absurd c_9 (z_n6 (by omega))
set_option maxHeartbeats 4000000 in
set_option maxRecDepth 100000 in
theorem c_X8_waiting (l : Launch) (V : zV) (g : Nat → Nat) (w pa be av sl sv pd cd : Nat → Int32) (st le ap pl wy : Int32) (n : Nat) (wr rk : Int32) (hn : w 7 = nI n) (h30 : n ≤ 30) : Met l yX8_waiting wsX8_waiting (zR 2 0 0) (zPc V [.ref (g 0), .int wr, .int rk] (fun H => va_P V.1 vwCl (zmW V g w pa be av sl sv pd cd st le ap pl wy) H)) (vp_Si (fun r => r = (mWait w n wr rk))) 0 0 (fun _ => False) := by
  refine Met.ofW (cc := cX8_waiting) (maxL := 4) (ret := (some .int)) (by decide) rfl ?_
  intro p e s m args below meth c s₁ B hml hv
  obtain ⟨rfl, hP, hE⟩ := hv
  have hx := B.exec
  have hb := B.bytes
  have hr := B.returns
  have hts := atoms_spec (ws := wsX8_waiting) B.pre
  have hown : s.vm.findClass RX8 = some m.cls := findClass_of_methodNamed B.named
  have hlocks := B.notSynchronized
  have hl := lv_entry ([.ref (g 0), .int wr, .int rk]) (n := 4) (Nat.le_of_ble_eq_true rfl)
  rw [lg_entry_eq]
  generalize (lg_sl ([.ref (g 0), .int wr, .int rk]) ++ List.replicate (4 - (lg_sl ([.ref (g 0), .int wr, .int rk])).length) Slot.unset).toArray = ls at hl ⊢
  have hl : lv_has ls 4 [(0, .ref (g 0)), (1, .int wr), (2, .int rk)] := hl
  refine lv_iload_n hx hb dX8_waiting_0 rfl (lv_at hl 1 rfl) ?_
  refine lv_i2l (v := wr.toInt64) hx hb dX8_waiting_1 rfl ?_
  refine lv_iconst (v := 0) hx hb dX8_waiting_2 (by decide +kernel) ?_
  refine lv_iconst (v := 1) hx hb dX8_waiting_3 (by decide +kernel) ?_
  refine zc_se (va_runS (As := [.long wr.toInt64, .int 0, .int 1]) (rest := []) ⟨hx, hb, hml, hown, hts⟩ (c_X8_in l V wr 0 1) (va_cwS 3 hts (zgS_ wsM_all uM_14 uM_29 uM_30 uM_21) rfl rfl rfl (by decide +kernel) ⟨Nat.le_of_ble_eq_true rfl, Nat.le_of_ble_eq_true rfl⟩) (zPreS (B := fun _ => True) trivial hE) rfl rfl hl.1 rfl (lv_room (Nat.le_of_ble_eq_true rfl)) dX8_waiting_4 ⟨Nat.le_of_ble_eq_true rfl, Nat.le_of_ble_eq_true rfl⟩) ?_
  refine zbp_ne (P := 0 ≤ wr ∧ wr ≤ 1) (tgt := 13) hx hb dX8_waiting_7 (by decide) (fun c_7 => ?_) (fun c_7 => ?_)
  · refine lv_iconst (v := 0) hx hb dX8_waiting_13 (by decide +kernel) ?_
    refine lv_istore_n (lv' := [(3, .int 0), (0, .ref (g 0)), (1, .int wr), (2, .int rk)]) hx hb dX8_waiting_14 rfl hl (by decide) rfl (fun ls hl => ?_)
    have L_15 : ∀ (n_ i : Nat) (ls : Array Slot), i ≤ n → n + 1 ≤ i + n_ → (zFirst (fun k => decide (zF w k 1 = wr ∧ nI (mRank w n k) = rk)) i = none) → lv_has ls 4 [(3, .int (nI i)), (0, .ref (g 0)), (1, .int wr), (2, .int rk)] → W p l e (headSpec wsX8_waiting (zR 2 0 0)).room s m (List.toArray [.ref (g 0), .int wr, .int rk]) below meth c s.heap [] 0 0 (MQ below (vp_Si (fun r => r = (mWait w n wr rk))) (List.toArray [.ref (g 0), .int wr, .int rk]) s 0 0 (fun _ => False)) (F0 m 15 ls []) := by
      intro n_
      induction n_ with
      | zero => intro i   ls hi_ hn_; exact absurd hn_ (by omega)
      | succ n_ ih =>
        intro i   ls hi_ hn_ hno  hl
        refine lv_iload_n hx hb dX8_waiting_15 rfl (lv_at hl 0 rfl) ?_
        refine lv_aload_n hx hb dX8_waiting_16 rfl (lv_at hl 1 rfl) ?_
        refine zm_get 0 (.ref (g 1)) hx hb hts (fun x h => List.mem_cons_of_mem _ (hU_X8 x h)) hown hE hP (by decide) rfl (hts _ (List.mem_cons_of_mem _ uM_5)) (fun _ h9 => h9) dX8_waiting_17 ?_
        refine lv_bipush (v := 7) hx hb dX8_waiting_20 (by decide +kernel) ?_
        refine z_iald (k := 7) hx hb hE hP 1 (zm_c1 V g w pa be av sl sv pd cd st le ap pl wy) (by omega) (by decide) dX8_waiting_22 ?_
        refine zt_i hn ?_
        refine zb_ge (x := i) (y := n) (tgt := 58) hx hb dX8_waiting_23 (by decide) (by omega) (by omega) (fun c_23 => ?_) (fun c_23 => ?_)
        · refine lv_iconst (v := (-1)) hx hb dX8_waiting_58 (by decide +kernel) ?_
          exact zr_si hx hb hr hlocks (by rw [show i = n by omega] at hno; rw [mWait, if_pos c_7, hno]) dX8_waiting_59
        · refine lv_aload_n hx hb dX8_waiting_26 rfl (lv_at hl 1 rfl) ?_
          refine lv_iload_n hx hb dX8_waiting_27 rfl (lv_at hl 0 rfl) ?_
          refine lv_iconst (v := 1) hx hb dX8_waiting_28 (by decide +kernel) ?_
          refine zc_se (va_runV (As := [.int (nI i), .int 1]) (rest := []) ⟨hx, hb, hml, hown, hts⟩ (c_X8_its l V g w pa be av sl sv pd cd st le ap pl wy i 1 (by omega)) (cwV 2 hts (zgV_ wsM_all uM_16 uM_18 uM_19 uM_20 uM_21) rfl rfl rfl (by decide +kernel) ⟨Nat.le_of_ble_eq_true rfl, Nat.le_of_ble_eq_true rfl⟩) (zPreV (B := fun H => va_P V.1 vwCl (zmW V g w pa be av sl sv pd cd st le ap pl wy) H) hP hE (va_recv hE.1 hP (ci := 8) (q0 := 0) (q := (RX8, TX8, 13)) rfl (zm_c0 V g w pa be av sl sv pd cd st le ap pl wy))) rfl rfl hl.1 rfl (lv_room (Nat.le_of_ble_eq_true rfl)) dX8_waiting_29 ⟨Nat.le_of_ble_eq_true rfl, Nat.le_of_ble_eq_true rfl⟩) ?_
          refine lv_iload_n hx hb dX8_waiting_32 rfl (lv_at hl 2 rfl) ?_
          refine lv_icmp_ne (tgt := 52) hx hb dX8_waiting_33 (by decide) (fun c_33 => ?_) (fun c_33 => ?_)
          · refine lv_iinc (v := nI (i + 1)) (lv' := [(3, .int (nI (i + 1))), (0, .ref (g 0)), (1, .int wr), (2, .int rk)]) hx hb dX8_waiting_52 hl (k := 0) rfl (z_inc1 i) (by decide) rfl (fun ls hl => ?_)
            refine lv_goto (tgt := 15) hx hb dX8_waiting_55 (by decide) ?_
            exact ih (i + 1) ls (by omega) (by omega) (zFirst_no hno (by first | exact decide_eq_false (fun h => c_33 h.1) | exact decide_eq_false (fun h => c_42 h.2))) (lv_sub hl [0, 1, 2, 3] rfl)
          · refine lv_aload_n hx hb dX8_waiting_36 rfl (lv_at hl 1 rfl) ?_
            refine lv_iload_n hx hb dX8_waiting_37 rfl (lv_at hl 0 rfl) ?_
            refine zc_se (va_runV (As := [.int (nI i)]) (rest := []) ⟨hx, hb, hml, hown, hts⟩ (c_X8_rank l V g w pa be av sl sv pd cd st le ap pl wy n i hn h30 (by omega)) (cwV 1 hts (zgV_ wsM_all uM_127 uM_129 uM_130 uM_131 uM_21) rfl rfl rfl (by decide +kernel) ⟨Nat.le_of_ble_eq_true rfl, Nat.le_of_ble_eq_true rfl⟩) (zPreV (B := fun H => va_P V.1 vwCl (zmW V g w pa be av sl sv pd cd st le ap pl wy) H) hP hE (va_recv hE.1 hP (ci := 8) (q0 := 0) (q := (RX8, TX8, 13)) rfl (zm_c0 V g w pa be av sl sv pd cd st le ap pl wy))) rfl rfl hl.1 rfl (lv_room (Nat.le_of_ble_eq_true rfl)) dX8_waiting_38 ⟨Nat.le_of_ble_eq_true rfl, Nat.le_of_ble_eq_true rfl⟩) ?_
            refine lv_iload_n hx hb dX8_waiting_41 rfl (lv_at hl 3 rfl) ?_
            refine lv_icmp_ne (tgt := 52) hx hb dX8_waiting_42 (by decide) (fun c_42 => ?_) (fun c_42 => ?_)
            · refine lv_iinc (v := nI (i + 1)) (lv' := [(3, .int (nI (i + 1))), (0, .ref (g 0)), (1, .int wr), (2, .int rk)]) hx hb dX8_waiting_52 hl (k := 0) rfl (z_inc1 i) (by decide) rfl (fun ls hl => ?_)
              refine lv_goto (tgt := 15) hx hb dX8_waiting_55 (by decide) ?_
              exact ih (i + 1) ls (by omega) (by omega) (zFirst_no hno (by first | exact decide_eq_false (fun h => c_33 h.1) | exact decide_eq_false (fun h => c_42 h.2))) (lv_sub hl [0, 1, 2, 3] rfl)
            · refine lv_aload_n hx hb dX8_waiting_45 rfl (lv_at hl 1 rfl) ?_
              refine lv_iload_n hx hb dX8_waiting_46 rfl (lv_at hl 0 rfl) ?_
              refine lv_iconst (v := 0) hx hb dX8_waiting_47 (by decide +kernel) ?_
              refine zc_se (va_runV (As := [.int (nI i), .int 0]) (rest := []) ⟨hx, hb, hml, hown, hts⟩ (c_X8_its l V g w pa be av sl sv pd cd st le ap pl wy i 0 (by omega)) (cwV 2 hts (zgV_ wsM_all uM_16 uM_18 uM_19 uM_20 uM_21) rfl rfl rfl (by decide +kernel) ⟨Nat.le_of_ble_eq_true rfl, Nat.le_of_ble_eq_true rfl⟩) (zPreV (B := fun H => va_P V.1 vwCl (zmW V g w pa be av sl sv pd cd st le ap pl wy) H) hP hE (va_recv hE.1 hP (ci := 8) (q0 := 0) (q := (RX8, TX8, 13)) rfl (zm_c0 V g w pa be av sl sv pd cd st le ap pl wy))) rfl rfl hl.1 rfl (lv_room (Nat.le_of_ble_eq_true rfl)) dX8_waiting_48 ⟨Nat.le_of_ble_eq_true rfl, Nat.le_of_ble_eq_true rfl⟩) ?_
              exact zr_si hx hb hr hlocks (by rw [mWait, if_pos c_7, zFirst_hit hno (decide_eq_true ⟨c_33, c_42⟩) (by omega)]) dX8_waiting_51
    exact L_15 (n + 1) 0 ls (by omega) (by omega) rfl (lv_sub hl [0, 1, 2, 3] rfl)
  · refine lv_bipush (v := (-2)) hx hb dX8_waiting_10 (by decide +kernel) ?_
    exact zr_si hx hb hr hlocks (by rw [mWait, if_neg c_7]) dX8_waiting_12
set_option maxHeartbeats 4000000 in
set_option maxRecDepth 100000 in
theorem c_X8_log (l : Launch) (V : zV) (g : Nat → Nat) (w pa be av sl sv pd cd : Nat → Int32) (st le ap pl wy : Int32) (e_ : Nat) (ago what : Int32) (he : w 17 = nI e_) (h20 : e_ ≤ 20) : Met l yX8_log wsX8_log (zR 1 0 0) (zPc V [.ref (g 0), .int ago, .int what] (fun H => va_P V.1 vwCl (zmW V g w pa be av sl sv pd cd st le ap pl wy) H)) (vp_Si (fun r => r = (mLog w ago what))) 0 0 (fun _ => False) := by
  refine Met.ofW (cc := cX8_log) (maxL := 3) (ret := (some .int)) (by decide) rfl ?_
  intro p e s m args below meth c s₁ B hml hv
  obtain ⟨rfl, hP, hE⟩ := hv
  have hx := B.exec
  have hb := B.bytes
  have hr := B.returns
  have hts := atoms_spec (ws := wsX8_log) B.pre
  have hown : s.vm.findClass RX8 = some m.cls := findClass_of_methodNamed B.named
  have hlocks := B.notSynchronized
  have hl := lv_entry ([.ref (g 0), .int ago, .int what]) (n := 3) (Nat.le_of_ble_eq_true rfl)
  rw [lg_entry_eq]
  generalize (lg_sl ([.ref (g 0), .int ago, .int what]) ++ List.replicate (3 - (lg_sl ([.ref (g 0), .int ago, .int what])).length) Slot.unset).toArray = ls at hl ⊢
  have hl : lv_has ls 3 [(0, .ref (g 0)), (1, .int ago), (2, .int what)] := hl
  refine lv_iload_n hx hb dX8_log_0 rfl (lv_at hl 1 rfl) ?_
  refine lv_i2l (v := ago.toInt64) hx hb dX8_log_1 rfl ?_
  refine lv_iconst (v := 0) hx hb dX8_log_2 (by decide +kernel) ?_
  refine lv_aload_n hx hb dX8_log_3 rfl (lv_at hl 0 rfl) ?_
  refine zm_get 0 (.ref (g 1)) hx hb hts (fun x h => List.mem_cons_of_mem _ (hU_X8 x h)) hown hE hP (by decide) rfl (hts _ (List.mem_cons_of_mem _ uM_5)) (fun _ h9 => h9) dX8_log_4 ?_
  refine lv_bipush (v := 17) hx hb dX8_log_7 (by decide +kernel) ?_
  refine z_iald (k := 17) hx hb hE hP 1 (zm_c1 V g w pa be av sl sv pd cd st le ap pl wy) (by omega) (by decide) dX8_log_9 ?_
  refine lv_iconst (v := 1) hx hb dX8_log_10 (by decide +kernel) ?_
  refine lv_isub hx hb dX8_log_11 ?_
  refine zc_se (va_runS (As := [.long ago.toInt64, .int 0, .int ((w 17) - 1)]) (rest := []) ⟨hx, hb, hml, hown, hts⟩ (c_X8_in l V ago 0 ((w 17) - 1)) (va_cwS 3 hts (zgS_ wsM_all uM_14 uM_29 uM_30 uM_21) rfl rfl rfl (by decide +kernel) ⟨Nat.le_of_ble_eq_true rfl, Nat.le_of_ble_eq_true rfl⟩) (zPreS (B := fun _ => True) trivial hE) rfl rfl hl.1 rfl (lv_room (Nat.le_of_ble_eq_true rfl)) dX8_log_12 ⟨Nat.le_of_ble_eq_true rfl, Nat.le_of_ble_eq_true rfl⟩) ?_
  refine zbp_ne (P := 0 ≤ ago ∧ ago ≤ (w 17) - 1) (tgt := 22) hx hb dX8_log_15 (by decide) (fun c_15 => ?_) (fun c_15 => ?_)
  · refine lv_iload_n hx hb dX8_log_22 rfl (lv_at hl 2 rfl) ?_
    refine lv_i2l (v := what.toInt64) hx hb dX8_log_23 rfl ?_
    refine lv_iconst (v := 0) hx hb dX8_log_24 (by decide +kernel) ?_
    refine lv_iconst (v := 2) hx hb dX8_log_25 (by decide +kernel) ?_
    refine zc_se (va_runS (As := [.long what.toInt64, .int 0, .int 2]) (rest := []) ⟨hx, hb, hml, hown, hts⟩ (c_X8_in l V what 0 2) (va_cwS 3 hts (zgS_ wsM_all uM_14 uM_29 uM_30 uM_21) rfl rfl rfl (by decide +kernel) ⟨Nat.le_of_ble_eq_true rfl, Nat.le_of_ble_eq_true rfl⟩) (zPreS (B := fun _ => True) trivial hE) rfl rfl hl.1 rfl (lv_room (Nat.le_of_ble_eq_true rfl)) dX8_log_26 ⟨Nat.le_of_ble_eq_true rfl, Nat.le_of_ble_eq_true rfl⟩) ?_
    refine zbp_eq (P := 0 ≤ what ∧ what ≤ 2) (tgt := 48) hx hb dX8_log_29 (by decide) (fun c_29 => ?_) (fun c_29 => ?_)
    · refine lv_bipush (v := (-2)) hx hb dX8_log_48 (by decide +kernel) ?_
      exact zr_si hx hb hr hlocks (by first | exact (if_neg c_15).symm | exact ((if_pos c_15).trans (if_neg c_29)).symm | (rw [mLog, he, if_pos c_15, if_pos c_29, nI_clamp (by omega), nI_clamp (by omega)])) dX8_log_50
    · rw [he] at c_15
      obtain ⟨j, rfl, hj⟩ := z_lg h20 c_15
      obtain ⟨j2, rfl, -, hj2⟩ := z_ix (na := 0) (nb := 2) rfl rfl (by decide) (by decide) c_29
      refine lv_aload_n hx hb dX8_log_32 rfl (lv_at hl 0 rfl) ?_
      refine zm_get 0 (.ref (g 1)) hx hb hts (fun x h => List.mem_cons_of_mem _ (hU_X8 x h)) hown hE hP (by decide) rfl (hts _ (List.mem_cons_of_mem _ uM_5)) (fun _ h9 => h9) dX8_log_33 ?_
      refine lv_bipush (v := 18) hx hb dX8_log_36 (by decide +kernel) ?_
      refine lv_iconst (v := 3) hx hb dX8_log_38 (by decide +kernel) ?_
      refine lv_iload_n hx hb dX8_log_39 rfl (lv_at hl 1 rfl) ?_
      refine lv_imul hx hb dX8_log_40 ?_
      refine zt_i (z_mul (a := 3) (b := j) (by first | rfl | omega)) ?_
      refine lv_iadd hx hb dX8_log_41 ?_
      refine zt_i (z_add (a := 18) (b := 3 * j) (by first | rfl | omega)) ?_
      refine lv_iload_n hx hb dX8_log_42 rfl (lv_at hl 2 rfl) ?_
      refine lv_iadd hx hb dX8_log_43 ?_
      refine zt_i (z_add (a := 18 + 3 * j) (b := j2) (by first | rfl | omega)) ?_
      refine z_iald (k := 18 + 3 * j + j2) hx hb hE hP 1 (zm_c1 V g w pa be av sl sv pd cd st le ap pl wy) (by omega) (by decide) dX8_log_44 ?_
      refine lv_goto (tgt := 50) hx hb dX8_log_45 (by decide) ?_
      exact zr_si hx hb hr hlocks (by first | exact (if_neg c_15).symm | exact ((if_pos c_15).trans (if_neg c_29)).symm | (rw [mLog, he, if_pos c_15, if_pos c_29, nI_clamp (by omega), nI_clamp (by omega)])) dX8_log_50
  · refine lv_iconst (v := (-1)) hx hb dX8_log_18 (by decide +kernel) ?_
    refine lv_goto (tgt := 50) hx hb dX8_log_19 (by decide) ?_
    exact zr_si hx hb hr hlocks (by first | exact (if_neg c_15).symm | exact ((if_pos c_15).trans (if_neg c_29)).symm | (rw [mLog, he, if_pos c_15, if_pos c_29, nI_clamp (by omega), nI_clamp (by omega)])) dX8_log_50
set_option maxHeartbeats 4000000 in
set_option maxRecDepth 100000 in
theorem c_X8_count (l : Launch) (V : zV) (g : Nat → Nat) (w pa be av sl sv pd cd : Nat → Int32) (st le ap pl wy : Int32) (n : Nat) (what : Int32) (hn : w 7 = nI n) (h30 : n ≤ 30) : Met l yX8_count wsX8_count (zR 2 0 0) (zPc V [.ref (g 0), .int what] (fun H => va_P V.1 vwCl (zmW V g w pa be av sl sv pd cd st le ap pl wy) H)) (vp_Si (fun r => r = (mCount w n le st what))) 0 0 (fun _ => False) := by
  refine Met.ofW (cc := cX8_count) (maxL := 2) (ret := (some .int)) (by decide) rfl ?_
  intro p e s m args below meth c s₁ B hml hv
  obtain ⟨rfl, hP, hE⟩ := hv
  have hx := B.exec
  have hb := B.bytes
  have hr := B.returns
  have hts := atoms_spec (ws := wsX8_count) B.pre
  have hown : s.vm.findClass RX8 = some m.cls := findClass_of_methodNamed B.named
  have hlocks := B.notSynchronized
  have hl := lv_entry ([.ref (g 0), .int what]) (n := 2) (Nat.le_of_ble_eq_true rfl)
  rw [lg_entry_eq]
  generalize (lg_sl ([.ref (g 0), .int what]) ++ List.replicate (2 - (lg_sl ([.ref (g 0), .int what])).length) Slot.unset).toArray = ls at hl ⊢
  have hl : lv_has ls 2 [(0, .ref (g 0)), (1, .int what)] := hl
  refine lv_iload_n hx hb dX8_count_0 rfl (lv_at hl 1 rfl) ?_
  refine lv_i2l (v := what.toInt64) hx hb dX8_count_1 rfl ?_
  refine lv_bipush (v := 10) hx hb dX8_count_2 (by decide +kernel) ?_
  refine lv_bipush (v := 15) hx hb dX8_count_4 (by decide +kernel) ?_
  refine zc_se (va_runS (As := [.long what.toInt64, .int 10, .int 15]) (rest := []) ⟨hx, hb, hml, hown, hts⟩ (c_X8_in l V what 10 15) (va_cwS 3 hts (zgS_ wsM_all uM_14 uM_29 uM_30 uM_21) rfl rfl rfl (by decide +kernel) ⟨Nat.le_of_ble_eq_true rfl, Nat.le_of_ble_eq_true rfl⟩) (zPreS (B := fun _ => True) trivial hE) rfl rfl hl.1 rfl (lv_room (Nat.le_of_ble_eq_true rfl)) dX8_count_6 ⟨Nat.le_of_ble_eq_true rfl, Nat.le_of_ble_eq_true rfl⟩) ?_
  refine zbp_eq (P := 10 ≤ what ∧ what ≤ 15) (tgt := 22) hx hb dX8_count_9 (by decide) (fun c_9 => ?_) (fun c_9 => ?_)
  · refine lv_iload_n hx hb dX8_count_22 rfl (lv_at hl 1 rfl) ?_
    rcases z_rng what 18 (by decide) with ⟨k_, hk_, hc_⟩ | hc_
    · rcases (show k_ = 0 ∨ k_ = 1 ∨ k_ = 2 ∨ k_ = 3 ∨ k_ = 4 ∨ k_ = 5 ∨ k_ = 6 ∨ k_ = 7 ∨ k_ = 8 ∨ k_ = 9 ∨ k_ = 10 ∨ k_ = 11 ∨ k_ = 12 ∨ k_ = 13 ∨ k_ = 14 ∨ k_ = 15 ∨ k_ = 16 ∨ k_ = 17 by omega) with rfl | rfl | rfl | rfl | rfl | rfl | rfl | rfl | rfl | rfl | rfl | rfl | rfl | rfl | rfl | rfl | rfl | rfl
      · have hc_ : what = 0 := hc_
        refine lv_tableIn (off := 85) (tgt := 108) hx hb dX8_count_23 (by rw [hc_]; decide) (by rw [hc_]; decide) (by rw [hc_]; rfl) (by decide) ?_
        refine lv_aload_n hx hb dX8_count_108 rfl (lv_at hl 0 rfl) ?_
        refine zm_get 0 (.ref (g 1)) hx hb hts (fun x h => List.mem_cons_of_mem _ (hU_X8 x h)) hown hE hP (by decide) rfl (hts _ (List.mem_cons_of_mem _ uM_5)) (fun _ h9 => h9) dX8_count_109 ?_
        refine lv_bipush (v := 6) hx hb dX8_count_112 (by decide +kernel) ?_
        refine z_iald (k := 6) hx hb hE hP 1 (zm_c1 V g w pa be av sl sv pd cd st le ap pl wy) (by omega) (by decide) dX8_count_114 ?_
        exact zr_si hx hb hr hlocks (by subst hc_; first | rfl | exact absurd ⟨by decide, by decide⟩ c_9) dX8_count_115
      · have hc_ : what = 1 := hc_
        refine lv_tableIn (off := 93) (tgt := 116) hx hb dX8_count_23 (by rw [hc_]; decide) (by rw [hc_]; decide) (by rw [hc_]; rfl) (by decide) ?_
        refine lv_aload_n hx hb dX8_count_116 rfl (lv_at hl 0 rfl) ?_
        refine lv_iload_n hx hb dX8_count_117 rfl (lv_at hl 1 rfl) ?_
        refine lv_iconst (v := 1) hx hb dX8_count_118 (by decide +kernel) ?_
        refine lv_isub hx hb dX8_count_119 ?_
        refine zc_se (va_runV (As := [.int (what - 1)]) (rest := []) ⟨hx, hb, hml, hown, hts⟩ (c_X8_many l V g w pa be av sl sv pd cd st le ap pl wy n (what - 1) hn h30) (cwV 1 hts (zgV_ wsM_all uM_23 uM_44 uM_45 uM_46 uM_21) rfl rfl rfl (by decide +kernel) ⟨Nat.le_of_ble_eq_true rfl, Nat.le_of_ble_eq_true rfl⟩) (zPreV (B := fun H => va_P V.1 vwCl (zmW V g w pa be av sl sv pd cd st le ap pl wy) H) hP hE (va_recv hE.1 hP (ci := 8) (q0 := 0) (q := (RX8, TX8, 13)) rfl (zm_c0 V g w pa be av sl sv pd cd st le ap pl wy))) rfl rfl hl.1 rfl (lv_room (Nat.le_of_ble_eq_true rfl)) dX8_count_120 ⟨Nat.le_of_ble_eq_true rfl, Nat.le_of_ble_eq_true rfl⟩) ?_
        exact zr_si hx hb hr hlocks (by subst hc_; first | rfl | exact absurd ⟨by decide, by decide⟩ c_9) dX8_count_123
      · have hc_ : what = 2 := hc_
        refine lv_tableIn (off := 93) (tgt := 116) hx hb dX8_count_23 (by rw [hc_]; decide) (by rw [hc_]; decide) (by rw [hc_]; rfl) (by decide) ?_
        refine lv_aload_n hx hb dX8_count_116 rfl (lv_at hl 0 rfl) ?_
        refine lv_iload_n hx hb dX8_count_117 rfl (lv_at hl 1 rfl) ?_
        refine lv_iconst (v := 1) hx hb dX8_count_118 (by decide +kernel) ?_
        refine lv_isub hx hb dX8_count_119 ?_
        refine zc_se (va_runV (As := [.int (what - 1)]) (rest := []) ⟨hx, hb, hml, hown, hts⟩ (c_X8_many l V g w pa be av sl sv pd cd st le ap pl wy n (what - 1) hn h30) (cwV 1 hts (zgV_ wsM_all uM_23 uM_44 uM_45 uM_46 uM_21) rfl rfl rfl (by decide +kernel) ⟨Nat.le_of_ble_eq_true rfl, Nat.le_of_ble_eq_true rfl⟩) (zPreV (B := fun H => va_P V.1 vwCl (zmW V g w pa be av sl sv pd cd st le ap pl wy) H) hP hE (va_recv hE.1 hP (ci := 8) (q0 := 0) (q := (RX8, TX8, 13)) rfl (zm_c0 V g w pa be av sl sv pd cd st le ap pl wy))) rfl rfl hl.1 rfl (lv_room (Nat.le_of_ble_eq_true rfl)) dX8_count_120 ⟨Nat.le_of_ble_eq_true rfl, Nat.le_of_ble_eq_true rfl⟩) ?_
        exact zr_si hx hb hr hlocks (by subst hc_; first | rfl | exact absurd ⟨by decide, by decide⟩ c_9) dX8_count_123
      · have hc_ : what = 3 := hc_
        refine lv_tableIn (off := 101) (tgt := 124) hx hb dX8_count_23 (by rw [hc_]; decide) (by rw [hc_]; decide) (by rw [hc_]; rfl) (by decide) ?_
        refine lv_aload_n hx hb dX8_count_124 rfl (lv_at hl 0 rfl) ?_
        refine zm_get 0 (.ref (g 1)) hx hb hts (fun x h => List.mem_cons_of_mem _ (hU_X8 x h)) hown hE hP (by decide) rfl (hts _ (List.mem_cons_of_mem _ uM_5)) (fun _ h9 => h9) dX8_count_125 ?_
        refine lv_bipush (v := 9) hx hb dX8_count_128 (by decide +kernel) ?_
        refine z_iald (k := 9) hx hb hE hP 1 (zm_c1 V g w pa be av sl sv pd cd st le ap pl wy) (by omega) (by decide) dX8_count_130 ?_
        exact zr_si hx hb hr hlocks (by subst hc_; first | rfl | exact absurd ⟨by decide, by decide⟩ c_9) dX8_count_131
      · have hc_ : what = 4 := hc_
        refine lv_tableIn (off := 109) (tgt := 132) hx hb dX8_count_23 (by rw [hc_]; decide) (by rw [hc_]; decide) (by rw [hc_]; rfl) (by decide) ?_
        refine lv_aload_n hx hb dX8_count_132 rfl (lv_at hl 0 rfl) ?_
        refine zm_get 0 (.ref (g 1)) hx hb hts (fun x h => List.mem_cons_of_mem _ (hU_X8 x h)) hown hE hP (by decide) rfl (hts _ (List.mem_cons_of_mem _ uM_5)) (fun _ h9 => h9) dX8_count_133 ?_
        refine lv_bipush (v := 10) hx hb dX8_count_136 (by decide +kernel) ?_
        refine z_iald (k := 10) hx hb hE hP 1 (zm_c1 V g w pa be av sl sv pd cd st le ap pl wy) (by omega) (by decide) dX8_count_138 ?_
        exact zr_si hx hb hr hlocks (by subst hc_; first | rfl | exact absurd ⟨by decide, by decide⟩ c_9) dX8_count_139
      · have hc_ : what = 5 := hc_
        refine lv_tableIn (off := 117) (tgt := 140) hx hb dX8_count_23 (by rw [hc_]; decide) (by rw [hc_]; decide) (by rw [hc_]; rfl) (by decide) ?_
        refine lv_aload_n hx hb dX8_count_140 rfl (lv_at hl 0 rfl) ?_
        refine zm_get 0 (.ref (g 1)) hx hb hts (fun x h => List.mem_cons_of_mem _ (hU_X8 x h)) hown hE hP (by decide) rfl (hts _ (List.mem_cons_of_mem _ uM_5)) (fun _ h9 => h9) dX8_count_141 ?_
        refine lv_bipush (v := 11) hx hb dX8_count_144 (by decide +kernel) ?_
        refine z_iald (k := 11) hx hb hE hP 1 (zm_c1 V g w pa be av sl sv pd cd st le ap pl wy) (by omega) (by decide) dX8_count_146 ?_
        exact zr_si hx hb hr hlocks (by subst hc_; first | rfl | exact absurd ⟨by decide, by decide⟩ c_9) dX8_count_147
      · have hc_ : what = 6 := hc_
        refine lv_tableIn (off := 125) (tgt := 148) hx hb dX8_count_23 (by rw [hc_]; decide) (by rw [hc_]; decide) (by rw [hc_]; rfl) (by decide) ?_
        refine lv_aload_n hx hb dX8_count_148 rfl (lv_at hl 0 rfl) ?_
        refine zm_get 0 (.ref (g 1)) hx hb hts (fun x h => List.mem_cons_of_mem _ (hU_X8 x h)) hown hE hP (by decide) rfl (hts _ (List.mem_cons_of_mem _ uM_5)) (fun _ h9 => h9) dX8_count_149 ?_
        refine lv_bipush (v := 12) hx hb dX8_count_152 (by decide +kernel) ?_
        refine z_iald (k := 12) hx hb hE hP 1 (zm_c1 V g w pa be av sl sv pd cd st le ap pl wy) (by omega) (by decide) dX8_count_154 ?_
        exact zr_si hx hb hr hlocks (by subst hc_; first | rfl | exact absurd ⟨by decide, by decide⟩ c_9) dX8_count_155
      · have hc_ : what = 7 := hc_
        refine lv_tableIn (off := 133) (tgt := 156) hx hb dX8_count_23 (by rw [hc_]; decide) (by rw [hc_]; decide) (by rw [hc_]; rfl) (by decide) ?_
        refine lv_aload_n hx hb dX8_count_156 rfl (lv_at hl 0 rfl) ?_
        refine zm_get 0 (.ref (g 1)) hx hb hts (fun x h => List.mem_cons_of_mem _ (hU_X8 x h)) hown hE hP (by decide) rfl (hts _ (List.mem_cons_of_mem _ uM_5)) (fun _ h9 => h9) dX8_count_157 ?_
        refine lv_bipush (v := 13) hx hb dX8_count_160 (by decide +kernel) ?_
        refine z_iald (k := 13) hx hb hE hP 1 (zm_c1 V g w pa be av sl sv pd cd st le ap pl wy) (by omega) (by decide) dX8_count_162 ?_
        exact zr_si hx hb hr hlocks (by subst hc_; first | rfl | exact absurd ⟨by decide, by decide⟩ c_9) dX8_count_163
      · have hc_ : what = 8 := hc_
        refine lv_tableIn (off := 141) (tgt := 164) hx hb dX8_count_23 (by rw [hc_]; decide) (by rw [hc_]; decide) (by rw [hc_]; rfl) (by decide) ?_
        refine lv_aload_n hx hb dX8_count_164 rfl (lv_at hl 0 rfl) ?_
        refine zm_get 0 (.ref (g 1)) hx hb hts (fun x h => List.mem_cons_of_mem _ (hU_X8 x h)) hown hE hP (by decide) rfl (hts _ (List.mem_cons_of_mem _ uM_5)) (fun _ h9 => h9) dX8_count_165 ?_
        refine lv_bipush (v := 14) hx hb dX8_count_168 (by decide +kernel) ?_
        refine z_iald (k := 14) hx hb hE hP 1 (zm_c1 V g w pa be av sl sv pd cd st le ap pl wy) (by omega) (by decide) dX8_count_170 ?_
        exact zr_si hx hb hr hlocks (by subst hc_; first | rfl | exact absurd ⟨by decide, by decide⟩ c_9) dX8_count_171
      · have hc_ : what = 9 := hc_
        refine lv_tableIn (off := 149) (tgt := 172) hx hb dX8_count_23 (by rw [hc_]; decide) (by rw [hc_]; decide) (by rw [hc_]; rfl) (by decide) ?_
        refine lv_aload_n hx hb dX8_count_172 rfl (lv_at hl 0 rfl) ?_
        refine zm_get 0 (.ref (g 1)) hx hb hts (fun x h => List.mem_cons_of_mem _ (hU_X8 x h)) hown hE hP (by decide) rfl (hts _ (List.mem_cons_of_mem _ uM_5)) (fun _ h9 => h9) dX8_count_173 ?_
        refine lv_bipush (v := 15) hx hb dX8_count_176 (by decide +kernel) ?_
        refine z_iald (k := 15) hx hb hE hP 1 (zm_c1 V g w pa be av sl sv pd cd st le ap pl wy) (by omega) (by decide) dX8_count_178 ?_
        exact zr_si hx hb hr hlocks (by subst hc_; first | rfl | exact absurd ⟨by decide, by decide⟩ c_9) dX8_count_179
      · have hc_ : what = 10 := hc_
        refine lv_tableIn (off := 167) (tgt := 190) hx hb dX8_count_23 (by rw [hc_]; decide) (by rw [hc_]; decide) (by rw [hc_]; rfl) (by decide) ?_
        refine lv_bipush (v := (-2)) hx hb dX8_count_190 (by decide +kernel) ?_
        exact zr_si hx hb hr hlocks (by subst hc_; first | rfl | exact absurd ⟨by decide, by decide⟩ c_9) dX8_count_192
      · have hc_ : what = 11 := hc_
        refine lv_tableIn (off := 167) (tgt := 190) hx hb dX8_count_23 (by rw [hc_]; decide) (by rw [hc_]; decide) (by rw [hc_]; rfl) (by decide) ?_
        refine lv_bipush (v := (-2)) hx hb dX8_count_190 (by decide +kernel) ?_
        exact zr_si hx hb hr hlocks (by subst hc_; first | rfl | exact absurd ⟨by decide, by decide⟩ c_9) dX8_count_192
      · have hc_ : what = 12 := hc_
        refine lv_tableIn (off := 167) (tgt := 190) hx hb dX8_count_23 (by rw [hc_]; decide) (by rw [hc_]; decide) (by rw [hc_]; rfl) (by decide) ?_
        refine lv_bipush (v := (-2)) hx hb dX8_count_190 (by decide +kernel) ?_
        exact zr_si hx hb hr hlocks (by subst hc_; first | rfl | exact absurd ⟨by decide, by decide⟩ c_9) dX8_count_192
      · have hc_ : what = 13 := hc_
        refine lv_tableIn (off := 167) (tgt := 190) hx hb dX8_count_23 (by rw [hc_]; decide) (by rw [hc_]; decide) (by rw [hc_]; rfl) (by decide) ?_
        refine lv_bipush (v := (-2)) hx hb dX8_count_190 (by decide +kernel) ?_
        exact zr_si hx hb hr hlocks (by subst hc_; first | rfl | exact absurd ⟨by decide, by decide⟩ c_9) dX8_count_192
      · have hc_ : what = 14 := hc_
        refine lv_tableIn (off := 167) (tgt := 190) hx hb dX8_count_23 (by rw [hc_]; decide) (by rw [hc_]; decide) (by rw [hc_]; rfl) (by decide) ?_
        refine lv_bipush (v := (-2)) hx hb dX8_count_190 (by decide +kernel) ?_
        exact zr_si hx hb hr hlocks (by subst hc_; first | rfl | exact absurd ⟨by decide, by decide⟩ c_9) dX8_count_192
      · have hc_ : what = 15 := hc_
        refine lv_tableIn (off := 167) (tgt := 190) hx hb dX8_count_23 (by rw [hc_]; decide) (by rw [hc_]; decide) (by rw [hc_]; rfl) (by decide) ?_
        refine lv_bipush (v := (-2)) hx hb dX8_count_190 (by decide +kernel) ?_
        exact zr_si hx hb hr hlocks (by subst hc_; first | rfl | exact absurd ⟨by decide, by decide⟩ c_9) dX8_count_192
      · have hc_ : what = 16 := hc_
        refine lv_tableIn (off := 157) (tgt := 180) hx hb dX8_count_23 (by rw [hc_]; decide) (by rw [hc_]; decide) (by rw [hc_]; rfl) (by decide) ?_
        refine lv_aload_n hx hb dX8_count_180 rfl (lv_at hl 0 rfl) ?_
        refine zm_get 8 (.int le) hx hb hts (fun x h => List.mem_cons_of_mem _ (hU_X8 x h)) hown hE hP (by decide) rfl (hts _ (List.mem_cons_of_mem _ uM_134)) (fun _ h9 => h9) dX8_count_181 ?_
        exact zr_si hx hb hr hlocks (by subst hc_; first | rfl | exact absurd ⟨by decide, by decide⟩ c_9) dX8_count_184
      · have hc_ : what = 17 := hc_
        refine lv_tableIn (off := 162) (tgt := 185) hx hb dX8_count_23 (by rw [hc_]; decide) (by rw [hc_]; decide) (by rw [hc_]; rfl) (by decide) ?_
        refine lv_aload_n hx hb dX8_count_185 rfl (lv_at hl 0 rfl) ?_
        refine zm_get 6 (.int st) hx hb hts (fun x h => List.mem_cons_of_mem _ (hU_X8 x h)) hown hE hP (by decide) rfl (hts _ (List.mem_cons_of_mem _ uM_26)) (fun _ h9 => h9) dX8_count_186 ?_
        exact zr_si hx hb hr hlocks (by subst hc_; first | rfl | exact absurd ⟨by decide, by decide⟩ c_9) dX8_count_189
    · have hne_ : ¬ what = 0 ∧ ¬ what = 1 ∧ ¬ what = 2 ∧ ¬ what = 3 ∧ ¬ what = 4 ∧ ¬ what = 5 ∧ ¬ what = 6 ∧ ¬ what = 7 ∧ ¬ what = 8 ∧ ¬ what = 9 ∧ ¬ what = 10 ∧ ¬ what = 11 ∧ ¬ what = 12 ∧ ¬ what = 13 ∧ ¬ what = 14 ∧ ¬ what = 15 ∧ ¬ what = 16 ∧ ¬ what = 17 := by
        refine ⟨?_, ?_, ?_, ?_, ?_, ?_, ?_, ?_, ?_, ?_, ?_, ?_, ?_, ?_, ?_, ?_, ?_, ?_⟩ <;> (intro e_; rw [e_] at hc_; revert hc_; decide)
      refine lv_tableOut (tgt := 190) hx hb dX8_count_23 hc_ (by decide) ?_
      refine lv_bipush (v := (-2)) hx hb dX8_count_190 (by decide +kernel) ?_
      exact zr_si hx hb hr hlocks (by rw [mCount, if_neg c_9]; simp [hne_]) dX8_count_192
  · obtain ⟨j, rfl, hj1, hj2⟩ := z_ix (na := 10) (nb := 15) rfl rfl (by decide) (by decide) c_9
    refine lv_aload_n hx hb dX8_count_12 rfl (lv_at hl 0 rfl) ?_
    refine zm_get 0 (.ref (g 1)) hx hb hts (fun x h => List.mem_cons_of_mem _ (hU_X8 x h)) hown hE hP (by decide) rfl (hts _ (List.mem_cons_of_mem _ uM_5)) (fun _ h9 => h9) dX8_count_13 ?_
    refine lv_iload_n hx hb dX8_count_16 rfl (lv_at hl 1 rfl) ?_
    refine lv_bipush (v := 10) hx hb dX8_count_17 (by decide +kernel) ?_
    refine lv_isub hx hb dX8_count_19 ?_
    refine zt_i (z_sub (a := j) (b := 10) (by omega) (by first | rfl | omega)) ?_
    refine z_iald (k := j - 10) hx hb hE hP 1 (zm_c1 V g w pa be av sl sv pd cd st le ap pl wy) (by omega) (by decide) dX8_count_20 ?_
    exact zr_si hx hb hr hlocks (by rw [mCount, if_pos c_9, nI_clamp (by omega)]) dX8_count_21
set_option maxHeartbeats 4000000 in
set_option maxRecDepth 100000 in
theorem c_X8_joined (l : Launch) (V : zV) (g : Nat → Nat) (w pa be av sl sv pd cd : Nat → Int32) (st le ap pl wy : Int32) (n : Nat) (wr d mm : Int32) (hn : w 7 = nI n) (h30 : n ≤ 30) : Met l yX8_joined wsX8_joined (zR 3 0 0) (zPc V [.ref (g 0), .int wr, .int d, .int mm] (fun H => va_P V.1 vwCl (zmW V g w pa be av sl sv pd cd st le ap pl wy) H)) (vp_Si (fun r => r = (mJoined w n wr d mm))) 0 0 (fun _ => False) := by
  refine Met.ofW (cc := cX8_joined) (maxL := 5) (ret := (some .int)) (by decide) rfl ?_
  intro p e s m args below meth c s₁ B hml hv
  obtain ⟨rfl, hP, hE⟩ := hv
  have hx := B.exec
  have hb := B.bytes
  have hr := B.returns
  have hts := atoms_spec (ws := wsX8_joined) B.pre
  have hown : s.vm.findClass RX8 = some m.cls := findClass_of_methodNamed B.named
  have hlocks := B.notSynchronized
  have hl := lv_entry ([.ref (g 0), .int wr, .int d, .int mm]) (n := 5) (Nat.le_of_ble_eq_true rfl)
  rw [lg_entry_eq]
  generalize (lg_sl ([.ref (g 0), .int wr, .int d, .int mm]) ++ List.replicate (5 - (lg_sl ([.ref (g 0), .int wr, .int d, .int mm])).length) Slot.unset).toArray = ls at hl ⊢
  have hl : lv_has ls 5 [(0, .ref (g 0)), (1, .int wr), (2, .int d), (3, .int mm)] := hl
  refine lv_iload_n hx hb dX8_joined_0 rfl (lv_at hl 1 rfl) ?_
  refine lv_iload_n hx hb dX8_joined_1 rfl (lv_at hl 2 rfl) ?_
  refine lv_iload_n hx hb dX8_joined_2 rfl (lv_at hl 3 rfl) ?_
  refine zc_se (va_runS (As := [.int wr, .int d, .int mm]) (rest := []) ⟨hx, hb, hml, hown, hts⟩ (c_X8_isSlip l V wr d mm) (va_cwS 3 hts (zgS_ wsM_all uM_83 uM_86 uM_87 uM_21) rfl rfl rfl (by decide +kernel) ⟨Nat.le_of_ble_eq_true rfl, Nat.le_of_ble_eq_true rfl⟩) (zPreS (B := fun _ => True) trivial hE) rfl rfl hl.1 rfl (lv_room (Nat.le_of_ble_eq_true rfl)) dX8_joined_3 ⟨Nat.le_of_ble_eq_true rfl, Nat.le_of_ble_eq_true rfl⟩) ?_
  refine zbp_ne (P := mSlip wr d mm) (tgt := 12) hx hb dX8_joined_6 (by decide) (fun c_6 => ?_) (fun c_6 => ?_)
  · refine lv_aload_n hx hb dX8_joined_12 rfl (lv_at hl 0 rfl) ?_
    refine lv_iload_n hx hb dX8_joined_13 rfl (lv_at hl 1 rfl) ?_
    refine lv_iload_n hx hb dX8_joined_14 rfl (lv_at hl 2 rfl) ?_
    refine lv_iload_n hx hb dX8_joined_15 rfl (lv_at hl 3 rfl) ?_
    refine zc_se (va_runV (As := [.int wr, .int d, .int mm]) (rest := []) ⟨hx, hb, hml, hown, hts⟩ (c_X8_partner l V g w pa be av sl sv pd cd st le ap pl wy n wr d mm hn h30) (cwV 3 hts (zgV_ wsM_all uM_84 uM_88 uM_89 uM_90 uM_21) rfl rfl rfl (by decide +kernel) ⟨Nat.le_of_ble_eq_true rfl, Nat.le_of_ble_eq_true rfl⟩) (zPreV (B := fun H => va_P V.1 vwCl (zmW V g w pa be av sl sv pd cd st le ap pl wy) H) hP hE (va_recv hE.1 hP (ci := 8) (q0 := 0) (q := (RX8, TX8, 13)) rfl (zm_c0 V g w pa be av sl sv pd cd st le ap pl wy))) rfl rfl hl.1 rfl (lv_room (Nat.le_of_ble_eq_true rfl)) dX8_joined_16 ⟨Nat.le_of_ble_eq_true rfl, Nat.le_of_ble_eq_true rfl⟩) ?_
    rcases hq : mPart w n wr d mm with _ | k
    · refine zt_i (y := (-6)) (by first | rfl | exact congrArg zoI hq) ?_
      refine lv_istore (lv' := [(4, .int (-6)), (0, .ref (g 0)), (1, .int wr), (2, .int d), (3, .int mm)]) hx hb dX8_joined_19 hl (by decide) rfl (fun ls hl => ?_)
      refine lv_iload hx hb dX8_joined_21 (lv_at hl 0 rfl) ?_
      refine lv_bipush (v := (-6)) hx hb dX8_joined_23 (by decide +kernel) ?_
      refine lv_icmp_ne (tgt := 33) hx hb dX8_joined_25 (by decide) (fun c_25 => ?_) (fun c_25 => ?_)
      · exact absurd rfl c_25
      · refine lv_bipush (v := (-6)) hx hb dX8_joined_28 (by decide +kernel) ?_
        refine lv_goto (tgt := 40) hx hb dX8_joined_30 (by decide) ?_
        exact zr_si hx hb hr hlocks (by rw [mJoined, if_pos c_6, hq]) dX8_joined_40
    · refine zt_i (y := nI k) (by first | rfl | exact congrArg zoI hq) ?_
      have hkn : k < n := (zFirst_lt hq).1
      refine lv_istore (lv' := [(4, .int (nI k)), (0, .ref (g 0)), (1, .int wr), (2, .int d), (3, .int mm)]) hx hb dX8_joined_19 hl (by decide) rfl (fun ls hl => ?_)
      refine lv_iload hx hb dX8_joined_21 (lv_at hl 0 rfl) ?_
      refine lv_bipush (v := (-6)) hx hb dX8_joined_23 (by decide +kernel) ?_
      refine lv_icmp_ne (tgt := 33) hx hb dX8_joined_25 (by decide) (fun c_25 => ?_) (fun c_25 => ?_)
      · refine lv_aload_n hx hb dX8_joined_33 rfl (lv_at hl 1 rfl) ?_
        refine lv_iload hx hb dX8_joined_34 (lv_at hl 0 rfl) ?_
        refine lv_iconst (v := 0) hx hb dX8_joined_36 (by decide +kernel) ?_
        refine zc_se (va_runV (As := [.int (nI k), .int 0]) (rest := []) ⟨hx, hb, hml, hown, hts⟩ (c_X8_its l V g w pa be av sl sv pd cd st le ap pl wy k 0 (by omega)) (cwV 2 hts (zgV_ wsM_all uM_16 uM_18 uM_19 uM_20 uM_21) rfl rfl rfl (by decide +kernel) ⟨Nat.le_of_ble_eq_true rfl, Nat.le_of_ble_eq_true rfl⟩) (zPreV (B := fun H => va_P V.1 vwCl (zmW V g w pa be av sl sv pd cd st le ap pl wy) H) hP hE (va_recv hE.1 hP (ci := 8) (q0 := 0) (q := (RX8, TX8, 13)) rfl (zm_c0 V g w pa be av sl sv pd cd st le ap pl wy))) rfl rfl hl.1 rfl (lv_room (Nat.le_of_ble_eq_true rfl)) dX8_joined_37 ⟨Nat.le_of_ble_eq_true rfl, Nat.le_of_ble_eq_true rfl⟩) ?_
        exact zr_si hx hb hr hlocks (by rw [mJoined, if_pos c_6, hq]) dX8_joined_40
      · exact absurd c_25 (z_n6 (by omega))
  · refine lv_bipush (v := (-2)) hx hb dX8_joined_9 (by decide +kernel) ?_
    exact zr_si hx hb hr hlocks (by rw [mJoined, if_neg c_6]) dX8_joined_11
end
section
set_option maxHeartbeats 4000000 in
set_option maxRecDepth 100000 in
theorem c_X8_remember (l : Launch) (V : zV) (g : Nat → Nat) (w pa be av sl sv pd cd : Nat → Int32) (st le ap pl wy : Int32)  (hJ : zInj 9 g) : Met l yX8_remember wsX8_remember (zR 0 0 0) (zPc V [.ref (g 0)] (fun H => va_P V.1 vwCl (zmW V g w pa be av sl sv pd cd st le ap pl wy) H)) (zQv (fun H => va_P V.1 vwCl (zmW V g w pa w av sl sv pd cd st le ap pl wy) H) (zIn 9 g)) 0 0 (zIn 9 g) := by
  refine Met.ofW (cc := cX8_remember) (maxL := 2) (ret := none) (by decide) rfl ?_
  intro p e s m args below meth c s₁ B hml hv
  obtain ⟨rfl, hP, hE⟩ := hv
  have hx := B.exec
  have hb := B.bytes
  have hr := B.returns
  have hts := atoms_spec (ws := wsX8_remember) B.pre
  have hown : s.vm.findClass RX8 = some m.cls := findClass_of_methodNamed B.named
  have hlocks := B.notSynchronized
  have hl := lv_entry ([.ref (g 0)]) (n := 2) (Nat.le_of_ble_eq_true rfl)
  rw [lg_entry_eq]
  generalize (lg_sl ([.ref (g 0)]) ++ List.replicate (2 - (lg_sl ([.ref (g 0)])).length) Slot.unset).toArray = ls at hl ⊢
  have hl : lv_has ls 2 [(0, .ref (g 0))] := hl
  have hS : va_S (zIn 9 g) s.heap s.heap [] := va_S.rf
  refine lv_iconst (v := 0) hx hb dX8_remember_0 (by decide +kernel) ?_
  refine lv_istore_n (lv' := [(1, .int 0), (0, .ref (g 0))]) hx hb dX8_remember_1 rfl hl (by decide) rfl (fun ls hl => ?_)
  have L_2 : ∀ (n_ i : Nat) (f_ : Nat → Int32) (H : Heap) (locs : List Loc) (ls : Array Slot), i ≤ 258 → 258 + 1 ≤ i + n_ → (f_ = fun j => if j < i then w j else be j) → va_P V.1 vwCl (zmW V g w pa f_ av sl sv pd cd st le ap pl wy) H → va_S (zIn 9 g) s.heap H locs → lv_has ls 2 [(1, .int (nI i)), (0, .ref (g 0))] → W p l e (headSpec wsX8_remember (zR 0 0 0)).room s m (List.toArray [.ref (g 0)]) below meth c H locs 0 0 (MQ below (zQv (fun H => va_P V.1 vwCl (zmW V g w pa w av sl sv pd cd st le ap pl wy) H) (zIn 9 g)) (List.toArray [.ref (g 0)]) s 0 0 (zIn 9 g)) (F0 m 2 ls []) := by
    intro n_
    induction n_ with
    | zero => intro i f_ H locs ls hi_ hn_; exact absurd hn_ (by omega)
    | succ n_ ih =>
      intro i f_ H locs ls hi_ hn_ ef_ hP hS hl
      refine lv_iload_n hx hb dX8_remember_2 rfl (lv_at hl 0 rfl) ?_
      refine lv_sipush (v := 258) hx hb dX8_remember_3 (by decide +kernel) ?_
      refine zb_ge (x := i) (y := 258) (tgt := 27) hx hb dX8_remember_6 (by decide) (by omega) (by omega) (fun c_6 => ?_) (fun c_6 => ?_)
      · exact zr_v hx hb hr hlocks hS (zm_x3 (V := V) w (fun j hj => by rw [ef_]; exact if_pos (by omega)) hP) dX8_remember_27
      · refine lv_aload_n hx hb dX8_remember_9 rfl (lv_at hl 1 rfl) ?_
        refine zm_get 2 (.ref (g 3)) hx hb hts (fun x h => List.mem_cons_of_mem _ (hU_X8 x h)) hown hE hP (by decide) rfl (hts _ (List.mem_cons_of_mem _ uM_7)) (fun _ h9 => h9) dX8_remember_10 ?_
        refine lv_iload_n hx hb dX8_remember_13 rfl (lv_at hl 0 rfl) ?_
        refine lv_aload_n hx hb dX8_remember_14 rfl (lv_at hl 1 rfl) ?_
        refine zm_get 0 (.ref (g 1)) hx hb hts (fun x h => List.mem_cons_of_mem _ (hU_X8 x h)) hown hE hP (by decide) rfl (hts _ (List.mem_cons_of_mem _ uM_5)) (fun _ h9 => h9) dX8_remember_15 ?_
        refine lv_iload_n hx hb dX8_remember_18 rfl (lv_at hl 0 rfl) ?_
        refine z_iald (k := i) hx hb hE hP 1 (zm_c1 V g w pa f_ av sl sv pd cd st le ap pl wy) (by omega) (by decide) dX8_remember_19 ?_
        refine zm_a3 i (w i) hx hb hE hP hJ hS (by omega) dX8_remember_20 (fun H locs hP hS => ?_)
        obtain ⟨be_1, ebe_1⟩ : ∃ z, z = upd f_ i (w i) := ⟨_, rfl⟩
        rw [← ebe_1] at hP
        refine lv_iinc (v := nI (i + 1)) (lv' := [(1, .int (nI (i + 1))), (0, .ref (g 0))]) hx hb dX8_remember_21 hl (k := 0) rfl (z_inc1 i) (by decide) rfl (fun ls hl => ?_)
        refine lv_goto (tgt := 2) hx hb dX8_remember_24 (by decide) ?_
        have e_ : be_1 = fun j => if j < i + 1 then w j else be j := by
          rw [ebe_1, ef_]; funext j; simp only [upd]; split
          · rename_i hj_; subst hj_; rw [if_pos (by omega)]
          · split <;> (first | rw [if_pos (by omega)] | rw [if_neg (by omega)])
        exact ih (i + 1) be_1 H locs ls (by omega) (by omega) e_ hP hS (lv_sub hl [0, 1] rfl)
  exact L_2 (258 + 1) 0 be s.heap [] ls (by omega) (by omega) (by funext j; rw [if_neg (by omega)]) hP hS (lv_sub hl [0, 1] rfl)
set_option maxHeartbeats 4000000 in
set_option maxRecDepth 100000 in
theorem c_X8_layAside (l : Launch) (V : zV) (g : Nat → Nat) (w pa be av sl sv pd cd : Nat → Int32) (st le ap pl wy : Int32)  (hJ : zInj 9 g) : Met l yX8_layAside wsX8_layAside (zR 0 0 0) (zPc V [.ref (g 0)] (fun H => va_P V.1 vwCl (zmW V g w pa be av sl sv pd cd st le ap pl wy) H)) (zQv (fun H => va_P V.1 vwCl (zmW V g w pa be w sl sv pd cd st le ap pl wy) H) (zIn 9 g)) 0 0 (zIn 9 g) := by
  refine Met.ofW (cc := cX8_layAside) (maxL := 2) (ret := none) (by decide) rfl ?_
  intro p e s m args below meth c s₁ B hml hv
  obtain ⟨rfl, hP, hE⟩ := hv
  have hx := B.exec
  have hb := B.bytes
  have hr := B.returns
  have hts := atoms_spec (ws := wsX8_layAside) B.pre
  have hown : s.vm.findClass RX8 = some m.cls := findClass_of_methodNamed B.named
  have hlocks := B.notSynchronized
  have hl := lv_entry ([.ref (g 0)]) (n := 2) (Nat.le_of_ble_eq_true rfl)
  rw [lg_entry_eq]
  generalize (lg_sl ([.ref (g 0)]) ++ List.replicate (2 - (lg_sl ([.ref (g 0)])).length) Slot.unset).toArray = ls at hl ⊢
  have hl : lv_has ls 2 [(0, .ref (g 0))] := hl
  have hS : va_S (zIn 9 g) s.heap s.heap [] := va_S.rf
  refine lv_iconst (v := 0) hx hb dX8_layAside_0 (by decide +kernel) ?_
  refine lv_istore_n (lv' := [(1, .int 0), (0, .ref (g 0))]) hx hb dX8_layAside_1 rfl hl (by decide) rfl (fun ls hl => ?_)
  have L_2 : ∀ (n_ i : Nat) (f_ : Nat → Int32) (H : Heap) (locs : List Loc) (ls : Array Slot), i ≤ 258 → 258 + 1 ≤ i + n_ → (f_ = fun j => if j < i then w j else av j) → va_P V.1 vwCl (zmW V g w pa be f_ sl sv pd cd st le ap pl wy) H → va_S (zIn 9 g) s.heap H locs → lv_has ls 2 [(1, .int (nI i)), (0, .ref (g 0))] → W p l e (headSpec wsX8_layAside (zR 0 0 0)).room s m (List.toArray [.ref (g 0)]) below meth c H locs 0 0 (MQ below (zQv (fun H => va_P V.1 vwCl (zmW V g w pa be w sl sv pd cd st le ap pl wy) H) (zIn 9 g)) (List.toArray [.ref (g 0)]) s 0 0 (zIn 9 g)) (F0 m 2 ls []) := by
    intro n_
    induction n_ with
    | zero => intro i f_ H locs ls hi_ hn_; exact absurd hn_ (by omega)
    | succ n_ ih =>
      intro i f_ H locs ls hi_ hn_ ef_ hP hS hl
      refine lv_iload_n hx hb dX8_layAside_2 rfl (lv_at hl 0 rfl) ?_
      refine lv_sipush (v := 258) hx hb dX8_layAside_3 (by decide +kernel) ?_
      refine zb_ge (x := i) (y := 258) (tgt := 27) hx hb dX8_layAside_6 (by decide) (by omega) (by omega) (fun c_6 => ?_) (fun c_6 => ?_)
      · exact zr_v hx hb hr hlocks hS (zm_x4 (V := V) w (fun j hj => by rw [ef_]; exact if_pos (by omega)) hP) dX8_layAside_27
      · refine lv_aload_n hx hb dX8_layAside_9 rfl (lv_at hl 1 rfl) ?_
        refine zm_get 3 (.ref (g 4)) hx hb hts (fun x h => List.mem_cons_of_mem _ (hU_X8 x h)) hown hE hP (by decide) rfl (hts _ (List.mem_cons_of_mem _ uM_8)) (fun _ h9 => h9) dX8_layAside_10 ?_
        refine lv_iload_n hx hb dX8_layAside_13 rfl (lv_at hl 0 rfl) ?_
        refine lv_aload_n hx hb dX8_layAside_14 rfl (lv_at hl 1 rfl) ?_
        refine zm_get 0 (.ref (g 1)) hx hb hts (fun x h => List.mem_cons_of_mem _ (hU_X8 x h)) hown hE hP (by decide) rfl (hts _ (List.mem_cons_of_mem _ uM_5)) (fun _ h9 => h9) dX8_layAside_15 ?_
        refine lv_iload_n hx hb dX8_layAside_18 rfl (lv_at hl 0 rfl) ?_
        refine z_iald (k := i) hx hb hE hP 1 (zm_c1 V g w pa be f_ sl sv pd cd st le ap pl wy) (by omega) (by decide) dX8_layAside_19 ?_
        refine zm_a4 i (w i) hx hb hE hP hJ hS (by omega) dX8_layAside_20 (fun H locs hP hS => ?_)
        obtain ⟨av_1, eav_1⟩ : ∃ z, z = upd f_ i (w i) := ⟨_, rfl⟩
        rw [← eav_1] at hP
        refine lv_iinc (v := nI (i + 1)) (lv' := [(1, .int (nI (i + 1))), (0, .ref (g 0))]) hx hb dX8_layAside_21 hl (k := 0) rfl (z_inc1 i) (by decide) rfl (fun ls hl => ?_)
        refine lv_goto (tgt := 2) hx hb dX8_layAside_24 (by decide) ?_
        have e_ : av_1 = fun j => if j < i + 1 then w j else av j := by
          rw [eav_1, ef_]; funext j; simp only [upd]; split
          · rename_i hj_; subst hj_; rw [if_pos (by omega)]
          · split <;> (first | rw [if_pos (by omega)] | rw [if_neg (by omega)])
        exact ih (i + 1) av_1 H locs ls (by omega) (by omega) e_ hP hS (lv_sub hl [0, 1] rfl)
  exact L_2 (258 + 1) 0 av s.heap [] ls (by omega) (by omega) (by funext j; rw [if_neg (by omega)]) hP hS (lv_sub hl [0, 1] rfl)
set_option maxHeartbeats 4000000 in
set_option maxRecDepth 100000 in
theorem c_X8_putBack (l : Launch) (V : zV) (g : Nat → Nat) (w pa be av sl sv pd cd : Nat → Int32) (st le ap pl wy : Int32)  (hJ : zInj 9 g) : Met l yX8_putBack wsX8_putBack (zR 0 0 0) (zPc V [.ref (g 0)] (fun H => va_P V.1 vwCl (zmW V g w pa be av sl sv pd cd st le ap pl wy) H)) (zQv (fun H => va_P V.1 vwCl (zmW V g av pa be av sl sv pd cd st le ap pl wy) H) (zIn 9 g)) 0 0 (zIn 9 g) := by
  refine Met.ofW (cc := cX8_putBack) (maxL := 2) (ret := none) (by decide) rfl ?_
  intro p e s m args below meth c s₁ B hml hv
  obtain ⟨rfl, hP, hE⟩ := hv
  have hx := B.exec
  have hb := B.bytes
  have hr := B.returns
  have hts := atoms_spec (ws := wsX8_putBack) B.pre
  have hown : s.vm.findClass RX8 = some m.cls := findClass_of_methodNamed B.named
  have hlocks := B.notSynchronized
  have hl := lv_entry ([.ref (g 0)]) (n := 2) (Nat.le_of_ble_eq_true rfl)
  rw [lg_entry_eq]
  generalize (lg_sl ([.ref (g 0)]) ++ List.replicate (2 - (lg_sl ([.ref (g 0)])).length) Slot.unset).toArray = ls at hl ⊢
  have hl : lv_has ls 2 [(0, .ref (g 0))] := hl
  have hS : va_S (zIn 9 g) s.heap s.heap [] := va_S.rf
  refine lv_iconst (v := 0) hx hb dX8_putBack_0 (by decide +kernel) ?_
  refine lv_istore_n (lv' := [(1, .int 0), (0, .ref (g 0))]) hx hb dX8_putBack_1 rfl hl (by decide) rfl (fun ls hl => ?_)
  have L_2 : ∀ (n_ i : Nat) (f_ : Nat → Int32) (H : Heap) (locs : List Loc) (ls : Array Slot), i ≤ 258 → 258 + 1 ≤ i + n_ → (f_ = fun j => if j < i then av j else w j) → va_P V.1 vwCl (zmW V g f_ pa be av sl sv pd cd st le ap pl wy) H → va_S (zIn 9 g) s.heap H locs → lv_has ls 2 [(1, .int (nI i)), (0, .ref (g 0))] → W p l e (headSpec wsX8_putBack (zR 0 0 0)).room s m (List.toArray [.ref (g 0)]) below meth c H locs 0 0 (MQ below (zQv (fun H => va_P V.1 vwCl (zmW V g av pa be av sl sv pd cd st le ap pl wy) H) (zIn 9 g)) (List.toArray [.ref (g 0)]) s 0 0 (zIn 9 g)) (F0 m 2 ls []) := by
    intro n_
    induction n_ with
    | zero => intro i f_ H locs ls hi_ hn_; exact absurd hn_ (by omega)
    | succ n_ ih =>
      intro i f_ H locs ls hi_ hn_ ef_ hP hS hl
      refine lv_iload_n hx hb dX8_putBack_2 rfl (lv_at hl 0 rfl) ?_
      refine lv_sipush (v := 258) hx hb dX8_putBack_3 (by decide +kernel) ?_
      refine zb_ge (x := i) (y := 258) (tgt := 27) hx hb dX8_putBack_6 (by decide) (by omega) (by omega) (fun c_6 => ?_) (fun c_6 => ?_)
      · exact zr_v hx hb hr hlocks hS (zm_x1 (V := V) av (fun j hj => by rw [ef_]; exact if_pos (by omega)) hP) dX8_putBack_27
      · refine lv_aload_n hx hb dX8_putBack_9 rfl (lv_at hl 1 rfl) ?_
        refine zm_get 0 (.ref (g 1)) hx hb hts (fun x h => List.mem_cons_of_mem _ (hU_X8 x h)) hown hE hP (by decide) rfl (hts _ (List.mem_cons_of_mem _ uM_5)) (fun _ h9 => h9) dX8_putBack_10 ?_
        refine lv_iload_n hx hb dX8_putBack_13 rfl (lv_at hl 0 rfl) ?_
        refine lv_aload_n hx hb dX8_putBack_14 rfl (lv_at hl 1 rfl) ?_
        refine zm_get 3 (.ref (g 4)) hx hb hts (fun x h => List.mem_cons_of_mem _ (hU_X8 x h)) hown hE hP (by decide) rfl (hts _ (List.mem_cons_of_mem _ uM_8)) (fun _ h9 => h9) dX8_putBack_15 ?_
        refine lv_iload_n hx hb dX8_putBack_18 rfl (lv_at hl 0 rfl) ?_
        refine z_iald (k := i) hx hb hE hP 4 (zm_c4 V g f_ pa be av sl sv pd cd st le ap pl wy) (by omega) (by decide) dX8_putBack_19 ?_
        refine zm_a1 i (av i) hx hb hE hP hJ hS (by omega) dX8_putBack_20 (fun H locs hP hS => ?_)
        obtain ⟨w_1, ew_1⟩ : ∃ z, z = upd f_ i (av i) := ⟨_, rfl⟩
        rw [← ew_1] at hP
        refine lv_iinc (v := nI (i + 1)) (lv' := [(1, .int (nI (i + 1))), (0, .ref (g 0))]) hx hb dX8_putBack_21 hl (k := 0) rfl (z_inc1 i) (by decide) rfl (fun ls hl => ?_)
        refine lv_goto (tgt := 2) hx hb dX8_putBack_24 (by decide) ?_
        have e_ : w_1 = fun j => if j < i + 1 then av j else w j := by
          rw [ew_1, ef_]; funext j; simp only [upd]; split
          · rename_i hj_; subst hj_; rw [if_pos (by omega)]
          · split <;> (first | rw [if_pos (by omega)] | rw [if_neg (by omega)])
        exact ih (i + 1) w_1 H locs ls (by omega) (by omega) e_ hP hS (lv_sub hl [0, 1] rfl)
  exact L_2 (258 + 1) 0 w s.heap [] ls (by omega) (by omega) (by funext j; rw [if_neg (by omega)]) hP hS (lv_sub hl [0, 1] rfl)
theorem z_dec1 {a b : Nat} (h : a = b + 1) : nI a + Int32.ofInt (-1) = nI b := by rw [h]; exact pk_m1 b
def mRK (k : Nat) (t : Int32) : Nat := if t < 0 then k else if k = 6 then 6 else k + 1
def mRP (pa be : Nat → Int32) (k : Nat) (t : Int32) : Nat → Int32 := if t < 0 then pa else fun j => if 258 * (if k = 6 then 5 else k) ≤ j ∧ j < 258 * (if k = 6 then 5 else k) + 258 then be (j - 258 * (if k = 6 then 5 else k)) else if k = 6 ∧ j < 1290 then pa (258 + j) else pa j
def mSI (x : Int32) : Prop := 0 ≤ x ∧ x ≤ 1
def mSaveSl (w sl : Nat → Int32) (x : Int32) : Nat → Int32 := if 0 ≤ x ∧ x ≤ 1 then fun j => if 258 * x.toNatClampNeg ≤ j ∧ j < 258 * x.toNatClampNeg + 258 then w (j - 258 * x.toNatClampNeg) else sl j else sl
def mSaveSv (sv : Nat → Int32) (x : Int32) : Nat → Int32 := if 0 ≤ x ∧ x ≤ 1 then upd sv x.toNatClampNeg 1 else sv
def mDrop (w : Nat → Int32) (n k : Nat) : Nat → Int32 := fun j => if 78 + 6 * (n - 1) ≤ j ∧ j < 78 + 6 * (n - 1) + 6 then 0 else if 78 + 6 * k ≤ j ∧ j < 78 + 6 * (n - 1) then w (j + 6) else if j = 7 then nI (n - 1) else w j
def mShift (w : Nat → Int32) : Nat → Int32 := fun j => if 20 < j ∧ j ≤ 77 then w (j - 3) else w j
def mNote (w : Nat → Int32) (a b c : Int32) : Nat → Int32 := upd (upd (upd (upd (mShift w) 18 a) 19 b) 20 c) 17 (upd (upd (upd (mShift w) 18 a) 19 b) 20 c 17 + (if upd (upd (upd (mShift w) 18 a) 19 b) 20 c 17 < 20 then 1 else 0))
set_option maxHeartbeats 4000000 in
set_option maxRecDepth 100000 in
theorem c_X8_record (l : Launch) (V : zV) (g : Nat → Nat) (w pa be av sl sv pd cd : Nat → Int32) (st le ap pl wy : Int32) (k : Nat) (t : Int32) (hJ : zInj 9 g) (hst : st = nI k) (hk6 : k ≤ 6) : Met l yX8_record wsX8_record (zR 0 0 0) (zPc V [.ref (g 0), .int t] (fun H => va_P V.1 vwCl (zmW V g w pa be av sl sv pd cd st le ap pl wy) H)) (zQi (fun r H => r = (t) ∧ va_P V.1 vwCl (zmW V g w (mRP pa be k t) be av sl sv pd cd (nI (mRK k t)) le ap pl wy) H) (zIn 9 g)) 0 0 (zIn 9 g) := by
  refine Met.ofW (cc := cX8_record) (maxL := 3) (ret := (some .int)) (by decide) rfl ?_
  intro p e s m args below meth c s₁ B hml hv
  obtain ⟨rfl, hP, hE⟩ := hv
  have hx := B.exec
  have hb := B.bytes
  have hr := B.returns
  have hts := atoms_spec (ws := wsX8_record) B.pre
  have hown : s.vm.findClass RX8 = some m.cls := findClass_of_methodNamed B.named
  have hlocks := B.notSynchronized
  have hl := lv_entry ([.ref (g 0), .int t]) (n := 3) (Nat.le_of_ble_eq_true rfl)
  rw [lg_entry_eq]
  generalize (lg_sl ([.ref (g 0), .int t]) ++ List.replicate (3 - (lg_sl ([.ref (g 0), .int t])).length) Slot.unset).toArray = ls at hl ⊢
  have hl : lv_has ls 3 [(0, .ref (g 0)), (1, .int t)] := hl
  have hS : va_S (zIn 9 g) s.heap s.heap [] := va_S.rf
  subst hst
  refine lv_iload_n hx hb dX8_record_0 rfl (lv_at hl 1 rfl) ?_
  refine lv_if_ge (tgt := 6) hx hb dX8_record_1 (by decide) (fun c_1 => ?_) (fun c_1 => ?_)
  · have J_56 : ∀ (q : Nat) (f_ : Nat → Int32) (H : Heap) (locs : List Loc) (ls : Array Slot), True → (q = if k = 6 then 5 else k) → (q ≤ 5) → (f_ = fun j => if k = 6 ∧ j < 1290 then pa (258 + j) else pa j) → va_P V.1 vwCl (zmW V g w f_ be av sl sv pd cd (nI q) le ap pl wy) H → va_S (zIn 9 g) s.heap H locs → lv_has ls 3 [(0, .ref (g 0)), (1, .int t)] → W p l e (headSpec wsX8_record (zR 0 0 0)).room s m (List.toArray [.ref (g 0), .int t]) below meth c H locs 0 0 (MQ below (zQi (fun r H => r = (t) ∧ va_P V.1 vwCl (zmW V g w (mRP pa be k t) be av sl sv pd cd (nI (mRK k t)) le ap pl wy) H) (zIn 9 g)) (List.toArray [.ref (g 0), .int t]) s 0 0 (zIn 9 g)) (F0 m 56 ls []) := by
      intro q f_ H locs ls _ hq hq5 ef_ hP hS hl
      refine lv_iconst (v := 0) hx hb dX8_record_56 (by decide +kernel) ?_
      refine lv_istore_n (lv' := [(2, .int 0), (0, .ref (g 0)), (1, .int t)]) hx hb dX8_record_57 rfl hl (by decide) rfl (fun ls hl => ?_)
      have L_58 : ∀ (n_ i : Nat) (f2_ : Nat → Int32) (H : Heap) (locs : List Loc) (ls : Array Slot), i ≤ 258 → 258 + 1 ≤ i + n_ → (f2_ = fun j => if 258 * q ≤ j ∧ j < 258 * q + i then be (j - 258 * q) else f_ j) → va_P V.1 vwCl (zmW V g w f2_ be av sl sv pd cd (nI q) le ap pl wy) H → va_S (zIn 9 g) s.heap H locs → lv_has ls 3 [(2, .int (nI i)), (0, .ref (g 0)), (1, .int t)] → W p l e (headSpec wsX8_record (zR 0 0 0)).room s m (List.toArray [.ref (g 0), .int t]) below meth c H locs 0 0 (MQ below (zQi (fun r H => r = (t) ∧ va_P V.1 vwCl (zmW V g w (mRP pa be k t) be av sl sv pd cd (nI (mRK k t)) le ap pl wy) H) (zIn 9 g)) (List.toArray [.ref (g 0), .int t]) s 0 0 (zIn 9 g)) (F0 m 58 ls []) := by
        intro n_
        induction n_ with
        | zero => intro i f2_ H locs ls hi_ hn_; exact absurd hn_ (by omega)
        | succ n_ ih =>
          intro i f2_ H locs ls hi_ hn_ ef2_ hP hS hl
          refine lv_iload_n hx hb dX8_record_58 rfl (lv_at hl 0 rfl) ?_
          refine lv_sipush (v := 258) hx hb dX8_record_59 (by decide +kernel) ?_
          refine zb_ge (x := i) (y := 258) (tgt := 92) hx hb dX8_record_62 (by decide) (by omega) (by omega) (fun c_62 => ?_) (fun c_62 => ?_)
          · refine lv_aload_n hx hb dX8_record_92 rfl (lv_at hl 1 rfl) ?_
            refine lv_dup hx hb dX8_record_93 rfl ?_
            refine zm_get 6 (.int (nI q)) hx hb hts (fun x h => List.mem_cons_of_mem _ (hU_X8 x h)) hown hE hP (by decide) rfl (hts _ (List.mem_cons_of_mem _ uM_26)) (fun _ h9 => h9) dX8_record_94 ?_
            refine lv_iconst (v := 1) hx hb dX8_record_97 (by decide +kernel) ?_
            refine lv_iadd hx hb dX8_record_98 ?_
            refine zt_i (z_add (a := q) (b := 1) (by first | rfl | omega)) ?_
            refine zm_put (st' := nI (q + 1)) (le' := le) (ap' := ap) (pl' := pl) (wy' := wy) 6 (nI (q + 1)) hx hb hts (fun x h => List.mem_cons_of_mem _ (hU_X8 x h)) hown hE hP hJ hS (by decide) rfl rfl (by decide +kernel) (hts _ (List.mem_cons_of_mem _ uM_26)) (fun _ h9 => h9) dX8_record_99 (fun H locs hP hS => ?_)
            refine lv_iload_n hx hb dX8_record_102 rfl (lv_at hl 2 rfl) ?_
            exact zr_i hx hb hr hlocks hS (⟨rfl, by rw [show mRP pa be k t = f2_ by rw [mRP, if_neg (z_le' c_1), ← hq, ef2_, ef_, show i = 258 by omega], show mRK k t = q + 1 by rw [mRK, if_neg (z_le' c_1), hq]; split <;> omega]; exact hP⟩) dX8_record_103
          · refine lv_aload_n hx hb dX8_record_65 rfl (lv_at hl 1 rfl) ?_
            refine zm_get 1 (.ref (g 2)) hx hb hts (fun x h => List.mem_cons_of_mem _ (hU_X8 x h)) hown hE hP (by decide) rfl (hts _ (List.mem_cons_of_mem _ uM_6)) (fun _ h9 => h9) dX8_record_66 ?_
            refine lv_sipush (v := 258) hx hb dX8_record_69 (by decide +kernel) ?_
            refine lv_aload_n hx hb dX8_record_72 rfl (lv_at hl 1 rfl) ?_
            refine zm_get 6 (.int (nI q)) hx hb hts (fun x h => List.mem_cons_of_mem _ (hU_X8 x h)) hown hE hP (by decide) rfl (hts _ (List.mem_cons_of_mem _ uM_26)) (fun _ h9 => h9) dX8_record_73 ?_
            refine lv_imul hx hb dX8_record_76 ?_
            refine zt_i (z_mul (a := 258) (b := q) (by first | rfl | omega)) ?_
            refine lv_iload_n hx hb dX8_record_77 rfl (lv_at hl 0 rfl) ?_
            refine lv_iadd hx hb dX8_record_78 ?_
            refine zt_i (z_add (a := 258 * q) (b := i) (by first | rfl | omega)) ?_
            refine lv_aload_n hx hb dX8_record_79 rfl (lv_at hl 1 rfl) ?_
            refine zm_get 2 (.ref (g 3)) hx hb hts (fun x h => List.mem_cons_of_mem _ (hU_X8 x h)) hown hE hP (by decide) rfl (hts _ (List.mem_cons_of_mem _ uM_7)) (fun _ h9 => h9) dX8_record_80 ?_
            refine lv_iload_n hx hb dX8_record_83 rfl (lv_at hl 0 rfl) ?_
            refine z_iald (k := i) hx hb hE hP 3 (zm_c3 V g w f2_ be av sl sv pd cd (nI q) le ap pl wy) (by omega) (by decide) dX8_record_84 ?_
            refine zm_a2 (258 * q + i) (be i) hx hb hE hP hJ hS (by omega) dX8_record_85 (fun H locs hP hS => ?_)
            obtain ⟨pa_1, epa_1⟩ : ∃ z, z = upd f2_ (258 * q + i) (be i) := ⟨_, rfl⟩
            rw [← epa_1] at hP
            refine lv_iinc (v := nI (i + 1)) (lv' := [(2, .int (nI (i + 1))), (0, .ref (g 0)), (1, .int t)]) hx hb dX8_record_86 hl (k := 0) rfl (z_inc1 i) (by decide) rfl (fun ls hl => ?_)
            refine lv_goto (tgt := 58) hx hb dX8_record_89 (by decide) ?_
            have e_ : pa_1 = fun j => if 258 * q ≤ j ∧ j < 258 * q + (i + 1) then be (j - 258 * q) else f_ j := by
              rw [epa_1, ef2_]; funext j; simp only [upd]; by_cases h1 : j = 258 * q + i
              · subst h1; rw [if_pos rfl, if_pos (by omega), show 258 * q + i - 258 * q = i by omega]
              · rw [if_neg h1]; by_cases h2 : 258 * q ≤ j ∧ j < 258 * q + i
                · rw [if_pos h2, if_pos (by omega)]
                · rw [if_neg h2, if_neg (by omega)]
            exact ih (i + 1) pa_1 H locs ls (by omega) (by omega) e_ hP hS (lv_sub hl [0, 1, 2] rfl)
      exact L_58 (258 + 1) 0 f_ H locs ls (by omega) (by omega) (by funext j; rw [if_neg (by omega)]) hP hS (lv_sub hl [0, 1, 2] rfl)
    refine lv_aload_n hx hb dX8_record_6 rfl (lv_at hl 0 rfl) ?_
    refine zm_get 6 (.int (nI k)) hx hb hts (fun x h => List.mem_cons_of_mem _ (hU_X8 x h)) hown hE hP (by decide) rfl (hts _ (List.mem_cons_of_mem _ uM_26)) (fun _ h9 => h9) dX8_record_7 ?_
    refine lv_bipush (v := 6) hx hb dX8_record_10 (by decide +kernel) ?_
    refine zb_ne (x := k) (y := 6) (tgt := 56) hx hb dX8_record_12 (by decide) (by omega) (by omega) (fun c_12 => ?_) (fun c_12 => ?_)
    · exact J_56 k pa s.heap [] ls trivial (by rw [if_neg c_12]) (by omega) (by funext j; rw [if_neg (fun h => c_12 h.1)]) hP hS (lv_sub hl [0, 1] rfl)
    · refine lv_iconst (v := 0) hx hb dX8_record_15 (by decide +kernel) ?_
      refine lv_istore_n (lv' := [(2, .int 0), (0, .ref (g 0)), (1, .int t)]) hx hb dX8_record_16 rfl hl (by decide) rfl (fun ls hl => ?_)
      have L_17 : ∀ (n_ i : Nat) (f_ : Nat → Int32) (H : Heap) (locs : List Loc) (ls : Array Slot), i ≤ 1290 → 1290 + 1 ≤ i + n_ → (f_ = fun j => if j < i then pa (258 + j) else pa j) → va_P V.1 vwCl (zmW V g w f_ be av sl sv pd cd (nI k) le ap pl wy) H → va_S (zIn 9 g) s.heap H locs → lv_has ls 3 [(2, .int (nI i)), (0, .ref (g 0)), (1, .int t)] → W p l e (headSpec wsX8_record (zR 0 0 0)).room s m (List.toArray [.ref (g 0), .int t]) below meth c H locs 0 0 (MQ below (zQi (fun r H => r = (t) ∧ va_P V.1 vwCl (zmW V g w (mRP pa be k t) be av sl sv pd cd (nI (mRK k t)) le ap pl wy) H) (zIn 9 g)) (List.toArray [.ref (g 0), .int t]) s 0 0 (zIn 9 g)) (F0 m 17 ls []) := by
        intro n_
        induction n_ with
        | zero => intro i f_ H locs ls hi_ hn_; exact absurd hn_ (by omega)
        | succ n_ ih =>
          intro i f_ H locs ls hi_ hn_ ef_ hP hS hl
          refine lv_iload_n hx hb dX8_record_17 rfl (lv_at hl 0 rfl) ?_
          refine lv_sipush (v := 1290) hx hb dX8_record_18 (by decide +kernel) ?_
          refine zb_ge (x := i) (y := 1290) (tgt := 46) hx hb dX8_record_21 (by decide) (by omega) (by omega) (fun c_21 => ?_) (fun c_21 => ?_)
          · refine lv_aload_n hx hb dX8_record_46 rfl (lv_at hl 1 rfl) ?_
            refine lv_dup hx hb dX8_record_47 rfl ?_
            refine zm_get 6 (.int (nI k)) hx hb hts (fun x h => List.mem_cons_of_mem _ (hU_X8 x h)) hown hE hP (by decide) rfl (hts _ (List.mem_cons_of_mem _ uM_26)) (fun _ h9 => h9) dX8_record_48 ?_
            refine lv_iconst (v := 1) hx hb dX8_record_51 (by decide +kernel) ?_
            refine lv_isub hx hb dX8_record_52 ?_
            refine zt_i (z_sub (a := k) (b := 1) (by omega) (by first | rfl | omega)) ?_
            refine zm_put (st' := nI (k - 1)) (le' := le) (ap' := ap) (pl' := pl) (wy' := wy) 6 (nI (k - 1)) hx hb hts (fun x h => List.mem_cons_of_mem _ (hU_X8 x h)) hown hE hP hJ hS (by decide) rfl rfl (by decide +kernel) (hts _ (List.mem_cons_of_mem _ uM_26)) (fun _ h9 => h9) dX8_record_53 (fun H locs hP hS => ?_)
            have e1_ : f_ = fun j => if k = 6 ∧ j < 1290 then pa (258 + j) else pa j := by
              rw [ef_]; funext j; by_cases h1 : j < i
              · rw [if_pos h1, if_pos ⟨c_12, by omega⟩]
              · rw [if_neg h1, if_neg (by omega)]
            exact J_56 (k - 1) f_ H locs ls trivial (by rw [if_pos c_12]; omega) (by omega) e1_ hP hS (lv_sub hl [1, 2] rfl)
          · refine lv_aload_n hx hb dX8_record_24 rfl (lv_at hl 1 rfl) ?_
            refine zm_get 1 (.ref (g 2)) hx hb hts (fun x h => List.mem_cons_of_mem _ (hU_X8 x h)) hown hE hP (by decide) rfl (hts _ (List.mem_cons_of_mem _ uM_6)) (fun _ h9 => h9) dX8_record_25 ?_
            refine lv_iload_n hx hb dX8_record_28 rfl (lv_at hl 0 rfl) ?_
            refine lv_aload_n hx hb dX8_record_29 rfl (lv_at hl 1 rfl) ?_
            refine zm_get 1 (.ref (g 2)) hx hb hts (fun x h => List.mem_cons_of_mem _ (hU_X8 x h)) hown hE hP (by decide) rfl (hts _ (List.mem_cons_of_mem _ uM_6)) (fun _ h9 => h9) dX8_record_30 ?_
            refine lv_sipush (v := 258) hx hb dX8_record_33 (by decide +kernel) ?_
            refine lv_iload_n hx hb dX8_record_36 rfl (lv_at hl 0 rfl) ?_
            refine lv_iadd hx hb dX8_record_37 ?_
            refine zt_i (z_add (a := 258) (b := i) (by first | rfl | omega)) ?_
            refine z_iald (k := 258 + i) hx hb hE hP 2 (zm_c2 V g w f_ be av sl sv pd cd (nI k) le ap pl wy) (by omega) (by decide) dX8_record_38 ?_
            refine zm_a2 i (f_ (258 + i)) hx hb hE hP hJ hS (by omega) dX8_record_39 (fun H locs hP hS => ?_)
            obtain ⟨pa_2, epa_2⟩ : ∃ z, z = upd f_ i (f_ (258 + i)) := ⟨_, rfl⟩
            rw [← epa_2] at hP
            refine lv_iinc (v := nI (i + 1)) (lv' := [(2, .int (nI (i + 1))), (0, .ref (g 0)), (1, .int t)]) hx hb dX8_record_40 hl (k := 0) rfl (z_inc1 i) (by decide) rfl (fun ls hl => ?_)
            refine lv_goto (tgt := 17) hx hb dX8_record_43 (by decide) ?_
            have e_ : pa_2 = fun j => if j < i + 1 then pa (258 + j) else pa j := by
              rw [epa_2, ef_]; funext j; simp only [upd]; by_cases h1 : j = i
              · subst h1; rw [if_pos rfl, if_neg (by omega), if_pos (by omega)]
              · rw [if_neg h1]; by_cases h2 : j < i
                · rw [if_pos h2, if_pos (by omega)]
                · rw [if_neg h2, if_neg (by omega)]
            exact ih (i + 1) pa_2 H locs ls (by omega) (by omega) e_ hP hS (lv_sub hl [0, 1, 2] rfl)
      exact L_17 (1290 + 1) 0 pa s.heap [] ls (by omega) (by omega) (by funext j; rw [if_neg (by omega)]) hP hS (lv_sub hl [0, 1, 2] rfl)
  · refine lv_iload_n hx hb dX8_record_4 rfl (lv_at hl 1 rfl) ?_
    exact zr_i hx hb hr hlocks hS (⟨rfl, by rw [mRP, if_pos (z_nle c_1), mRK, if_pos (z_nle c_1)]; exact hP⟩) dX8_record_5
set_option maxHeartbeats 4000000 in
set_option maxRecDepth 100000 in
theorem c_X8_undo (l : Launch) (V : zV) (g : Nat → Nat) (w pa be av sl sv pd cd : Nat → Int32) (st le ap pl wy : Int32) (k : Nat) (hJ : zInj 9 g) (hst : st = nI k) (hk6 : k ≤ 6) : Met l yX8_undo wsX8_undo (zR 0 0 0) (zPc V [.ref (g 0)] (fun H => va_P V.1 vwCl (zmW V g w pa be av sl sv pd cd st le ap pl wy) H)) (zQi (fun r H => r = (if k = 0 then -5 else nI (k - 1)) ∧ va_P V.1 vwCl (zmW V g (if k = 0 then w else fun j => pa (258 * (k - 1) + j)) pa be av sl sv pd cd (nI (k - 1)) le ap pl wy) H) (zIn 9 g)) 0 0 (zIn 9 g) := by
  refine Met.ofW (cc := cX8_undo) (maxL := 2) (ret := (some .int)) (by decide) rfl ?_
  intro p e s m args below meth c s₁ B hml hv
  obtain ⟨rfl, hP, hE⟩ := hv
  have hx := B.exec
  have hb := B.bytes
  have hr := B.returns
  have hts := atoms_spec (ws := wsX8_undo) B.pre
  have hown : s.vm.findClass RX8 = some m.cls := findClass_of_methodNamed B.named
  have hlocks := B.notSynchronized
  have hl := lv_entry ([.ref (g 0)]) (n := 2) (Nat.le_of_ble_eq_true rfl)
  rw [lg_entry_eq]
  generalize (lg_sl ([.ref (g 0)]) ++ List.replicate (2 - (lg_sl ([.ref (g 0)])).length) Slot.unset).toArray = ls at hl ⊢
  have hl : lv_has ls 2 [(0, .ref (g 0))] := hl
  have hS : va_S (zIn 9 g) s.heap s.heap [] := va_S.rf
  subst hst
  refine lv_aload_n hx hb dX8_undo_0 rfl (lv_at hl 0 rfl) ?_
  refine zm_get 6 (.int (nI k)) hx hb hts (fun x h => List.mem_cons_of_mem _ (hU_X8 x h)) hown hE hP (by decide) rfl (hts _ (List.mem_cons_of_mem _ uM_26)) (fun _ h9 => h9) dX8_undo_1 ?_
  refine zb0_ne (x := k) (tgt := 10) hx hb dX8_undo_4 (by decide) (by omega) (fun c_4 => ?_) (fun c_4 => ?_)
  · refine lv_aload_n hx hb dX8_undo_10 rfl (lv_at hl 0 rfl) ?_
    refine lv_dup hx hb dX8_undo_11 rfl ?_
    refine zm_get 6 (.int (nI k)) hx hb hts (fun x h => List.mem_cons_of_mem _ (hU_X8 x h)) hown hE hP (by decide) rfl (hts _ (List.mem_cons_of_mem _ uM_26)) (fun _ h9 => h9) dX8_undo_12 ?_
    refine lv_iconst (v := 1) hx hb dX8_undo_15 (by decide +kernel) ?_
    refine lv_isub hx hb dX8_undo_16 ?_
    refine zt_i (z_sub (a := k) (b := 1) (by omega) (by first | rfl | omega)) ?_
    refine zm_put (st' := nI (k - 1)) (le' := le) (ap' := ap) (pl' := pl) (wy' := wy) 6 (nI (k - 1)) hx hb hts (fun x h => List.mem_cons_of_mem _ (hU_X8 x h)) hown hE hP hJ hS (by decide) rfl rfl (by decide +kernel) (hts _ (List.mem_cons_of_mem _ uM_26)) (fun _ h9 => h9) dX8_undo_17 (fun H locs hP hS => ?_)
    refine lv_iconst (v := 0) hx hb dX8_undo_20 (by decide +kernel) ?_
    refine lv_istore_n (lv' := [(1, .int 0), (0, .ref (g 0))]) hx hb dX8_undo_21 rfl hl (by decide) rfl (fun ls hl => ?_)
    have L_22 : ∀ (n_ i : Nat) (f_ : Nat → Int32) (H : Heap) (locs : List Loc) (ls : Array Slot), i ≤ 258 → 258 + 1 ≤ i + n_ → (f_ = fun j => if j < i then pa (258 * (k - 1) + j) else w j) → va_P V.1 vwCl (zmW V g f_ pa be av sl sv pd cd (nI (k - 1)) le ap pl wy) H → va_S (zIn 9 g) s.heap H locs → lv_has ls 2 [(1, .int (nI i)), (0, .ref (g 0))] → W p l e (headSpec wsX8_undo (zR 0 0 0)).room s m (List.toArray [.ref (g 0)]) below meth c H locs 0 0 (MQ below (zQi (fun r H => r = (if k = 0 then -5 else nI (k - 1)) ∧ va_P V.1 vwCl (zmW V g (if k = 0 then w else fun j => pa (258 * (k - 1) + j)) pa be av sl sv pd cd (nI (k - 1)) le ap pl wy) H) (zIn 9 g)) (List.toArray [.ref (g 0)]) s 0 0 (zIn 9 g)) (F0 m 22 ls []) := by
      intro n_
      induction n_ with
      | zero => intro i f_ H locs ls hi_ hn_; exact absurd hn_ (by omega)
      | succ n_ ih =>
        intro i f_ H locs ls hi_ hn_ ef_ hP hS hl
        refine lv_iload_n hx hb dX8_undo_22 rfl (lv_at hl 0 rfl) ?_
        refine lv_sipush (v := 258) hx hb dX8_undo_23 (by decide +kernel) ?_
        refine zb_ge (x := i) (y := 258) (tgt := 56) hx hb dX8_undo_26 (by decide) (by omega) (by omega) (fun c_26 => ?_) (fun c_26 => ?_)
        · refine lv_aload_n hx hb dX8_undo_56 rfl (lv_at hl 1 rfl) ?_
          refine zm_get 6 (.int (nI (k - 1))) hx hb hts (fun x h => List.mem_cons_of_mem _ (hU_X8 x h)) hown hE hP (by decide) rfl (hts _ (List.mem_cons_of_mem _ uM_26)) (fun _ h9 => h9) dX8_undo_57 ?_
          exact zr_i hx hb hr hlocks hS (⟨(if_neg c_4).symm, by rw [if_neg c_4]; exact zm_x1 (V := V) (fun j => pa (258 * (k - 1) + j)) (fun j hj => by rw [ef_]; exact if_pos (by omega)) hP⟩) dX8_undo_60
        · refine lv_aload_n hx hb dX8_undo_29 rfl (lv_at hl 1 rfl) ?_
          refine zm_get 0 (.ref (g 1)) hx hb hts (fun x h => List.mem_cons_of_mem _ (hU_X8 x h)) hown hE hP (by decide) rfl (hts _ (List.mem_cons_of_mem _ uM_5)) (fun _ h9 => h9) dX8_undo_30 ?_
          refine lv_iload_n hx hb dX8_undo_33 rfl (lv_at hl 0 rfl) ?_
          refine lv_aload_n hx hb dX8_undo_34 rfl (lv_at hl 1 rfl) ?_
          refine zm_get 1 (.ref (g 2)) hx hb hts (fun x h => List.mem_cons_of_mem _ (hU_X8 x h)) hown hE hP (by decide) rfl (hts _ (List.mem_cons_of_mem _ uM_6)) (fun _ h9 => h9) dX8_undo_35 ?_
          refine lv_sipush (v := 258) hx hb dX8_undo_38 (by decide +kernel) ?_
          refine lv_aload_n hx hb dX8_undo_41 rfl (lv_at hl 1 rfl) ?_
          refine zm_get 6 (.int (nI (k - 1))) hx hb hts (fun x h => List.mem_cons_of_mem _ (hU_X8 x h)) hown hE hP (by decide) rfl (hts _ (List.mem_cons_of_mem _ uM_26)) (fun _ h9 => h9) dX8_undo_42 ?_
          refine lv_imul hx hb dX8_undo_45 ?_
          refine zt_i (z_mul (a := 258) (b := k - 1) (by first | rfl | omega)) ?_
          refine lv_iload_n hx hb dX8_undo_46 rfl (lv_at hl 0 rfl) ?_
          refine lv_iadd hx hb dX8_undo_47 ?_
          refine zt_i (z_add (a := 258 * (k - 1)) (b := i) (by first | rfl | omega)) ?_
          refine z_iald (k := (258 * (k - 1)) + i) hx hb hE hP 2 (zm_c2 V g f_ pa be av sl sv pd cd (nI (k - 1)) le ap pl wy) (by omega) (by decide) dX8_undo_48 ?_
          refine zm_a1 i (pa ((258 * (k - 1)) + i)) hx hb hE hP hJ hS (by omega) dX8_undo_49 (fun H locs hP hS => ?_)
          obtain ⟨w_1, ew_1⟩ : ∃ z, z = upd f_ i (pa ((258 * (k - 1)) + i)) := ⟨_, rfl⟩
          rw [← ew_1] at hP
          refine lv_iinc (v := nI (i + 1)) (lv' := [(1, .int (nI (i + 1))), (0, .ref (g 0))]) hx hb dX8_undo_50 hl (k := 0) rfl (z_inc1 i) (by decide) rfl (fun ls hl => ?_)
          refine lv_goto (tgt := 22) hx hb dX8_undo_53 (by decide) ?_
          have e_ : w_1 = fun j => if j < i + 1 then pa (258 * (k - 1) + j) else w j := by
            rw [ew_1, ef_]; funext j; simp only [upd]; by_cases h1 : j = i
            · subst h1; rw [if_pos rfl, if_pos (by omega)]
            · rw [if_neg h1]; by_cases h2 : j < i
              · rw [if_pos h2, if_pos (by omega)]
              · rw [if_neg h2, if_neg (by omega)]
          exact ih (i + 1) w_1 H locs ls (by omega) (by omega) e_ hP hS (lv_sub hl [0, 1] rfl)
    exact L_22 (258 + 1) 0 w H locs ls (by omega) (by omega) (by funext j; rw [if_neg (by omega)]) hP hS (lv_sub hl [0, 1] rfl)
  · refine lv_bipush (v := (-5)) hx hb dX8_undo_7 (by decide +kernel) ?_
    exact zr_i hx hb hr hlocks hS (⟨(if_pos c_4).symm, by rw [if_pos c_4, show k - 1 = k by omega]; exact hP⟩) dX8_undo_9
set_option maxHeartbeats 4000000 in
set_option maxRecDepth 100000 in
theorem c_X8_save (l : Launch) (V : zV) (g : Nat → Nat) (w pa be av sl sv pd cd : Nat → Int32) (st le ap pl wy : Int32) (x : Int32) (hJ : zInj 9 g) : Met l yX8_save wsX8_save (zR 1 0 0) (zPc V [.ref (g 0), .int x] (fun H => va_P V.1 vwCl (zmW V g w pa be av sl sv pd cd st le ap pl wy) H)) (zQi (fun r H => r = (if 0 ≤ x ∧ x ≤ 1 then w 7 else -2) ∧ va_P V.1 vwCl (zmW V g w pa be av (mSaveSl w sl x) (mSaveSv sv x) pd cd st le ap pl wy) H) (zIn 9 g)) 0 0 (zIn 9 g) := by
  refine Met.ofW (cc := cX8_save) (maxL := 3) (ret := (some .int)) (by decide) rfl ?_
  intro p e s m args below meth c s₁ B hml hv
  obtain ⟨rfl, hP, hE⟩ := hv
  have hx := B.exec
  have hb := B.bytes
  have hr := B.returns
  have hts := atoms_spec (ws := wsX8_save) B.pre
  have hown : s.vm.findClass RX8 = some m.cls := findClass_of_methodNamed B.named
  have hlocks := B.notSynchronized
  have hl := lv_entry ([.ref (g 0), .int x]) (n := 3) (Nat.le_of_ble_eq_true rfl)
  rw [lg_entry_eq]
  generalize (lg_sl ([.ref (g 0), .int x]) ++ List.replicate (3 - (lg_sl ([.ref (g 0), .int x])).length) Slot.unset).toArray = ls at hl ⊢
  have hl : lv_has ls 3 [(0, .ref (g 0)), (1, .int x)] := hl
  have hS : va_S (zIn 9 g) s.heap s.heap [] := va_S.rf
  refine lv_iload_n hx hb dX8_save_0 rfl (lv_at hl 1 rfl) ?_
  refine lv_i2l (v := x.toInt64) hx hb dX8_save_1 rfl ?_
  refine lv_iconst (v := 0) hx hb dX8_save_2 (by decide +kernel) ?_
  refine lv_iconst (v := 1) hx hb dX8_save_3 (by decide +kernel) ?_
  refine zc_se (va_runS (As := [.long x.toInt64, .int 0, .int 1]) (rest := []) ⟨hx, hb, hml, hown, hts⟩ (c_X8_in l V x 0 1) (va_cwS 3 hts (zgS_ wsM_all uM_14 uM_29 uM_30 uM_21) rfl rfl rfl (by decide +kernel) ⟨Nat.le_of_ble_eq_true rfl, Nat.le_of_ble_eq_true rfl⟩) (zPreS (B := fun _ => True) trivial hE) rfl rfl hl.1 rfl (lv_room (Nat.le_of_ble_eq_true rfl)) dX8_save_4 ⟨Nat.le_of_ble_eq_true rfl, Nat.le_of_ble_eq_true rfl⟩) ?_
  refine zbp_ne (P := 0 ≤ x ∧ x ≤ 1) (tgt := 13) hx hb dX8_save_7 (by decide) (fun c_7 => ?_) (fun c_7 => ?_)
  · obtain ⟨x_, rfl, -, hx1_⟩ := z_ix (na := 0) (nb := 1) rfl rfl (by decide) (by decide) c_7
    refine lv_iconst (v := 0) hx hb dX8_save_13 (by decide +kernel) ?_
    refine lv_istore_n (lv' := [(2, .int 0), (0, .ref (g 0)), (1, .int (nI x_))]) hx hb dX8_save_14 rfl hl (by decide) rfl (fun ls hl => ?_)
    have L_15 : ∀ (n_ i : Nat) (f_ : Nat → Int32) (H : Heap) (locs : List Loc) (ls : Array Slot), i ≤ 258 → 258 + 1 ≤ i + n_ → (f_ = fun j => if 258 * x_ ≤ j ∧ j < 258 * x_ + i then w (j - 258 * x_) else sl j) → va_P V.1 vwCl (zmW V g w pa be av f_ sv pd cd st le ap pl wy) H → va_S (zIn 9 g) s.heap H locs → lv_has ls 3 [(2, .int (nI i)), (0, .ref (g 0)), (1, .int (nI x_))] → W p l e (headSpec wsX8_save (zR 1 0 0)).room s m (List.toArray [.ref (g 0), .int (nI x_)]) below meth c H locs 0 0 (MQ below (zQi (fun r H => r = (if 0 ≤ (nI x_) ∧ (nI x_) ≤ 1 then w 7 else -2) ∧ va_P V.1 vwCl (zmW V g w pa be av (mSaveSl w sl (nI x_)) (mSaveSv sv (nI x_)) pd cd st le ap pl wy) H) (zIn 9 g)) (List.toArray [.ref (g 0), .int (nI x_)]) s 0 0 (zIn 9 g)) (F0 m 15 ls []) := by
      intro n_
      induction n_ with
      | zero => intro i f_ H locs ls hi_ hn_; exact absurd hn_ (by omega)
      | succ n_ ih =>
        intro i f_ H locs ls hi_ hn_ ef_ hP hS hl
        refine lv_iload_n hx hb dX8_save_15 rfl (lv_at hl 0 rfl) ?_
        refine lv_sipush (v := 258) hx hb dX8_save_16 (by decide +kernel) ?_
        refine zb_ge (x := i) (y := 258) (tgt := 46) hx hb dX8_save_19 (by decide) (by omega) (by omega) (fun c_19 => ?_) (fun c_19 => ?_)
        · refine lv_aload_n hx hb dX8_save_46 rfl (lv_at hl 1 rfl) ?_
          refine zm_get 5 (.ref (g 6)) hx hb hts (fun x h => List.mem_cons_of_mem _ (hU_X8 x h)) hown hE hP (by decide) rfl (hts _ (List.mem_cons_of_mem _ uM_11)) (fun _ h9 => h9) dX8_save_47 ?_
          refine lv_iload_n hx hb dX8_save_50 rfl (lv_at hl 2 rfl) ?_
          refine lv_iconst (v := 1) hx hb dX8_save_51 (by decide +kernel) ?_
          refine zm_a6 x_ 1 hx hb hE hP hJ hS rfl (by omega) dX8_save_52 (fun H locs hP hS => ?_)
          obtain ⟨sv_1, esv_1⟩ : ∃ z, z = upd sv x_ 1 := ⟨_, rfl⟩
          rw [← esv_1] at hP
          refine lv_aload_n hx hb dX8_save_53 rfl (lv_at hl 1 rfl) ?_
          refine zm_get 0 (.ref (g 1)) hx hb hts (fun x h => List.mem_cons_of_mem _ (hU_X8 x h)) hown hE hP (by decide) rfl (hts _ (List.mem_cons_of_mem _ uM_5)) (fun _ h9 => h9) dX8_save_54 ?_
          refine lv_bipush (v := 7) hx hb dX8_save_57 (by decide +kernel) ?_
          refine z_iald (k := 7) hx hb hE hP 1 (zm_c1 V g w pa be av f_ sv_1 pd cd st le ap pl wy) (by omega) (by decide) dX8_save_59 ?_
          exact zr_i hx hb hr hlocks hS (⟨(if_pos c_7).symm, by rw [mSaveSl, if_pos c_7, mSaveSv, if_pos c_7, nI_clamp (by omega), ← esv_1, show (fun j => if 258 * x_ ≤ j ∧ j < 258 * x_ + 258 then w (j - 258 * x_) else sl j) = f_ from (by rw [ef_, show i = 258 by omega])]; exact hP⟩) dX8_save_60
        · refine lv_aload_n hx hb dX8_save_22 rfl (lv_at hl 1 rfl) ?_
          refine zm_get 4 (.ref (g 5)) hx hb hts (fun x h => List.mem_cons_of_mem _ (hU_X8 x h)) hown hE hP (by decide) rfl (hts _ (List.mem_cons_of_mem _ uM_9)) (fun _ h9 => h9) dX8_save_23 ?_
          refine lv_sipush (v := 258) hx hb dX8_save_26 (by decide +kernel) ?_
          refine lv_iload_n hx hb dX8_save_29 rfl (lv_at hl 2 rfl) ?_
          refine lv_imul hx hb dX8_save_30 ?_
          refine zt_i (z_mul (a := 258) (b := x_) (by first | rfl | omega)) ?_
          refine lv_iload_n hx hb dX8_save_31 rfl (lv_at hl 0 rfl) ?_
          refine lv_iadd hx hb dX8_save_32 ?_
          refine zt_i (z_add (a := 258 * x_) (b := i) (by first | rfl | omega)) ?_
          refine lv_aload_n hx hb dX8_save_33 rfl (lv_at hl 1 rfl) ?_
          refine zm_get 0 (.ref (g 1)) hx hb hts (fun x h => List.mem_cons_of_mem _ (hU_X8 x h)) hown hE hP (by decide) rfl (hts _ (List.mem_cons_of_mem _ uM_5)) (fun _ h9 => h9) dX8_save_34 ?_
          refine lv_iload_n hx hb dX8_save_37 rfl (lv_at hl 0 rfl) ?_
          refine z_iald (k := i) hx hb hE hP 1 (zm_c1 V g w pa be av f_ sv pd cd st le ap pl wy) (by omega) (by decide) dX8_save_38 ?_
          refine zm_a5 (258 * x_ + i) (w i) hx hb hE hP hJ hS (by omega) dX8_save_39 (fun H locs hP hS => ?_)
          obtain ⟨sl_2, esl_2⟩ : ∃ z, z = upd f_ (258 * x_ + i) (w i) := ⟨_, rfl⟩
          rw [← esl_2] at hP
          refine lv_iinc (v := nI (i + 1)) (lv' := [(2, .int (nI (i + 1))), (0, .ref (g 0)), (1, .int (nI x_))]) hx hb dX8_save_40 hl (k := 0) rfl (z_inc1 i) (by decide) rfl (fun ls hl => ?_)
          refine lv_goto (tgt := 15) hx hb dX8_save_43 (by decide) ?_
          have e_ : sl_2 = fun j => if 258 * x_ ≤ j ∧ j < 258 * x_ + (i + 1) then w (j - 258 * x_) else sl j := by
            rw [esl_2, ef_]; funext j; simp only [upd]; by_cases h1 : j = 258 * x_ + i
            · subst h1; rw [if_pos rfl, if_pos (by omega), show 258 * x_ + i - 258 * x_ = i by omega]
            · rw [if_neg h1]; by_cases h2 : 258 * x_ ≤ j ∧ j < 258 * x_ + i
              · rw [if_pos h2, if_pos (by omega)]
              · rw [if_neg h2, if_neg (by omega)]
          exact ih (i + 1) sl_2 H locs ls (by omega) (by omega) e_ hP hS (lv_sub hl [0, 1, 2] rfl)
    exact L_15 (258 + 1) 0 sl s.heap [] ls (by omega) (by omega) (by funext j; rw [if_neg (by omega)]) hP hS (lv_sub hl [0, 1, 2] rfl)
  · refine lv_bipush (v := (-2)) hx hb dX8_save_10 (by decide +kernel) ?_
    exact zr_i hx hb hr hlocks hS (⟨(if_neg c_7).symm, by rw [mSaveSl, if_neg c_7, mSaveSv, if_neg c_7]; exact hP⟩) dX8_save_12
/-- what restore does: the answer, the row, the past, how many states -/
def mRst (w pa sl sv : Nat → Int32) (k : Nat) (x : Int32) : Int32 × (Nat → Int32) × (Nat → Int32) × Nat :=
  if 0 ≤ x ∧ x ≤ 1 then (if sv x.toNatClampNeg = 0 then (-5, w, pa, k) else (sl (258 * x.toNatClampNeg + 7), (fun j => sl (258 * x.toNatClampNeg + j)), mRP pa w k (sl (258 * x.toNatClampNeg + 7)), mRK k (sl (258 * x.toNatClampNeg + 7)))) else (-2, w, pa, k)
set_option maxHeartbeats 4000000 in
set_option maxRecDepth 100000 in
theorem c_X8_restore (l : Launch) (V : zV) (g : Nat → Nat) (w pa be av sl sv pd cd : Nat → Int32) (st le ap pl wy : Int32) (k : Nat) (x : Int32) (hJ : zInj 9 g) (hst : st = nI k) (hk6 : k ≤ 6) : Met l yX8_restore wsX8_restore (zR 1 0 0) (zPc V [.ref (g 0), .int x] (fun H => va_P V.1 vwCl (zmW V g w pa be av sl sv pd cd st le ap pl wy) H)) (zQi (fun r H => r = ((mRst w pa sl sv k x).1) ∧ (∃ be' : Nat → Int32, va_P V.1 vwCl (zmW V g ((mRst w pa sl sv k x).2.1) ((mRst w pa sl sv k x).2.2.1) be' av sl sv pd cd (nI (mRst w pa sl sv k x).2.2.2) le ap pl wy) H)) (zIn 9 g)) 0 0 (zIn 9 g) := by
  refine Met.ofW (cc := cX8_restore) (maxL := 3) (ret := (some .int)) (by decide) rfl ?_
  intro p e s m args below meth c s₁ B hml hv
  obtain ⟨rfl, hP, hE⟩ := hv
  have hx := B.exec
  have hb := B.bytes
  have hr := B.returns
  have hts := atoms_spec (ws := wsX8_restore) B.pre
  have hown : s.vm.findClass RX8 = some m.cls := findClass_of_methodNamed B.named
  have hlocks := B.notSynchronized
  have hl := lv_entry ([.ref (g 0), .int x]) (n := 3) (Nat.le_of_ble_eq_true rfl)
  rw [lg_entry_eq]
  generalize (lg_sl ([.ref (g 0), .int x]) ++ List.replicate (3 - (lg_sl ([.ref (g 0), .int x])).length) Slot.unset).toArray = ls at hl ⊢
  have hl : lv_has ls 3 [(0, .ref (g 0)), (1, .int x)] := hl
  have hS : va_S (zIn 9 g) s.heap s.heap [] := va_S.rf
  subst hst
  refine lv_iload_n hx hb dX8_restore_0 rfl (lv_at hl 1 rfl) ?_
  refine lv_i2l (v := x.toInt64) hx hb dX8_restore_1 rfl ?_
  refine lv_iconst (v := 0) hx hb dX8_restore_2 (by decide +kernel) ?_
  refine lv_iconst (v := 1) hx hb dX8_restore_3 (by decide +kernel) ?_
  refine zc_se (va_runS (As := [.long x.toInt64, .int 0, .int 1]) (rest := []) ⟨hx, hb, hml, hown, hts⟩ (c_X8_in l V x 0 1) (va_cwS 3 hts (zgS_ wsM_all uM_14 uM_29 uM_30 uM_21) rfl rfl rfl (by decide +kernel) ⟨Nat.le_of_ble_eq_true rfl, Nat.le_of_ble_eq_true rfl⟩) (zPreS (B := fun _ => True) trivial hE) rfl rfl hl.1 rfl (lv_room (Nat.le_of_ble_eq_true rfl)) dX8_restore_4 ⟨Nat.le_of_ble_eq_true rfl, Nat.le_of_ble_eq_true rfl⟩) ?_
  refine zbp_ne (P := 0 ≤ x ∧ x ≤ 1) (tgt := 13) hx hb dX8_restore_7 (by decide) (fun c_7 => ?_) (fun c_7 => ?_)
  · obtain ⟨x_, rfl, -, hx1_⟩ := z_ix (na := 0) (nb := 1) rfl rfl (by decide) (by decide) c_7
    refine lv_aload_n hx hb dX8_restore_13 rfl (lv_at hl 0 rfl) ?_
    refine zm_get 5 (.ref (g 6)) hx hb hts (fun x h => List.mem_cons_of_mem _ (hU_X8 x h)) hown hE hP (by decide) rfl (hts _ (List.mem_cons_of_mem _ uM_11)) (fun _ h9 => h9) dX8_restore_14 ?_
    refine lv_iload_n hx hb dX8_restore_17 rfl (lv_at hl 1 rfl) ?_
    refine z_zald (k := x_) hx hb hE hP 6 (zm_c6 V g w pa be av sl sv pd cd (nI k) le ap pl wy) (by omega) (by decide) dX8_restore_18 ?_
    refine lv_if_ne (tgt := 25) hx hb dX8_restore_19 (by decide) (fun c_19 => ?_) (fun c_19 => ?_)
    · refine lv_aload_n hx hb dX8_restore_25 rfl (lv_at hl 0 rfl) ?_
      refine zc_v (va_runV (As := []) (rest := []) ⟨hx, hb, hml, hown, hts⟩ (c_X8_remember l V g w pa be av sl sv pd cd (nI k) le ap pl wy  hJ) (cwV 0 hts (zgV_ wsM_all uM_24 uM_32 uM_33 uM_34 uM_21) rfl rfl rfl (by decide +kernel) ⟨Nat.le_of_ble_eq_true rfl, Nat.le_of_ble_eq_true rfl⟩) (zPreV (B := fun H => va_P V.1 vwCl (zmW V g w pa be av sl sv pd cd (nI k) le ap pl wy) H) hP hE (va_recv hE.1 hP (ci := 8) (q0 := 0) (q := (RX8, TX8, 13)) rfl (zm_c0 V g w pa be av sl sv pd cd (nI k) le ap pl wy))) rfl rfl hl.1 rfl (lv_room (Nat.le_of_ble_eq_true rfl)) dX8_restore_26 ⟨Nat.le_of_ble_eq_true rfl, Nat.le_of_ble_eq_true rfl⟩) hS (fun _ h => h) (fun _ h => h) (fun H locs hQ_ _ _ hS => ?_)
      have hP := hQ_
      refine lv_iconst (v := 0) hx hb dX8_restore_29 (by decide +kernel) ?_
      refine lv_istore_n (lv' := [(2, .int 0), (0, .ref (g 0)), (1, .int (nI x_))]) hx hb dX8_restore_30 rfl hl (by decide) rfl (fun ls hl => ?_)
      have L_31 : ∀ (n_ i : Nat) (f_ : Nat → Int32) (H : Heap) (locs : List Loc) (ls : Array Slot), i ≤ 258 → 258 + 1 ≤ i + n_ → (f_ = fun j => if j < i then sl (258 * x_ + j) else w j) → va_P V.1 vwCl (zmW V g f_ pa w av sl sv pd cd (nI k) le ap pl wy) H → va_S (zIn 9 g) s.heap H locs → lv_has ls 3 [(2, .int (nI i)), (0, .ref (g 0)), (1, .int (nI x_))] → W p l e (headSpec wsX8_restore (zR 1 0 0)).room s m (List.toArray [.ref (g 0), .int (nI x_)]) below meth c H locs 0 0 (MQ below (zQi (fun r H => r = ((mRst w pa sl sv k (nI x_)).1) ∧ (∃ be' : Nat → Int32, va_P V.1 vwCl (zmW V g ((mRst w pa sl sv k (nI x_)).2.1) ((mRst w pa sl sv k (nI x_)).2.2.1) be' av sl sv pd cd (nI (mRst w pa sl sv k (nI x_)).2.2.2) le ap pl wy) H)) (zIn 9 g)) (List.toArray [.ref (g 0), .int (nI x_)]) s 0 0 (zIn 9 g)) (F0 m 31 ls []) := by
        intro n_
        induction n_ with
        | zero => intro i f_ H locs ls hi_ hn_; exact absurd hn_ (by omega)
        | succ n_ ih =>
          intro i f_ H locs ls hi_ hn_ ef_ hP hS hl
          refine lv_iload_n hx hb dX8_restore_31 rfl (lv_at hl 0 rfl) ?_
          refine lv_sipush (v := 258) hx hb dX8_restore_32 (by decide +kernel) ?_
          refine zb_ge (x := i) (y := 258) (tgt := 62) hx hb dX8_restore_35 (by decide) (by omega) (by omega) (fun c_35 => ?_) (fun c_35 => ?_)
          · have hP := zm_x1 (V := V) (fun j => sl (258 * x_ + j)) (fun j hj => by rw [ef_]; exact if_pos (by omega)) hP
            refine lv_aload_n hx hb dX8_restore_62 rfl (lv_at hl 1 rfl) ?_
            refine lv_aload_n hx hb dX8_restore_63 rfl (lv_at hl 1 rfl) ?_
            refine zm_get 0 (.ref (g 1)) hx hb hts (fun x h => List.mem_cons_of_mem _ (hU_X8 x h)) hown hE hP (by decide) rfl (hts _ (List.mem_cons_of_mem _ uM_5)) (fun _ h9 => h9) dX8_restore_64 ?_
            refine lv_bipush (v := 7) hx hb dX8_restore_67 (by decide +kernel) ?_
            refine z_iald (k := 7) hx hb hE hP 1 (zm_c1 V g (fun j => sl (258 * x_ + j)) pa w av sl sv pd cd (nI k) le ap pl wy) (by omega) (by decide) dX8_restore_69 ?_
            refine zc_i (va_runV (As := [.int ((fun j => sl (258 * x_ + j)) 7)]) (rest := []) ⟨hx, hb, hml, hown, hts⟩ (c_X8_record l V g (fun j => sl (258 * x_ + j)) pa w av sl sv pd cd (nI k) le ap pl wy  k ((fun j => sl (258 * x_ + j)) 7) hJ rfl (by omega)) (cwV 1 hts (zgV_ wsM_all uM_25 uM_35 uM_36 uM_37 uM_21) rfl rfl rfl (by decide +kernel) ⟨Nat.le_of_ble_eq_true rfl, Nat.le_of_ble_eq_true rfl⟩) (zPreV (B := fun H => va_P V.1 vwCl (zmW V g (fun j => sl (258 * x_ + j)) pa w av sl sv pd cd (nI k) le ap pl wy) H) hP hE (va_recv hE.1 hP (ci := 8) (q0 := 0) (q := (RX8, TX8, 13)) rfl (zm_c0 V g (fun j => sl (258 * x_ + j)) pa w av sl sv pd cd (nI k) le ap pl wy))) rfl rfl hl.1 rfl (lv_room (Nat.le_of_ble_eq_true rfl)) dX8_restore_70 ⟨Nat.le_of_ble_eq_true rfl, Nat.le_of_ble_eq_true rfl⟩) hS (fun _ h => h) (fun _ h => h) (fun r_ H locs hQ_ _ _ hS => ?_)
            obtain ⟨hr_, hP⟩ := hQ_
            subst hr_
            exact zr_i hx hb hr hlocks hS (⟨by rw [mRst, if_pos c_7, nI_clamp (by omega), if_neg c_19], _, by rw [mRst, if_pos c_7, nI_clamp (by omega), if_neg c_19]; exact hP⟩) dX8_restore_73
          · refine lv_aload_n hx hb dX8_restore_38 rfl (lv_at hl 1 rfl) ?_
            refine zm_get 0 (.ref (g 1)) hx hb hts (fun x h => List.mem_cons_of_mem _ (hU_X8 x h)) hown hE hP (by decide) rfl (hts _ (List.mem_cons_of_mem _ uM_5)) (fun _ h9 => h9) dX8_restore_39 ?_
            refine lv_iload_n hx hb dX8_restore_42 rfl (lv_at hl 0 rfl) ?_
            refine lv_aload_n hx hb dX8_restore_43 rfl (lv_at hl 1 rfl) ?_
            refine zm_get 4 (.ref (g 5)) hx hb hts (fun x h => List.mem_cons_of_mem _ (hU_X8 x h)) hown hE hP (by decide) rfl (hts _ (List.mem_cons_of_mem _ uM_9)) (fun _ h9 => h9) dX8_restore_44 ?_
            refine lv_sipush (v := 258) hx hb dX8_restore_47 (by decide +kernel) ?_
            refine lv_iload_n hx hb dX8_restore_50 rfl (lv_at hl 2 rfl) ?_
            refine lv_imul hx hb dX8_restore_51 ?_
            refine zt_i (z_mul (a := 258) (b := x_) (by first | rfl | omega)) ?_
            refine lv_iload_n hx hb dX8_restore_52 rfl (lv_at hl 0 rfl) ?_
            refine lv_iadd hx hb dX8_restore_53 ?_
            refine zt_i (z_add (a := 258 * x_) (b := i) (by first | rfl | omega)) ?_
            refine z_iald (k := 258 * x_ + i) hx hb hE hP 5 (zm_c5 V g f_ pa w av sl sv pd cd (nI k) le ap pl wy) (by omega) (by decide) dX8_restore_54 ?_
            refine zm_a1 i (sl (258 * x_ + i)) hx hb hE hP hJ hS (by omega) dX8_restore_55 (fun H locs hP hS => ?_)
            obtain ⟨w_1, ew_1⟩ : ∃ z, z = upd f_ i (sl (258 * x_ + i)) := ⟨_, rfl⟩
            rw [← ew_1] at hP
            refine lv_iinc (v := nI (i + 1)) (lv' := [(2, .int (nI (i + 1))), (0, .ref (g 0)), (1, .int (nI x_))]) hx hb dX8_restore_56 hl (k := 0) rfl (z_inc1 i) (by decide) rfl (fun ls hl => ?_)
            refine lv_goto (tgt := 31) hx hb dX8_restore_59 (by decide) ?_
            have e_ : w_1 = fun j => if j < i + 1 then sl (258 * x_ + j) else w j := by
              rw [ew_1, ef_]; funext j; simp only [upd]; by_cases h1 : j = i
              · subst h1; rw [if_pos rfl, if_pos (by omega)]
              · rw [if_neg h1]; by_cases h2 : j < i
                · rw [if_pos h2, if_pos (by omega)]
                · rw [if_neg h2, if_neg (by omega)]
            exact ih (i + 1) w_1 H locs ls (by omega) (by omega) e_ hP hS (lv_sub hl [0, 1, 2] rfl)
      exact L_31 (258 + 1) 0 w H locs ls (by omega) (by omega) (by funext j; rw [if_neg (by omega)]) hP hS (lv_sub hl [0, 1, 2] rfl)
    · refine lv_bipush (v := (-5)) hx hb dX8_restore_22 (by decide +kernel) ?_
      exact zr_i hx hb hr hlocks hS (⟨by rw [mRst, if_pos c_7, nI_clamp (by omega), if_pos c_19], _, by rw [mRst, if_pos c_7, nI_clamp (by omega), if_pos c_19]; exact hP⟩) dX8_restore_24
  · refine lv_bipush (v := (-2)) hx hb dX8_restore_10 (by decide +kernel) ?_
    exact zr_i hx hb hr hlocks hS (⟨by rw [mRst, if_neg c_7], _, by rw [mRst, if_neg c_7]; exact hP⟩) dX8_restore_12
def mLook (w : Nat → Int32) (n : Nat) : Int32 × Option Nat :=
  match (if ¬ w 16 = 2 ∧ w 14 < w 2 then mLow w n (w 16) (w 9) else none) with
  | some k => (0, some k)
  | none => match mOld w n (mNext w n) with
    | none => (3, none)
    | some k => if w (zF w k 1).toNatClampNeg ≤ w 6 - zF w k 4 then (1, some k) else
      match mLow w n (mNext w n) (w 9) with
      | some j => (2, some j)
      | none => (3, mLow w n (mNext w n) 0)
def mOK (w : Nat → Int32) (n : Nat) : Prop := w 7 = nI n ∧ n ≤ 30 ∧ (∀ k, k < n → zF w k 1 = 0 ∨ zF w k 1 = 1) ∧ (∀ k, k < n → 0 ≤ zF w k 2)
theorem zCnt_pos {p : Nat → Bool} {n : Nat} (h : 0 < zCnt p n) : ∃ k, k < n ∧ p k = true := by
  induction n with
  | zero => simp [zCnt] at h
  | succ n ih =>
    cases hp : p n with
    | true => exact ⟨n, Nat.lt_succ_self _, hp⟩
    | false =>
      simp only [zCnt, hp] at h
      obtain ⟨k, h1, h2⟩ := ih (by simpa using h)
      exact ⟨k, Nat.lt_succ_of_lt h1, h2⟩
theorem zCnt_zero {p : Nat → Bool} {n : Nat} (h : zCnt p n = 0) : ∀ k, k < n → p k = false := by
  induction n with
  | zero => intro k hk; omega
  | succ n ih =>
    simp only [zCnt] at h
    intro k hk
    have h1 : zCnt p n = 0 := by omega
    rcases Nat.lt_or_ge k n with q | q
    · exact ih h1 k q
    · have : k = n := by omega
      subst this
      cases hp : p k with
      | true => simp [hp] at h
      | false => rfl
theorem zCnt_all {p : Nat → Bool} {n : Nat} (h : zCnt p n = n) : ∀ k, k < n → p k = true := by
  induction n with
  | zero => intro k hk; omega
  | succ n ih =>
    simp only [zCnt] at h
    have h0 := zCnt_le p n
    intro k hk
    cases hp : p n with
    | false => simp [hp] at h; omega
    | true =>
      have h1 : zCnt p n = n := by simp [hp] at h; omega
      rcases Nat.lt_or_ge k n with q | q
      · exact ih h1 k q
      · have : k = n := by omega
        rw [this]; exact hp
theorem zBest_some {can : Nat → Bool} {lt : Nat → Nat → Bool} {n j : Nat} (hj : j < n) (hc : can j = true) : ∃ k, k < n ∧ can k = true ∧ zBest can lt n = some k := by
  cases h : zBest can lt n with
  | none => exact absurd (zBest_none.mp h j hj) (by rw [hc]; decide)
  | some k => exact ⟨k, (zBest_lt h).1, (zBest_lt h).2, rfl⟩
theorem mOld_some {w : Nat → Int32} {n : Nat} (hpos : 0 < n) (hwr : ∀ k, k < n → zF w k 1 = 0 ∨ zF w k 1 = 1) : ∃ k, k < n ∧ zF w k 1 = mNext w n ∧ mOld w n (mNext w n) = some k := by
  have key : ∃ j, j < n ∧ zF w j 1 = mNext w n := by
    unfold mNext
    by_cases h1 : mMany w n 1 = n
    · rw [if_pos h1]
      exact ⟨0, hpos, of_decide_eq_true (zCnt_all h1 0 hpos)⟩
    · rw [if_neg h1]
      by_cases h2 : mMany w n 1 = 0
      · rw [if_pos h2]
        refine ⟨0, hpos, ?_⟩
        rcases hwr 0 hpos with h | h
        · exact h
        · exact absurd h (of_decide_eq_false (zCnt_zero h2 0 hpos))
      · rw [if_neg h2]
        split
        · obtain ⟨k, hk, hp⟩ := zCnt_pos (Nat.pos_of_ne_zero h2)
          exact ⟨k, hk, of_decide_eq_true hp⟩
        · apply Classical.byContradiction
          intro hno
          apply h1
          have hall : ∀ k, k < n → zF w k 1 = 1 := fun k hk => (hwr k hk).resolve_left (fun z => hno ⟨k, hk, z⟩)
          have gen : ∀ m, m ≤ n → zCnt (fun k => decide (zF w k 1 = 1)) m = m := by
            intro m
            induction m with
            | zero => intro _; rfl
            | succ m ih =>
              intro hm
              simp only [zCnt, hall m (by omega), ih (by omega)]
              simp
          exact gen n (Nat.le_refl n)
  obtain ⟨j, hj, he⟩ := key
  obtain ⟨k, h1, h2, h3⟩ := zBest_some (can := fun k => decide (zF w k 1 = mNext w n)) (lt := fun a b => decide (zF w a 4 < zF w b 4)) hj (decide_eq_true he)
  exact ⟨k, h1, of_decide_eq_true h2, h3⟩
theorem mLook_some {w : Nat → Int32} {n : Nat} (hpos : 0 < n) (hok : mOK w n) : ∃ k, k < n ∧ (mLook w n).2 = some k := by
  obtain ⟨-, -, hwr, hfd⟩ := hok
  unfold mLook
  cases h0 : (if ¬ w 16 = 2 ∧ w 14 < w 2 then mLow w n (w 16) (w 9) else none) with
  | some k =>
    refine ⟨k, ?_, rfl⟩
    split at h0
    · exact (zBest_lt h0).1
    · cases h0
  | none =>
    obtain ⟨k, h1, h1', h2⟩ := mOld_some hpos hwr
    simp only [h2]
    split
    · exact ⟨k, h1, rfl⟩
    · cases h3 : mLow w n (mNext w n) (w 9) with
      | some j => exact ⟨j, (zBest_lt h3).1, rfl⟩
      | none =>
        obtain ⟨j, h4, -, h5⟩ := zBest_some (can := fun k => decide (zF w k 1 = mNext w n ∧ 0 ≤ zF w k 2)) (lt := fun a b => decide (zF w a 2 < zF w b 2)) h1 (decide_eq_true ⟨h1', hfd k h1⟩)
        exact ⟨j, h4, h5⟩
set_option maxHeartbeats 4000000 in
set_option maxRecDepth 100000 in
theorem c_X8_drop (l : Launch) (V : zV) (g : Nat → Nat) (w pa be av sl sv pd cd : Nat → Int32) (st le ap pl wy : Int32) (n k : Nat) (hJ : zInj 9 g) (hn : w 7 = nI n) (h30 : n ≤ 30) (hkn : k < n) : Met l yX8_drop wsX8_drop (zR 0 0 0) (zPc V [.ref (g 0), .int (nI k)] (fun H => va_P V.1 vwCl (zmW V g w pa be av sl sv pd cd st le ap pl wy) H)) (zQv (fun H => va_P V.1 vwCl (zmW V g (mDrop w n k) pa be av sl sv pd cd st le ap pl wy) H) (zIn 9 g)) 0 0 (zIn 9 g) := by
  refine Met.ofW (cc := cX8_drop) (maxL := 3) (ret := none) (by decide) rfl ?_
  intro p e s m args below meth c s₁ B hml hv
  obtain ⟨rfl, hP, hE⟩ := hv
  have hx := B.exec
  have hb := B.bytes
  have hr := B.returns
  have hts := atoms_spec (ws := wsX8_drop) B.pre
  have hown : s.vm.findClass RX8 = some m.cls := findClass_of_methodNamed B.named
  have hlocks := B.notSynchronized
  have hl := lv_entry ([.ref (g 0), .int (nI k)]) (n := 3) (Nat.le_of_ble_eq_true rfl)
  rw [lg_entry_eq]
  generalize (lg_sl ([.ref (g 0), .int (nI k)]) ++ List.replicate (3 - (lg_sl ([.ref (g 0), .int (nI k)])).length) Slot.unset).toArray = ls at hl ⊢
  have hl : lv_has ls 3 [(0, .ref (g 0)), (1, .int (nI k))] := hl
  have hS : va_S (zIn 9 g) s.heap s.heap [] := va_S.rf
  refine lv_aload_n hx hb dX8_drop_0 rfl (lv_at hl 0 rfl) ?_
  refine zm_get 0 (.ref (g 1)) hx hb hts (fun x h => List.mem_cons_of_mem _ (hU_X8 x h)) hown hE hP (by decide) rfl (hts _ (List.mem_cons_of_mem _ uM_5)) (fun _ h9 => h9) dX8_drop_1 ?_
  refine lv_bipush (v := 7) hx hb dX8_drop_4 (by decide +kernel) ?_
  refine lv_dup2_11 hx hb dX8_drop_6 rfl rfl ?_
  refine z_iald (k := 7) hx hb hE hP 1 (zm_c1 V g w pa be av sl sv pd cd st le ap pl wy) (by omega) (by decide) dX8_drop_7 ?_
  refine zt_i hn ?_
  refine lv_iconst (v := 1) hx hb dX8_drop_8 (by decide +kernel) ?_
  refine lv_isub hx hb dX8_drop_9 ?_
  refine zt_i (z_sub (a := n) (b := 1) (by omega) (by first | rfl | omega)) ?_
  refine zm_a1 7 (nI (n - 1)) hx hb hE hP hJ hS (by omega) dX8_drop_10 (fun H locs hP hS => ?_)
  obtain ⟨w_1, ew_1⟩ : ∃ z, z = upd w 7 (nI (n - 1)) := ⟨_, rfl⟩
  rw [← ew_1] at hP
  have hk_2 : w_1 7 = nI (n - 1) := by rw [ew_1]; exact if_pos rfl
  refine lv_bipush (v := 78) hx hb dX8_drop_11 (by decide +kernel) ?_
  refine lv_bipush (v := 6) hx hb dX8_drop_13 (by decide +kernel) ?_
  refine lv_iload_n hx hb dX8_drop_15 rfl (lv_at hl 1 rfl) ?_
  refine lv_imul hx hb dX8_drop_16 ?_
  refine zt_i (z_mul (a := 6) (b := k) (by first | rfl | omega)) ?_
  refine lv_iadd hx hb dX8_drop_17 ?_
  refine zt_i (z_add (a := 78) (b := 6 * k) (by first | rfl | omega)) ?_
  refine lv_istore_n (lv' := [(2, .int (nI (78 + 6 * k))), (0, .ref (g 0)), (1, .int (nI k))]) hx hb dX8_drop_18 rfl hl (by decide) rfl (fun ls hl => ?_)
  have L_19 : ∀ (n_ i : Nat) (f_ : Nat → Int32) (H : Heap) (locs : List Loc) (ls : Array Slot), i ≤ (78 + 6 * (n - 1)) → (78 + 6 * (n - 1)) + 1 ≤ i + n_ → (78 + 6 * k ≤ i) → (f_ 7 = nI (n - 1)) → (f_ = fun j => if 78 + 6 * k ≤ j ∧ j < i then w (j + 6) else w_1 j) → va_P V.1 vwCl (zmW V g f_ pa be av sl sv pd cd st le ap pl wy) H → va_S (zIn 9 g) s.heap H locs → lv_has ls 3 [(2, .int (nI i)), (0, .ref (g 0)), (1, .int (nI k))] → W p l e (headSpec wsX8_drop (zR 0 0 0)).room s m (List.toArray [.ref (g 0), .int (nI k)]) below meth c H locs 0 0 (MQ below (zQv (fun H => va_P V.1 vwCl (zmW V g (mDrop w n k) pa be av sl sv pd cd st le ap pl wy) H) (zIn 9 g)) (List.toArray [.ref (g 0), .int (nI k)]) s 0 0 (zIn 9 g)) (F0 m 19 ls []) := by
    intro n_
    induction n_ with
    | zero => intro i f_ H locs ls hi_ hn_; exact absurd hn_ (by omega)
    | succ n_ ih =>
      intro i f_ H locs ls hi_ hn_ hik hf7 ef_ hP hS hl
      refine lv_iload_n hx hb dX8_drop_19 rfl (lv_at hl 0 rfl) ?_
      refine lv_bipush (v := 78) hx hb dX8_drop_20 (by decide +kernel) ?_
      refine lv_bipush (v := 6) hx hb dX8_drop_22 (by decide +kernel) ?_
      refine lv_aload_n hx hb dX8_drop_24 rfl (lv_at hl 1 rfl) ?_
      refine zm_get 0 (.ref (g 1)) hx hb hts (fun x h => List.mem_cons_of_mem _ (hU_X8 x h)) hown hE hP (by decide) rfl (hts _ (List.mem_cons_of_mem _ uM_5)) (fun _ h9 => h9) dX8_drop_25 ?_
      refine lv_bipush (v := 7) hx hb dX8_drop_28 (by decide +kernel) ?_
      refine z_iald (k := 7) hx hb hE hP 1 (zm_c1 V g f_ pa be av sl sv pd cd st le ap pl wy) (by omega) (by decide) dX8_drop_30 ?_
      refine zt_i hf7 ?_
      refine lv_imul hx hb dX8_drop_31 ?_
      refine zt_i (z_mul (a := 6) (b := n - 1) (by first | rfl | omega)) ?_
      refine lv_iadd hx hb dX8_drop_32 ?_
      refine zt_i (z_add (a := 78) (b := 6 * (n - 1)) (by first | rfl | omega)) ?_
      refine zb_ge (x := i) (y := 78 + (6 * (n - 1))) (tgt := 57) hx hb dX8_drop_33 (by decide) (by omega) (by omega) (fun c_33 => ?_) (fun c_33 => ?_)
      · obtain rfl : i = 78 + 6 * (n - 1) := by omega
        refine lv_iconst (v := 0) hx hb dX8_drop_57 (by decide +kernel) ?_
        refine lv_istore_n (lv' := [(2, .int 0), (0, .ref (g 0)), (1, .int (nI k))]) hx hb dX8_drop_58 rfl hl (by decide) rfl (fun ls hl => ?_)
        have L_59 : ∀ (n_ i : Nat) (g_ : Nat → Int32) (H : Heap) (locs : List Loc) (ls : Array Slot), i ≤ 6 → 6 + 1 ≤ i + n_ → (g_ 7 = nI (n - 1)) → (g_ = fun j => if 78 + 6 * (n - 1) ≤ j ∧ j < 78 + 6 * (n - 1) + i then 0 else f_ j) → va_P V.1 vwCl (zmW V g g_ pa be av sl sv pd cd st le ap pl wy) H → va_S (zIn 9 g) s.heap H locs → lv_has ls 3 [(2, .int (nI i)), (0, .ref (g 0)), (1, .int (nI k))] → W p l e (headSpec wsX8_drop (zR 0 0 0)).room s m (List.toArray [.ref (g 0), .int (nI k)]) below meth c H locs 0 0 (MQ below (zQv (fun H => va_P V.1 vwCl (zmW V g (mDrop w n k) pa be av sl sv pd cd st le ap pl wy) H) (zIn 9 g)) (List.toArray [.ref (g 0), .int (nI k)]) s 0 0 (zIn 9 g)) (F0 m 59 ls []) := by
          intro n_
          induction n_ with
          | zero => intro i g_ H locs ls hi_ hn_; exact absurd hn_ (by omega)
          | succ n_ ih =>
            intro i g_ H locs ls hi_ hn_ hg7 eg_ hP hS hl
            refine lv_iload_n hx hb dX8_drop_59 rfl (lv_at hl 0 rfl) ?_
            refine lv_bipush (v := 6) hx hb dX8_drop_60 (by decide +kernel) ?_
            refine zb_ge (x := i) (y := 6) (tgt := 92) hx hb dX8_drop_62 (by decide) (by omega) (by omega) (fun c_62 => ?_) (fun c_62 => ?_)
            · exact zr_v hx hb hr hlocks hS (by rw [show mDrop w n k = g_ from (by rw [eg_, ef_, ew_1, show i = 6 by omega]; rfl)]; exact hP) dX8_drop_92
            · refine lv_aload_n hx hb dX8_drop_65 rfl (lv_at hl 1 rfl) ?_
              refine zm_get 0 (.ref (g 1)) hx hb hts (fun x h => List.mem_cons_of_mem _ (hU_X8 x h)) hown hE hP (by decide) rfl (hts _ (List.mem_cons_of_mem _ uM_5)) (fun _ h9 => h9) dX8_drop_66 ?_
              refine lv_bipush (v := 78) hx hb dX8_drop_69 (by decide +kernel) ?_
              refine lv_bipush (v := 6) hx hb dX8_drop_71 (by decide +kernel) ?_
              refine lv_aload_n hx hb dX8_drop_73 rfl (lv_at hl 1 rfl) ?_
              refine zm_get 0 (.ref (g 1)) hx hb hts (fun x h => List.mem_cons_of_mem _ (hU_X8 x h)) hown hE hP (by decide) rfl (hts _ (List.mem_cons_of_mem _ uM_5)) (fun _ h9 => h9) dX8_drop_74 ?_
              refine lv_bipush (v := 7) hx hb dX8_drop_77 (by decide +kernel) ?_
              refine z_iald (k := 7) hx hb hE hP 1 (zm_c1 V g g_ pa be av sl sv pd cd st le ap pl wy) (by omega) (by decide) dX8_drop_79 ?_
              refine zt_i hg7 ?_
              refine lv_imul hx hb dX8_drop_80 ?_
              refine zt_i (z_mul (a := 6) (b := n - 1) (by first | rfl | omega)) ?_
              refine lv_iadd hx hb dX8_drop_81 ?_
              refine zt_i (z_add (a := 78) (b := 6 * (n - 1)) (by first | rfl | omega)) ?_
              refine lv_iload_n hx hb dX8_drop_82 rfl (lv_at hl 0 rfl) ?_
              refine lv_iadd hx hb dX8_drop_83 ?_
              refine zt_i (z_add (a := 78 + (6 * (n - 1))) (b := i) (by first | rfl | omega)) ?_
              refine lv_iconst (v := 0) hx hb dX8_drop_84 (by decide +kernel) ?_
              refine zm_a1 ((78 + (6 * (n - 1))) + i) 0 hx hb hE hP hJ hS (by omega) dX8_drop_85 (fun H locs hP hS => ?_)
              obtain ⟨w_3, ew_3⟩ : ∃ z, z = upd g_ ((78 + (6 * (n - 1))) + i) 0 := ⟨_, rfl⟩
              rw [← ew_3] at hP
              have hk_4 : w_3 7 = nI (n - 1) := by rw [ew_3]; exact (if_neg (by omega)).trans hg7
              refine lv_iinc (v := nI (i + 1)) (lv' := [(2, .int (nI (i + 1))), (0, .ref (g 0)), (1, .int (nI k))]) hx hb dX8_drop_86 hl (k := 0) rfl (z_inc1 i) (by decide) rfl (fun ls hl => ?_)
              refine lv_goto (tgt := 59) hx hb dX8_drop_89 (by decide) ?_
              have e_ : w_3 = fun j => if 78 + 6 * (n - 1) ≤ j ∧ j < 78 + 6 * (n - 1) + (i + 1) then 0 else f_ j := by
                rw [ew_3, eg_]; funext j; simp only [upd]; by_cases h1 : j = 78 + 6 * (n - 1) + i
                · subst h1; rw [if_pos rfl, if_pos (by omega)]
                · rw [if_neg h1]; by_cases h2 : 78 + 6 * (n - 1) ≤ j ∧ j < 78 + 6 * (n - 1) + i
                  · rw [if_pos h2, if_pos (by omega)]
                  · rw [if_neg h2, if_neg (by omega)]
              exact ih (i + 1) w_3 H locs ls (by omega) (by omega) hk_4 e_ hP hS (lv_sub hl [0, 1, 2] rfl)
        exact L_59 (6 + 1) 0 f_ H locs ls (by omega) (by omega) hf7 (by funext j; rw [if_neg (by omega)]) hP hS (lv_sub hl [0, 1, 2] rfl)
      · refine lv_aload_n hx hb dX8_drop_36 rfl (lv_at hl 1 rfl) ?_
        refine zm_get 0 (.ref (g 1)) hx hb hts (fun x h => List.mem_cons_of_mem _ (hU_X8 x h)) hown hE hP (by decide) rfl (hts _ (List.mem_cons_of_mem _ uM_5)) (fun _ h9 => h9) dX8_drop_37 ?_
        refine lv_iload_n hx hb dX8_drop_40 rfl (lv_at hl 0 rfl) ?_
        refine lv_aload_n hx hb dX8_drop_41 rfl (lv_at hl 1 rfl) ?_
        refine zm_get 0 (.ref (g 1)) hx hb hts (fun x h => List.mem_cons_of_mem _ (hU_X8 x h)) hown hE hP (by decide) rfl (hts _ (List.mem_cons_of_mem _ uM_5)) (fun _ h9 => h9) dX8_drop_42 ?_
        refine lv_iload_n hx hb dX8_drop_45 rfl (lv_at hl 0 rfl) ?_
        refine lv_bipush (v := 6) hx hb dX8_drop_46 (by decide +kernel) ?_
        refine lv_iadd hx hb dX8_drop_48 ?_
        refine zt_i (z_add (a := i) (b := 6) (by first | rfl | omega)) ?_
        refine z_iald (k := i + 6) hx hb hE hP 1 (zm_c1 V g f_ pa be av sl sv pd cd st le ap pl wy) (by omega) (by decide) dX8_drop_49 ?_
        refine zm_a1 i (f_ (i + 6)) hx hb hE hP hJ hS (by omega) dX8_drop_50 (fun H locs hP hS => ?_)
        obtain ⟨w_5, ew_5⟩ : ∃ z, z = upd f_ i (f_ (i + 6)) := ⟨_, rfl⟩
        rw [← ew_5] at hP
        have hk_6 : w_5 7 = nI (n - 1) := by rw [ew_5]; exact (if_neg (by omega)).trans hf7
        refine lv_iinc (v := nI (i + 1)) (lv' := [(2, .int (nI (i + 1))), (0, .ref (g 0)), (1, .int (nI k))]) hx hb dX8_drop_51 hl (k := 0) rfl (z_inc1 i) (by decide) rfl (fun ls hl => ?_)
        refine lv_goto (tgt := 19) hx hb dX8_drop_54 (by decide) ?_
        have e_ : w_5 = fun j => if 78 + 6 * k ≤ j ∧ j < i + 1 then w (j + 6) else w_1 j := by
          rw [ew_5, ef_]; funext j; simp only [upd]; by_cases h1 : j = i
          · subst h1; rw [if_pos rfl, if_neg (by omega), if_pos (by omega), ew_1]; exact if_neg (by omega)
          · rw [if_neg h1]; by_cases h2 : 78 + 6 * k ≤ j ∧ j < i
            · rw [if_pos h2, if_pos (by omega)]
            · rw [if_neg h2, if_neg (by omega)]
        exact ih (i + 1) w_5 H locs ls (by omega) (by omega) (by omega) hk_6 e_ hP hS (lv_sub hl [0, 1, 2] rfl)
  exact L_19 ((78 + 6 * (n - 1)) + 1) (78 + 6 * k) w_1 H locs ls (by omega) (by omega) (by omega) hk_2 (by funext j; rw [if_neg (by omega)]) hP hS (lv_sub hl [0, 1, 2] rfl)
set_option maxHeartbeats 4000000 in
set_option maxRecDepth 100000 in
theorem c_X8_note (l : Launch) (V : zV) (g : Nat → Nat) (w pa be av sl sv pd cd : Nat → Int32) (st le ap pl wy : Int32) (a b c_ : Int32) (hJ : zInj 9 g) : Met l yX8_note wsX8_note (zR 0 0 0) (zPc V [.ref (g 0), .int a, .int b, .int c_] (fun H => va_P V.1 vwCl (zmW V g w pa be av sl sv pd cd st le ap pl wy) H)) (zQv (fun H => va_P V.1 vwCl (zmW V g (mNote w a b c_) pa be av sl sv pd cd st le ap pl wy) H) (zIn 9 g)) 0 0 (zIn 9 g) := by
  refine Met.ofW (cc := cX8_note) (maxL := 5) (ret := none) (by decide) rfl ?_
  intro p e s m args below meth c s₁ B hml hv
  obtain ⟨rfl, hP, hE⟩ := hv
  have hx := B.exec
  have hb := B.bytes
  have hr := B.returns
  have hts := atoms_spec (ws := wsX8_note) B.pre
  have hown : s.vm.findClass RX8 = some m.cls := findClass_of_methodNamed B.named
  have hlocks := B.notSynchronized
  have hl := lv_entry ([.ref (g 0), .int a, .int b, .int c_]) (n := 5) (Nat.le_of_ble_eq_true rfl)
  rw [lg_entry_eq]
  generalize (lg_sl ([.ref (g 0), .int a, .int b, .int c_]) ++ List.replicate (5 - (lg_sl ([.ref (g 0), .int a, .int b, .int c_])).length) Slot.unset).toArray = ls at hl ⊢
  have hl : lv_has ls 5 [(0, .ref (g 0)), (1, .int a), (2, .int b), (3, .int c_)] := hl
  have hS : va_S (zIn 9 g) s.heap s.heap [] := va_S.rf
  refine lv_bipush (v := 77) hx hb dX8_note_0 (by decide +kernel) ?_
  refine lv_istore (lv' := [(4, .int 77), (0, .ref (g 0)), (1, .int a), (2, .int b), (3, .int c_)]) hx hb dX8_note_2 hl (by decide) rfl (fun ls hl => ?_)
  have L_4 : ∀ (n_ i : Nat) (f_ : Nat → Int32) (H : Heap) (locs : List Loc) (ls : Array Slot), i ≤ 57 → 57 + 1 ≤ i + n_ → (f_ = fun j => if 77 - i < j ∧ j ≤ 77 then w (j - 3) else w j) → va_P V.1 vwCl (zmW V g f_ pa be av sl sv pd cd st le ap pl wy) H → va_S (zIn 9 g) s.heap H locs → lv_has ls 5 [(4, .int (nI (77 - i))), (0, .ref (g 0)), (1, .int a), (2, .int b), (3, .int c_)] → W p l e (headSpec wsX8_note (zR 0 0 0)).room s m (List.toArray [.ref (g 0), .int a, .int b, .int c_]) below meth c H locs 0 0 (MQ below (zQv (fun H => va_P V.1 vwCl (zmW V g (mNote w a b c_) pa be av sl sv pd cd st le ap pl wy) H) (zIn 9 g)) (List.toArray [.ref (g 0), .int a, .int b, .int c_]) s 0 0 (zIn 9 g)) (F0 m 4 ls []) := by
    intro n_
    induction n_ with
    | zero => intro i f_ H locs ls hi_ hn_; exact absurd hn_ (by omega)
    | succ n_ ih =>
      intro i f_ H locs ls hi_ hn_ ef_ hP hS hl
      refine lv_iload hx hb dX8_note_4 (lv_at hl 0 rfl) ?_
      refine lv_bipush (v := 21) hx hb dX8_note_6 (by decide +kernel) ?_
      refine zb_lt (x := 77 - i) (y := 21) (tgt := 33) hx hb dX8_note_8 (by decide) (by omega) (by omega) (fun c_8 => ?_) (fun c_8 => ?_)
      · have hsh : f_ = mShift w := by rw [ef_, show i = 57 by omega]; rfl
        refine lv_aload_n hx hb dX8_note_33 rfl (lv_at hl 1 rfl) ?_
        refine zm_get 0 (.ref (g 1)) hx hb hts (fun x h => List.mem_cons_of_mem _ (hU_X8 x h)) hown hE hP (by decide) rfl (hts _ (List.mem_cons_of_mem _ uM_5)) (fun _ h9 => h9) dX8_note_34 ?_
        refine lv_bipush (v := 18) hx hb dX8_note_37 (by decide +kernel) ?_
        refine lv_iload_n hx hb dX8_note_39 rfl (lv_at hl 2 rfl) ?_
        refine zm_a1 18 a hx hb hE hP hJ hS (by omega) dX8_note_40 (fun H locs hP hS => ?_)
        obtain ⟨w_1, ew_1⟩ : ∃ z, z = upd f_ 18 a := ⟨_, rfl⟩
        rw [← ew_1] at hP
        refine lv_aload_n hx hb dX8_note_41 rfl (lv_at hl 1 rfl) ?_
        refine zm_get 0 (.ref (g 1)) hx hb hts (fun x h => List.mem_cons_of_mem _ (hU_X8 x h)) hown hE hP (by decide) rfl (hts _ (List.mem_cons_of_mem _ uM_5)) (fun _ h9 => h9) dX8_note_42 ?_
        refine lv_bipush (v := 19) hx hb dX8_note_45 (by decide +kernel) ?_
        refine lv_iload_n hx hb dX8_note_47 rfl (lv_at hl 3 rfl) ?_
        refine zm_a1 19 b hx hb hE hP hJ hS (by omega) dX8_note_48 (fun H locs hP hS => ?_)
        obtain ⟨w_2, ew_2⟩ : ∃ z, z = upd w_1 19 b := ⟨_, rfl⟩
        rw [← ew_2] at hP
        refine lv_aload_n hx hb dX8_note_49 rfl (lv_at hl 1 rfl) ?_
        refine zm_get 0 (.ref (g 1)) hx hb hts (fun x h => List.mem_cons_of_mem _ (hU_X8 x h)) hown hE hP (by decide) rfl (hts _ (List.mem_cons_of_mem _ uM_5)) (fun _ h9 => h9) dX8_note_50 ?_
        refine lv_bipush (v := 20) hx hb dX8_note_53 (by decide +kernel) ?_
        refine lv_iload_n hx hb dX8_note_55 rfl (lv_at hl 4 rfl) ?_
        refine zm_a1 20 c_ hx hb hE hP hJ hS (by omega) dX8_note_56 (fun H locs hP hS => ?_)
        obtain ⟨w_3, ew_3⟩ : ∃ z, z = upd w_2 20 c_ := ⟨_, rfl⟩
        rw [← ew_3] at hP
        refine lv_aload_n hx hb dX8_note_57 rfl (lv_at hl 1 rfl) ?_
        refine zm_get 0 (.ref (g 1)) hx hb hts (fun x h => List.mem_cons_of_mem _ (hU_X8 x h)) hown hE hP (by decide) rfl (hts _ (List.mem_cons_of_mem _ uM_5)) (fun _ h9 => h9) dX8_note_58 ?_
        refine lv_bipush (v := 17) hx hb dX8_note_61 (by decide +kernel) ?_
        refine lv_dup2_11 hx hb dX8_note_63 rfl rfl ?_
        refine z_iald (k := 17) hx hb hE hP 1 (zm_c1 V g w_3 pa be av sl sv pd cd st le ap pl wy) (by omega) (by decide) dX8_note_64 ?_
        refine lv_aload_n hx hb dX8_note_65 rfl (lv_at hl 1 rfl) ?_
        refine zm_get 0 (.ref (g 1)) hx hb hts (fun x h => List.mem_cons_of_mem _ (hU_X8 x h)) hown hE hP (by decide) rfl (hts _ (List.mem_cons_of_mem _ uM_5)) (fun _ h9 => h9) dX8_note_66 ?_
        refine lv_bipush (v := 17) hx hb dX8_note_69 (by decide +kernel) ?_
        refine z_iald (k := 17) hx hb hE hP 1 (zm_c1 V g w_3 pa be av sl sv pd cd st le ap pl wy) (by omega) (by decide) dX8_note_71 ?_
        refine lv_bipush (v := 20) hx hb dX8_note_72 (by decide +kernel) ?_
        refine lv_icmp_ge (tgt := 81) hx hb dX8_note_74 (by decide) (fun c_74 => ?_) (fun c_74 => ?_)
        · refine lv_iconst (v := 0) hx hb dX8_note_81 (by decide +kernel) ?_
          refine lv_iadd hx hb dX8_note_82 ?_
          refine zm_a1 17 ((w_3 17) + 0) hx hb hE hP hJ hS (by omega) dX8_note_83 (fun H locs hP hS => ?_)
          obtain ⟨w_4, ew_4⟩ : ∃ z, z = upd w_3 17 ((w_3 17) + 0) := ⟨_, rfl⟩
          rw [← ew_4] at hP
          exact zr_v hx hb hr hlocks hS (by rw [show mNote w a b c_ = upd w_3 17 (w_3 17 + (if w_3 17 < 20 then 1 else 0)) from (by rw [ew_3, ew_2, ew_1, hsh]; rfl)]; first | (rw [if_neg (z_le' c_74), ← ew_4]; exact hP) | (rw [if_pos (z_nle c_74), ← ew_4]; exact hP)) dX8_note_84
        · refine lv_iconst (v := 1) hx hb dX8_note_77 (by decide +kernel) ?_
          refine lv_goto (tgt := 82) hx hb dX8_note_78 (by decide) ?_
          refine lv_iadd hx hb dX8_note_82 ?_
          refine zm_a1 17 ((w_3 17) + 1) hx hb hE hP hJ hS (by omega) dX8_note_83 (fun H locs hP hS => ?_)
          obtain ⟨w_5, ew_5⟩ : ∃ z, z = upd w_3 17 ((w_3 17) + 1) := ⟨_, rfl⟩
          rw [← ew_5] at hP
          exact zr_v hx hb hr hlocks hS (by rw [show mNote w a b c_ = upd w_3 17 (w_3 17 + (if w_3 17 < 20 then 1 else 0)) from (by rw [ew_3, ew_2, ew_1, hsh]; rfl)]; first | (rw [if_neg (z_le' c_74), ← ew_5]; exact hP) | (rw [if_pos (z_nle c_74), ← ew_5]; exact hP)) dX8_note_84
      · refine lv_aload_n hx hb dX8_note_11 rfl (lv_at hl 1 rfl) ?_
        refine zm_get 0 (.ref (g 1)) hx hb hts (fun x h => List.mem_cons_of_mem _ (hU_X8 x h)) hown hE hP (by decide) rfl (hts _ (List.mem_cons_of_mem _ uM_5)) (fun _ h9 => h9) dX8_note_12 ?_
        refine lv_iload hx hb dX8_note_15 (lv_at hl 0 rfl) ?_
        refine lv_aload_n hx hb dX8_note_17 rfl (lv_at hl 1 rfl) ?_
        refine zm_get 0 (.ref (g 1)) hx hb hts (fun x h => List.mem_cons_of_mem _ (hU_X8 x h)) hown hE hP (by decide) rfl (hts _ (List.mem_cons_of_mem _ uM_5)) (fun _ h9 => h9) dX8_note_18 ?_
        refine lv_iload hx hb dX8_note_21 (lv_at hl 0 rfl) ?_
        refine lv_iconst (v := 3) hx hb dX8_note_23 (by decide +kernel) ?_
        refine lv_isub hx hb dX8_note_24 ?_
        refine zt_i (z_sub (a := 77 - i) (b := 3) (by omega) (by first | rfl | omega)) ?_
        refine z_iald (k := (77 - i) - 3) hx hb hE hP 1 (zm_c1 V g f_ pa be av sl sv pd cd st le ap pl wy) (by omega) (by decide) dX8_note_25 ?_
        refine zm_a1 (77 - i) (f_ ((77 - i) - 3)) hx hb hE hP hJ hS (by omega) dX8_note_26 (fun H locs hP hS => ?_)
        obtain ⟨w_6, ew_6⟩ : ∃ z, z = upd f_ (77 - i) (f_ ((77 - i) - 3)) := ⟨_, rfl⟩
        rw [← ew_6] at hP
        refine lv_iinc (v := nI ((77 - i) - 1)) (lv' := [(4, .int (nI ((77 - i) - 1))), (0, .ref (g 0)), (1, .int a), (2, .int b), (3, .int c_)]) hx hb dX8_note_27 hl (k := 0) rfl (z_dec1 (by omega)) (by decide) rfl (fun ls hl => ?_)
        refine lv_goto (tgt := 4) hx hb dX8_note_30 (by decide) ?_
        rw [show 77 - i - 1 = 77 - (i + 1) by omega] at hl
        have e_ : w_6 = fun j => if 77 - (i + 1) < j ∧ j ≤ 77 then w (j - 3) else w j := by
          rw [ew_6, ef_]; funext j; simp only [upd]; by_cases h1 : j = 77 - i
          · subst h1; rw [if_pos rfl, if_neg (by omega), if_pos (by omega)]
          · rw [if_neg h1]; by_cases h2 : 77 - i < j ∧ j ≤ 77
            · rw [if_pos h2, if_pos (by omega)]
            · rw [if_neg h2, if_neg (by omega)]
        exact ih (i + 1) w_6 H locs ls (by omega) (by omega) e_ hP hS (lv_sub hl [0, 1, 2, 3, 4] rfl)
  exact L_4 (57 + 1) 0 w s.heap [] ls (by omega) (by omega) (by funext j; rw [if_neg (by omega)]) hP hS (lv_sub hl [0, 1, 2, 3, 4] rfl)
set_option maxHeartbeats 4000000 in
set_option maxRecDepth 100000 in
theorem c_X8_look (l : Launch) (V : zV) (g : Nat → Nat) (w pa be av sl sv pd cd : Nat → Int32) (st le ap pl wy : Int32) (n : Nat) (hJ : zInj 9 g) (hok : mOK w n) (hpos : 0 < n) : Met l yX8_look wsX8_look (zR 3 0 0) (zPc V [.ref (g 0)] (fun H => va_P V.1 vwCl (zmW V g w pa be av sl sv pd cd st le ap pl wy) H)) (zQv (fun H => va_P V.1 vwCl (zmW V g w pa be av sl sv pd cd st le ap (zoI (mLook w n).2) ((mLook w n).1)) H) (zIn 9 g)) 0 0 (zIn 9 g) := by
  refine Met.ofW (cc := cX8_look) (maxL := 2) (ret := none) (by decide) rfl ?_
  intro p e s m args below meth c s₁ B hml hv
  obtain ⟨rfl, hP, hE⟩ := hv
  have hx := B.exec
  have hb := B.bytes
  have hr := B.returns
  have hts := atoms_spec (ws := wsX8_look) B.pre
  have hown : s.vm.findClass RX8 = some m.cls := findClass_of_methodNamed B.named
  have hlocks := B.notSynchronized
  have hl := lv_entry ([.ref (g 0)]) (n := 2) (Nat.le_of_ble_eq_true rfl)
  rw [lg_entry_eq]
  generalize (lg_sl ([.ref (g 0)]) ++ List.replicate (2 - (lg_sl ([.ref (g 0)])).length) Slot.unset).toArray = ls at hl ⊢
  have hl : lv_has ls 2 [(0, .ref (g 0))] := hl
  have hS : va_S (zIn 9 g) s.heap s.heap [] := va_S.rf
  have hok0 : mOK w n := hok
  obtain ⟨hn, h30, hwr, hfd⟩ := hok
  have J_51 : ∀ (q : Option Nat) (ls : Array Slot), True → (q = if ¬ w 16 = 2 ∧ w 14 < w 2 then mLow w n (w 16) (w 9) else none) → lv_has ls 2 [(0, .ref (g 0))] → W p l e (headSpec wsX8_look (zR 3 0 0)).room s m (List.toArray [.ref (g 0)]) below meth c s.heap [] 0 0 (MQ below (zQv (fun H => va_P V.1 vwCl (zmW V g w pa be av sl sv pd cd st le ap (zoI (mLook w n).2) ((mLook w n).1)) H) (zIn 9 g)) (List.toArray [.ref (g 0)]) s 0 0 (zIn 9 g)) (F0 m 51 ls [.int (zoI q), .ref (g 0)]) := by
    intro q  ls _ hq0  hl
    rcases hqq : q with _ | k
    · refine zt_i (y := (-6)) (by first | rfl | exact congrArg zoI hqq) ?_
      refine zm_put (st' := st) (le' := le) (ap' := ap) (pl' := (-6)) (wy' := wy) 11 (-6) hx hb hts (fun x h => List.mem_cons_of_mem _ (hU_X8 x h)) hown hE hP hJ hS (by decide) rfl rfl (by decide +kernel) (hts _ (List.mem_cons_of_mem _ uM_48)) (fun _ h9 => h9) dX8_look_51 (fun H locs hP hS => ?_)
      refine lv_aload_n hx hb dX8_look_54 rfl (lv_at hl 0 rfl) ?_
      refine lv_iconst (v := 0) hx hb dX8_look_55 (by decide +kernel) ?_
      refine zm_put (st' := st) (le' := le) (ap' := ap) (pl' := (-6)) (wy' := 0) 12 0 hx hb hts (fun x h => List.mem_cons_of_mem _ (hU_X8 x h)) hown hE hP hJ hS (by decide) rfl rfl (by decide +kernel) (hts _ (List.mem_cons_of_mem _ uM_49)) (fun _ h9 => h9) dX8_look_56 (fun H locs hP hS => ?_)
      refine lv_aload_n hx hb dX8_look_59 rfl (lv_at hl 0 rfl) ?_
      refine zm_get 11 (.int (-6)) hx hb hts (fun x h => List.mem_cons_of_mem _ (hU_X8 x h)) hown hE hP (by decide) rfl (hts _ (List.mem_cons_of_mem _ uM_48)) (fun _ h9 => h9) dX8_look_60 ?_
      refine lv_bipush (v := (-6)) hx hb dX8_look_63 (by decide +kernel) ?_
      refine lv_icmp_eq (tgt := 69) hx hb dX8_look_65 (by decide) (fun c_65 => ?_) (fun c_65 => ?_)
      · refine lv_aload_n hx hb dX8_look_69 rfl (lv_at hl 0 rfl) ?_
        refine zc_se (va_runV (As := []) (rest := []) ⟨hx, hb, hml, hown, hts⟩ (c_X8_nextSort l V g w pa be av sl sv pd cd st le ap (-6) 0 n hn h30) (cwV 0 hts (zgV_ wsM_all uM_43 uM_53 uM_54 uM_55 uM_21) rfl rfl rfl (by decide +kernel) ⟨Nat.le_of_ble_eq_true rfl, Nat.le_of_ble_eq_true rfl⟩) (zPreV (B := fun H => va_P V.1 vwCl (zmW V g w pa be av sl sv pd cd st le ap (-6) 0) H) hP hE (va_recv hE.1 hP (ci := 8) (q0 := 0) (q := (RX8, TX8, 13)) rfl (zm_c0 V g w pa be av sl sv pd cd st le ap (-6) 0))) rfl rfl hl.1 rfl (lv_room (Nat.le_of_ble_eq_true rfl)) dX8_look_70 ⟨Nat.le_of_ble_eq_true rfl, Nat.le_of_ble_eq_true rfl⟩) ?_
        refine lv_istore_n (lv' := [(1, .int (mNext w n)), (0, .ref (g 0))]) hx hb dX8_look_73 rfl hl (by decide) rfl (fun ls hl => ?_)
        refine lv_aload_n hx hb dX8_look_74 rfl (lv_at hl 1 rfl) ?_
        refine lv_aload_n hx hb dX8_look_75 rfl (lv_at hl 1 rfl) ?_
        refine lv_iload_n hx hb dX8_look_76 rfl (lv_at hl 0 rfl) ?_
        refine zc_se (va_runV (As := [.int (mNext w n)]) (rest := [.ref (g 0)]) ⟨hx, hb, hml, hown, hts⟩ (c_X8_oldest l V g w pa be av sl sv pd cd st le ap (-6) 0 n (mNext w n) hn h30) (cwV 1 hts (zgV_ wsM_all uM_41 uM_56 uM_57 uM_58 uM_21) rfl rfl rfl (by decide +kernel) ⟨Nat.le_of_ble_eq_true rfl, Nat.le_of_ble_eq_true rfl⟩) (zPreV (B := fun H => va_P V.1 vwCl (zmW V g w pa be av sl sv pd cd st le ap (-6) 0) H) hP hE (va_recv hE.1 hP (ci := 8) (q0 := 0) (q := (RX8, TX8, 13)) rfl (zm_c0 V g w pa be av sl sv pd cd st le ap (-6) 0))) rfl rfl hl.1 rfl (lv_room (Nat.le_of_ble_eq_true rfl)) dX8_look_77 ⟨Nat.le_of_ble_eq_true rfl, Nat.le_of_ble_eq_true rfl⟩) ?_
        obtain ⟨k, hkn, hk1, hko⟩ := mOld_some hpos hwr
        refine zt_i (y := nI k) (by first | rfl | exact congrArg zoI hko) ?_
        refine zm_put (st' := st) (le' := le) (ap' := ap) (pl' := nI k) (wy' := 0) 11 (nI k) hx hb hts (fun x h => List.mem_cons_of_mem _ (hU_X8 x h)) hown hE hP hJ hS (by decide) rfl rfl (by decide +kernel) (hts _ (List.mem_cons_of_mem _ uM_48)) (fun _ h9 => h9) dX8_look_80 (fun H locs hP hS => ?_)
        refine lv_aload_n hx hb dX8_look_83 rfl (lv_at hl 1 rfl) ?_
        refine lv_iconst (v := 1) hx hb dX8_look_84 (by decide +kernel) ?_
        refine zm_put (st' := st) (le' := le) (ap' := ap) (pl' := nI k) (wy' := 1) 12 1 hx hb hts (fun x h => List.mem_cons_of_mem _ (hU_X8 x h)) hown hE hP hJ hS (by decide) rfl rfl (by decide +kernel) (hts _ (List.mem_cons_of_mem _ uM_49)) (fun _ h9 => h9) dX8_look_85 (fun H locs hP hS => ?_)
        refine lv_aload_n hx hb dX8_look_88 rfl (lv_at hl 1 rfl) ?_
        refine lv_aload_n hx hb dX8_look_89 rfl (lv_at hl 1 rfl) ?_
        refine zm_get 11 (.int (nI k)) hx hb hts (fun x h => List.mem_cons_of_mem _ (hU_X8 x h)) hown hE hP (by decide) rfl (hts _ (List.mem_cons_of_mem _ uM_48)) (fun _ h9 => h9) dX8_look_90 ?_
        refine zc_se (va_runV (As := [.int (nI k)]) (rest := []) ⟨hx, hb, hml, hown, hts⟩ (c_X8_isOld l V g w pa be av sl sv pd cd st le ap (nI k) 1 k (by omega) (hwr k (by omega))) (cwV 1 hts (zgV_ wsM_all uM_42 uM_59 uM_60 uM_61 uM_21) rfl rfl rfl (by decide +kernel) ⟨Nat.le_of_ble_eq_true rfl, Nat.le_of_ble_eq_true rfl⟩) (zPreV (B := fun H => va_P V.1 vwCl (zmW V g w pa be av sl sv pd cd st le ap (nI k) 1) H) hP hE (va_recv hE.1 hP (ci := 8) (q0 := 0) (q := (RX8, TX8, 13)) rfl (zm_c0 V g w pa be av sl sv pd cd st le ap (nI k) 1))) rfl rfl hl.1 rfl (lv_room (Nat.le_of_ble_eq_true rfl)) dX8_look_93 ⟨Nat.le_of_ble_eq_true rfl, Nat.le_of_ble_eq_true rfl⟩) ?_
        refine zbp_ne (P := w (zF w k 1).toNatClampNeg ≤ w 6 - zF w k 4) (tgt := 120) hx hb dX8_look_96 (by decide) (fun c_96 => ?_) (fun c_96 => ?_)
        · refine lv_aload_n hx hb dX8_look_120 rfl (lv_at hl 1 rfl) ?_
          refine zm_get 11 (.int (nI k)) hx hb hts (fun x h => List.mem_cons_of_mem _ (hU_X8 x h)) hown hE hP (by decide) rfl (hts _ (List.mem_cons_of_mem _ uM_48)) (fun _ h9 => h9) dX8_look_121 ?_
          refine lv_bipush (v := (-6)) hx hb dX8_look_124 (by decide +kernel) ?_
          refine lv_icmp_ne (tgt := 144) hx hb dX8_look_126 (by decide) (fun c_126 => ?_) (fun c_126 => ?_)
          · exact zr_v hx hb hr hlocks hS (by have hlk : mLook w n = (1, some k) := (by unfold mLook; rw [← hq0, hqq]; simp only [hko]; rw [if_pos c_96]); rw [hlk]; exact hP) dX8_look_144
          · exact absurd c_126 (z_n6 (by omega))
        · refine lv_aload_n hx hb dX8_look_99 rfl (lv_at hl 1 rfl) ?_
          refine lv_aload_n hx hb dX8_look_100 rfl (lv_at hl 1 rfl) ?_
          refine lv_iload_n hx hb dX8_look_101 rfl (lv_at hl 0 rfl) ?_
          refine lv_aload_n hx hb dX8_look_102 rfl (lv_at hl 1 rfl) ?_
          refine zm_get 0 (.ref (g 1)) hx hb hts (fun x h => List.mem_cons_of_mem _ (hU_X8 x h)) hown hE hP (by decide) rfl (hts _ (List.mem_cons_of_mem _ uM_5)) (fun _ h9 => h9) dX8_look_103 ?_
          refine lv_bipush (v := 9) hx hb dX8_look_106 (by decide +kernel) ?_
          refine z_iald (k := 9) hx hb hE hP 1 (zm_c1 V g w pa be av sl sv pd cd st le ap (nI k) 1) (by omega) (by decide) dX8_look_108 ?_
          refine zc_se (va_runV (As := [.int (mNext w n), .int (w 9)]) (rest := [.ref (g 0)]) ⟨hx, hb, hml, hown, hts⟩ (c_X8_lowest l V g w pa be av sl sv pd cd st le ap (nI k) 1 n (mNext w n) (w 9) hn h30) (cwV 2 hts (zgV_ wsM_all uM_40 uM_50 uM_51 uM_52 uM_21) rfl rfl rfl (by decide +kernel) ⟨Nat.le_of_ble_eq_true rfl, Nat.le_of_ble_eq_true rfl⟩) (zPreV (B := fun H => va_P V.1 vwCl (zmW V g w pa be av sl sv pd cd st le ap (nI k) 1) H) hP hE (va_recv hE.1 hP (ci := 8) (q0 := 0) (q := (RX8, TX8, 13)) rfl (zm_c0 V g w pa be av sl sv pd cd st le ap (nI k) 1))) rfl rfl hl.1 rfl (lv_room (Nat.le_of_ble_eq_true rfl)) dX8_look_109 ⟨Nat.le_of_ble_eq_true rfl, Nat.le_of_ble_eq_true rfl⟩) ?_
          rcases hl2 : mLow w n (mNext w n) (w 9) with _ | j
          · refine zt_i (y := (-6)) (by first | rfl | exact congrArg zoI hl2) ?_
            refine zm_put (st' := st) (le' := le) (ap' := ap) (pl' := (-6)) (wy' := 1) 11 (-6) hx hb hts (fun x h => List.mem_cons_of_mem _ (hU_X8 x h)) hown hE hP hJ hS (by decide) rfl rfl (by decide +kernel) (hts _ (List.mem_cons_of_mem _ uM_48)) (fun _ h9 => h9) dX8_look_112 (fun H locs hP hS => ?_)
            refine lv_aload_n hx hb dX8_look_115 rfl (lv_at hl 1 rfl) ?_
            refine lv_iconst (v := 2) hx hb dX8_look_116 (by decide +kernel) ?_
            refine zm_put (st' := st) (le' := le) (ap' := ap) (pl' := (-6)) (wy' := 2) 12 2 hx hb hts (fun x h => List.mem_cons_of_mem _ (hU_X8 x h)) hown hE hP hJ hS (by decide) rfl rfl (by decide +kernel) (hts _ (List.mem_cons_of_mem _ uM_49)) (fun _ h9 => h9) dX8_look_117 (fun H locs hP hS => ?_)
            refine lv_aload_n hx hb dX8_look_120 rfl (lv_at hl 1 rfl) ?_
            refine zm_get 11 (.int (-6)) hx hb hts (fun x h => List.mem_cons_of_mem _ (hU_X8 x h)) hown hE hP (by decide) rfl (hts _ (List.mem_cons_of_mem _ uM_48)) (fun _ h9 => h9) dX8_look_121 ?_
            refine lv_bipush (v := (-6)) hx hb dX8_look_124 (by decide +kernel) ?_
            refine lv_icmp_ne (tgt := 144) hx hb dX8_look_126 (by decide) (fun c_126 => ?_) (fun c_126 => ?_)
            · exact absurd rfl c_126
            · refine lv_aload_n hx hb dX8_look_129 rfl (lv_at hl 1 rfl) ?_
              refine lv_aload_n hx hb dX8_look_130 rfl (lv_at hl 1 rfl) ?_
              refine lv_iload_n hx hb dX8_look_131 rfl (lv_at hl 0 rfl) ?_
              refine lv_iconst (v := 0) hx hb dX8_look_132 (by decide +kernel) ?_
              refine zc_se (va_runV (As := [.int (mNext w n), .int 0]) (rest := [.ref (g 0)]) ⟨hx, hb, hml, hown, hts⟩ (c_X8_lowest l V g w pa be av sl sv pd cd st le ap (-6) 2 n (mNext w n) 0 hn h30) (cwV 2 hts (zgV_ wsM_all uM_40 uM_50 uM_51 uM_52 uM_21) rfl rfl rfl (by decide +kernel) ⟨Nat.le_of_ble_eq_true rfl, Nat.le_of_ble_eq_true rfl⟩) (zPreV (B := fun H => va_P V.1 vwCl (zmW V g w pa be av sl sv pd cd st le ap (-6) 2) H) hP hE (va_recv hE.1 hP (ci := 8) (q0 := 0) (q := (RX8, TX8, 13)) rfl (zm_c0 V g w pa be av sl sv pd cd st le ap (-6) 2))) rfl rfl hl.1 rfl (lv_room (Nat.le_of_ble_eq_true rfl)) dX8_look_133 ⟨Nat.le_of_ble_eq_true rfl, Nat.le_of_ble_eq_true rfl⟩) ?_
              refine zm_put (st' := st) (le' := le) (ap' := ap) (pl' := zoI (mLow w n (mNext w n) 0)) (wy' := 2) 11 (zoI (mLow w n (mNext w n) 0)) hx hb hts (fun x h => List.mem_cons_of_mem _ (hU_X8 x h)) hown hE hP hJ hS (by decide) rfl rfl (by decide +kernel) (hts _ (List.mem_cons_of_mem _ uM_48)) (fun _ h9 => h9) dX8_look_136 (fun H locs hP hS => ?_)
              refine lv_aload_n hx hb dX8_look_139 rfl (lv_at hl 1 rfl) ?_
              refine lv_iconst (v := 3) hx hb dX8_look_140 (by decide +kernel) ?_
              refine zm_put (st' := st) (le' := le) (ap' := ap) (pl' := zoI (mLow w n (mNext w n) 0)) (wy' := 3) 12 3 hx hb hts (fun x h => List.mem_cons_of_mem _ (hU_X8 x h)) hown hE hP hJ hS (by decide) rfl rfl (by decide +kernel) (hts _ (List.mem_cons_of_mem _ uM_49)) (fun _ h9 => h9) dX8_look_141 (fun H locs hP hS => ?_)
              exact zr_v hx hb hr hlocks hS (by have hlk : mLook w n = (3, mLow w n (mNext w n) 0) := (by unfold mLook; rw [← hq0, hqq]; simp only [hko]; rw [if_neg c_96]; simp only [hl2]); rw [hlk]; exact hP) dX8_look_144
          · refine zt_i (y := nI j) (by first | rfl | exact congrArg zoI hl2) ?_
            have hjn : j < n := (zBest_lt hl2).1
            refine zm_put (st' := st) (le' := le) (ap' := ap) (pl' := nI j) (wy' := 1) 11 (nI j) hx hb hts (fun x h => List.mem_cons_of_mem _ (hU_X8 x h)) hown hE hP hJ hS (by decide) rfl rfl (by decide +kernel) (hts _ (List.mem_cons_of_mem _ uM_48)) (fun _ h9 => h9) dX8_look_112 (fun H locs hP hS => ?_)
            refine lv_aload_n hx hb dX8_look_115 rfl (lv_at hl 1 rfl) ?_
            refine lv_iconst (v := 2) hx hb dX8_look_116 (by decide +kernel) ?_
            refine zm_put (st' := st) (le' := le) (ap' := ap) (pl' := nI j) (wy' := 2) 12 2 hx hb hts (fun x h => List.mem_cons_of_mem _ (hU_X8 x h)) hown hE hP hJ hS (by decide) rfl rfl (by decide +kernel) (hts _ (List.mem_cons_of_mem _ uM_49)) (fun _ h9 => h9) dX8_look_117 (fun H locs hP hS => ?_)
            refine lv_aload_n hx hb dX8_look_120 rfl (lv_at hl 1 rfl) ?_
            refine zm_get 11 (.int (nI j)) hx hb hts (fun x h => List.mem_cons_of_mem _ (hU_X8 x h)) hown hE hP (by decide) rfl (hts _ (List.mem_cons_of_mem _ uM_48)) (fun _ h9 => h9) dX8_look_121 ?_
            refine lv_bipush (v := (-6)) hx hb dX8_look_124 (by decide +kernel) ?_
            refine lv_icmp_ne (tgt := 144) hx hb dX8_look_126 (by decide) (fun c_126 => ?_) (fun c_126 => ?_)
            · exact zr_v hx hb hr hlocks hS (by have hlk : mLook w n = (2, some j) := (by unfold mLook; rw [← hq0, hqq]; simp only [hko]; rw [if_neg c_96]; simp only [hl2]); rw [hlk]; exact hP) dX8_look_144
            · exact absurd c_126 (z_n6 (by omega))
      · exact absurd rfl c_65
    · refine zt_i (y := nI k) (by first | rfl | exact congrArg zoI hqq) ?_
      have hkn : k < n := by rw [hqq] at hq0; split at hq0 <;> first | exact (zBest_lt hq0.symm).1 | cases hq0
      refine zm_put (st' := st) (le' := le) (ap' := ap) (pl' := nI k) (wy' := wy) 11 (nI k) hx hb hts (fun x h => List.mem_cons_of_mem _ (hU_X8 x h)) hown hE hP hJ hS (by decide) rfl rfl (by decide +kernel) (hts _ (List.mem_cons_of_mem _ uM_48)) (fun _ h9 => h9) dX8_look_51 (fun H locs hP hS => ?_)
      refine lv_aload_n hx hb dX8_look_54 rfl (lv_at hl 0 rfl) ?_
      refine lv_iconst (v := 0) hx hb dX8_look_55 (by decide +kernel) ?_
      refine zm_put (st' := st) (le' := le) (ap' := ap) (pl' := nI k) (wy' := 0) 12 0 hx hb hts (fun x h => List.mem_cons_of_mem _ (hU_X8 x h)) hown hE hP hJ hS (by decide) rfl rfl (by decide +kernel) (hts _ (List.mem_cons_of_mem _ uM_49)) (fun _ h9 => h9) dX8_look_56 (fun H locs hP hS => ?_)
      refine lv_aload_n hx hb dX8_look_59 rfl (lv_at hl 0 rfl) ?_
      refine zm_get 11 (.int (nI k)) hx hb hts (fun x h => List.mem_cons_of_mem _ (hU_X8 x h)) hown hE hP (by decide) rfl (hts _ (List.mem_cons_of_mem _ uM_48)) (fun _ h9 => h9) dX8_look_60 ?_
      refine lv_bipush (v := (-6)) hx hb dX8_look_63 (by decide +kernel) ?_
      refine lv_icmp_eq (tgt := 69) hx hb dX8_look_65 (by decide) (fun c_65 => ?_) (fun c_65 => ?_)
      · exact absurd c_65 (z_n6 (by omega))
      · exact zr_v hx hb hr hlocks hS (by have hlk : mLook w n = (0, some k) := (by unfold mLook; rw [← hq0, hqq]; skip); rw [hlk]; exact hP) dX8_look_68
  refine lv_aload_n hx hb dX8_look_0 rfl (lv_at hl 0 rfl) ?_
  refine lv_aload_n hx hb dX8_look_1 rfl (lv_at hl 0 rfl) ?_
  refine zm_get 0 (.ref (g 1)) hx hb hts (fun x h => List.mem_cons_of_mem _ (hU_X8 x h)) hown hE hP (by decide) rfl (hts _ (List.mem_cons_of_mem _ uM_5)) (fun _ h9 => h9) dX8_look_2 ?_
  refine lv_bipush (v := 16) hx hb dX8_look_5 (by decide +kernel) ?_
  refine z_iald (k := 16) hx hb hE hP 1 (zm_c1 V g w pa be av sl sv pd cd st le ap pl wy) (by omega) (by decide) dX8_look_7 ?_
  refine lv_iconst (v := 2) hx hb dX8_look_8 (by decide +kernel) ?_
  refine lv_icmp_eq (tgt := 49) hx hb dX8_look_9 (by decide) (fun c_9 => ?_) (fun c_9 => ?_)
  · refine lv_bipush (v := (-6)) hx hb dX8_look_49 (by decide +kernel) ?_
    exact J_51 none ls trivial ((if_neg (fun h => h.1 c_9)).symm) (lv_sub hl [0] rfl)
  · refine lv_aload_n hx hb dX8_look_12 rfl (lv_at hl 0 rfl) ?_
    refine zm_get 0 (.ref (g 1)) hx hb hts (fun x h => List.mem_cons_of_mem _ (hU_X8 x h)) hown hE hP (by decide) rfl (hts _ (List.mem_cons_of_mem _ uM_5)) (fun _ h9 => h9) dX8_look_13 ?_
    refine lv_bipush (v := 14) hx hb dX8_look_16 (by decide +kernel) ?_
    refine z_iald (k := 14) hx hb hE hP 1 (zm_c1 V g w pa be av sl sv pd cd st le ap pl wy) (by omega) (by decide) dX8_look_18 ?_
    refine lv_aload_n hx hb dX8_look_19 rfl (lv_at hl 0 rfl) ?_
    refine zm_get 0 (.ref (g 1)) hx hb hts (fun x h => List.mem_cons_of_mem _ (hU_X8 x h)) hown hE hP (by decide) rfl (hts _ (List.mem_cons_of_mem _ uM_5)) (fun _ h9 => h9) dX8_look_20 ?_
    refine lv_iconst (v := 2) hx hb dX8_look_23 (by decide +kernel) ?_
    refine z_iald (k := 2) hx hb hE hP 1 (zm_c1 V g w pa be av sl sv pd cd st le ap pl wy) (by omega) (by decide) dX8_look_24 ?_
    refine lv_icmp_ge (tgt := 49) hx hb dX8_look_25 (by decide) (fun c_25 => ?_) (fun c_25 => ?_)
    · refine lv_bipush (v := (-6)) hx hb dX8_look_49 (by decide +kernel) ?_
      exact J_51 none ls trivial ((if_neg (fun h => z_le' c_25 h.2)).symm) (lv_sub hl [0] rfl)
    · refine lv_aload_n hx hb dX8_look_28 rfl (lv_at hl 0 rfl) ?_
      refine lv_aload_n hx hb dX8_look_29 rfl (lv_at hl 0 rfl) ?_
      refine zm_get 0 (.ref (g 1)) hx hb hts (fun x h => List.mem_cons_of_mem _ (hU_X8 x h)) hown hE hP (by decide) rfl (hts _ (List.mem_cons_of_mem _ uM_5)) (fun _ h9 => h9) dX8_look_30 ?_
      refine lv_bipush (v := 16) hx hb dX8_look_33 (by decide +kernel) ?_
      refine z_iald (k := 16) hx hb hE hP 1 (zm_c1 V g w pa be av sl sv pd cd st le ap pl wy) (by omega) (by decide) dX8_look_35 ?_
      refine lv_aload_n hx hb dX8_look_36 rfl (lv_at hl 0 rfl) ?_
      refine zm_get 0 (.ref (g 1)) hx hb hts (fun x h => List.mem_cons_of_mem _ (hU_X8 x h)) hown hE hP (by decide) rfl (hts _ (List.mem_cons_of_mem _ uM_5)) (fun _ h9 => h9) dX8_look_37 ?_
      refine lv_bipush (v := 9) hx hb dX8_look_40 (by decide +kernel) ?_
      refine z_iald (k := 9) hx hb hE hP 1 (zm_c1 V g w pa be av sl sv pd cd st le ap pl wy) (by omega) (by decide) dX8_look_42 ?_
      refine zc_se (va_runV (As := [.int (w 16), .int (w 9)]) (rest := [.ref (g 0)]) ⟨hx, hb, hml, hown, hts⟩ (c_X8_lowest l V g w pa be av sl sv pd cd st le ap pl wy n (w 16) (w 9) hn h30) (cwV 2 hts (zgV_ wsM_all uM_40 uM_50 uM_51 uM_52 uM_21) rfl rfl rfl (by decide +kernel) ⟨Nat.le_of_ble_eq_true rfl, Nat.le_of_ble_eq_true rfl⟩) (zPreV (B := fun H => va_P V.1 vwCl (zmW V g w pa be av sl sv pd cd st le ap pl wy) H) hP hE (va_recv hE.1 hP (ci := 8) (q0 := 0) (q := (RX8, TX8, 13)) rfl (zm_c0 V g w pa be av sl sv pd cd st le ap pl wy))) rfl rfl hl.1 rfl (lv_room (Nat.le_of_ble_eq_true rfl)) dX8_look_43 ⟨Nat.le_of_ble_eq_true rfl, Nat.le_of_ble_eq_true rfl⟩) ?_
      refine lv_goto (tgt := 51) hx hb dX8_look_46 (by decide) ?_
      exact J_51 _ ls trivial (by rw [if_pos ⟨c_9, z_nle c_25⟩]) (lv_sub hl [0] rfl)
def mBegin (w : Nat → Int32) (n : Nat) (why so : Int32) : Nat → Int32 := if why ≤ 0 then w else upd (upd (upd (upd w 15 (if so = 1 then 0 else w 15 + (if 0 < mMany w n 1 then 1 else 0))) 13 (upd w 15 (if so = 1 then 0 else w 15 + (if 0 < mMany w n 1 then 1 else 0)) 13 + 1)) 14 0) 16 so
def mMid (w : Nat → Int32) (k : Nat) : Nat → Int32 := upd w 14 (w 14 + 1)
def mEnd (w : Nat → Int32) (k : Nat) (so : Int32) : Nat → Int32 :=
  let w1 := upd w 14 (w 14 + 1)
  let w2 := upd w1 12 (w1 12 + mFar (zF w1 k 2) (w1 9))
  let w3 := upd w2 9 (if mLast w2 k < 99 then mLast w2 k + 1 else 99)
  let w4 := upd w3 6 (mMinute w1 k)
  let w5 := upd w4 10 (w4 10 + 1)
  let w6 := upd w5 11 (if w5 11 < mMinute w1 k - zF w1 k 4 then mMinute w1 k - zF w1 k 4 else w5 11)
  mNote w6 (zF w6 k 0) (mMinute w1 k - zF w1 k 4) so
def mServe (w : Nat → Int32) (n : Nat) : Nat → Int32 :=
  let k := ((mLook w n).2).getD 0
  mDrop (mEnd (mBegin w n (mLook w n).1 (zF w k 1)) k (zF w k 1)) n k
theorem mNote_lo (w : Nat → Int32) (a b c : Int32) {j : Nat} (h : j < 17) : mNote w a b c j = w j := by
  unfold mNote mShift
  simp only [upd]
  rw [if_neg (by omega), if_neg (by omega), if_neg (by omega), if_neg (by omega), if_neg (by omega)]
theorem mNote_hi (w : Nat → Int32) (a b c : Int32) {j : Nat} (h : 78 ≤ j) : mNote w a b c j = w j := by
  unfold mNote mShift
  simp only [upd]
  rw [if_neg (by omega), if_neg (by omega), if_neg (by omega), if_neg (by omega), if_neg (by omega)]
theorem mNote_7 (w : Nat → Int32) (a b c : Int32) : mNote w a b c 7 = w 7 := mNote_lo w a b c (by decide)
set_option maxHeartbeats 4000000 in
set_option maxRecDepth 100000 in
theorem c_X8_serveOne (l : Launch) (V : zV) (g : Nat → Nat) (w pa be av sl sv pd cd : Nat → Int32) (st le ap pl wy : Int32) (n : Nat) (hJ : zInj 9 g) (hok : mOK w n) (hpos : 0 < n) : Met l yX8_serveOne wsX8_serveOne (zR 4 0 0) (zPc V [.ref (g 0)] (fun H => va_P V.1 vwCl (zmW V g w pa be av sl sv pd cd st le ap pl wy) H)) (zQv (fun H => ∃ pl' : Int32, ∃ wy' : Int32, va_P V.1 vwCl (zmW V g (mServe w n) pa be av sl sv pd cd st le ap pl' wy') H) (zIn 9 g)) 0 0 (zIn 9 g) := by
  refine Met.ofW (cc := cX8_serveOne) (maxL := 4) (ret := none) (by decide) rfl ?_
  intro p e s m args below meth c s₁ B hml hv
  obtain ⟨rfl, hP, hE⟩ := hv
  have hx := B.exec
  have hb := B.bytes
  have hr := B.returns
  have hts := atoms_spec (ws := wsX8_serveOne) B.pre
  have hown : s.vm.findClass RX8 = some m.cls := findClass_of_methodNamed B.named
  have hlocks := B.notSynchronized
  have hl := lv_entry ([.ref (g 0)]) (n := 4) (Nat.le_of_ble_eq_true rfl)
  rw [lg_entry_eq]
  generalize (lg_sl ([.ref (g 0)]) ++ List.replicate (4 - (lg_sl ([.ref (g 0)])).length) Slot.unset).toArray = ls at hl ⊢
  have hl : lv_has ls 4 [(0, .ref (g 0))] := hl
  have hS : va_S (zIn 9 g) s.heap s.heap [] := va_S.rf
  obtain ⟨k, hkn, hlk⟩ := mLook_some hpos hok
  have hok0 : mOK w n := hok
  obtain ⟨hn, h30, hwr, hfd⟩ := hok
  have hmm_ : mMany w n 1 ≤ n := zCnt_le _ _
  refine lv_aload_n hx hb dX8_serveOne_0 rfl (lv_at hl 0 rfl) ?_
  refine zc_v (va_runV (As := []) (rest := []) ⟨hx, hb, hml, hown, hts⟩ (c_X8_look l V g w pa be av sl sv pd cd st le ap pl wy  n hJ hok0 hpos) (cwV 0 hts (zgV_ wsM_all uM_47 uM_68 uM_69 uM_70 uM_21) rfl rfl rfl (by decide +kernel) ⟨Nat.le_of_ble_eq_true rfl, Nat.le_of_ble_eq_true rfl⟩) (zPreV (B := fun H => va_P V.1 vwCl (zmW V g w pa be av sl sv pd cd st le ap pl wy) H) hP hE (va_recv hE.1 hP (ci := 8) (q0 := 0) (q := (RX8, TX8, 13)) rfl (zm_c0 V g w pa be av sl sv pd cd st le ap pl wy))) rfl rfl hl.1 rfl (lv_room (Nat.le_of_ble_eq_true rfl)) dX8_serveOne_1 ⟨Nat.le_of_ble_eq_true rfl, Nat.le_of_ble_eq_true rfl⟩) hS (fun _ h => h) (fun _ h => h) (fun H locs hQ_ _ _ hS => ?_)
  have hP := hQ_
  have hP : va_P V.1 vwCl (zmW V g w pa be av sl sv pd cd st le ap (nI k) ((mLook w n).1)) H := by rw [hlk] at hP; exact hP
  refine lv_aload_n hx hb dX8_serveOne_4 rfl (lv_at hl 0 rfl) ?_
  refine lv_aload_n hx hb dX8_serveOne_5 rfl (lv_at hl 0 rfl) ?_
  refine zm_get 11 (.int (nI k)) hx hb hts (fun x h => List.mem_cons_of_mem _ (hU_X8 x h)) hown hE hP (by decide) rfl (hts _ (List.mem_cons_of_mem _ uM_48)) (fun _ h9 => h9) dX8_serveOne_6 ?_
  refine lv_iconst (v := 1) hx hb dX8_serveOne_9 (by decide +kernel) ?_
  refine zc_se (va_runV (As := [.int (nI k), .int 1]) (rest := []) ⟨hx, hb, hml, hown, hts⟩ (c_X8_its l V g w pa be av sl sv pd cd st le ap (nI k) ((mLook w n).1) k 1 (by omega)) (cwV 2 hts (zgV_ wsM_all uM_16 uM_18 uM_19 uM_20 uM_21) rfl rfl rfl (by decide +kernel) ⟨Nat.le_of_ble_eq_true rfl, Nat.le_of_ble_eq_true rfl⟩) (zPreV (B := fun H => va_P V.1 vwCl (zmW V g w pa be av sl sv pd cd st le ap (nI k) ((mLook w n).1)) H) hP hE (va_recv hE.1 hP (ci := 8) (q0 := 0) (q := (RX8, TX8, 13)) rfl (zm_c0 V g w pa be av sl sv pd cd st le ap (nI k) ((mLook w n).1)))) rfl rfl hl.1 rfl (lv_room (Nat.le_of_ble_eq_true rfl)) dX8_serveOne_10 ⟨Nat.le_of_ble_eq_true rfl, Nat.le_of_ble_eq_true rfl⟩) ?_
  refine lv_istore_n (lv' := [(1, .int (zF w k 1)), (0, .ref (g 0))]) hx hb dX8_serveOne_13 rfl hl (by decide) rfl (fun ls hl => ?_)
  refine lv_aload_n hx hb dX8_serveOne_14 rfl (lv_at hl 1 rfl) ?_
  refine zm_get 12 (.int ((mLook w n).1)) hx hb hts (fun x h => List.mem_cons_of_mem _ (hU_X8 x h)) hown hE hP (by decide) rfl (hts _ (List.mem_cons_of_mem _ uM_49)) (fun _ h9 => h9) dX8_serveOne_15 ?_
  have J_85 : ∀ (f_ : Nat → Int32) (H : Heap) (locs : List Loc) (ls : Array Slot), True → (f_ 7 = nI n) → (f_ = mBegin w n (mLook w n).1 (zF w k 1)) → va_P V.1 vwCl (zmW V g f_ pa be av sl sv pd cd st le ap (nI k) ((mLook w n).1)) H → va_S (zIn 9 g) s.heap H locs → lv_has ls 4 [(0, .ref (g 0)), (1, .int (zF w k 1))] → W p l e (headSpec wsX8_serveOne (zR 4 0 0)).room s m (List.toArray [.ref (g 0)]) below meth c H locs 0 0 (MQ below (zQv (fun H => ∃ pl' : Int32, ∃ wy' : Int32, va_P V.1 vwCl (zmW V g (mServe w n) pa be av sl sv pd cd st le ap pl' wy') H) (zIn 9 g)) (List.toArray [.ref (g 0)]) s 0 0 (zIn 9 g)) (F0 m 85 ls []) := by
    intro f_ H locs ls _ hf7 ef_ hP hS hl
    refine lv_aload_n hx hb dX8_serveOne_85 rfl (lv_at hl 0 rfl) ?_
    refine zm_get 0 (.ref (g 1)) hx hb hts (fun x h => List.mem_cons_of_mem _ (hU_X8 x h)) hown hE hP (by decide) rfl (hts _ (List.mem_cons_of_mem _ uM_5)) (fun _ h9 => h9) dX8_serveOne_86 ?_
    refine lv_bipush (v := 14) hx hb dX8_serveOne_89 (by decide +kernel) ?_
    refine lv_dup2_11 hx hb dX8_serveOne_91 rfl rfl ?_
    refine z_iald (k := 14) hx hb hE hP 1 (zm_c1 V g f_ pa be av sl sv pd cd st le ap (nI k) ((mLook w n).1)) (by omega) (by decide) dX8_serveOne_92 ?_
    refine lv_iconst (v := 1) hx hb dX8_serveOne_93 (by decide +kernel) ?_
    refine lv_iadd hx hb dX8_serveOne_94 ?_
    refine zm_a1 14 ((f_ 14) + 1) hx hb hE hP hJ hS (by omega) dX8_serveOne_95 (fun H locs hP hS => ?_)
    obtain ⟨w_1, ew_1⟩ : ∃ z, z = upd f_ 14 ((f_ 14) + 1) := ⟨_, rfl⟩
    rw [← ew_1] at hP
    have hk_2 : w_1 7 = nI n := by rw [ew_1]; exact (if_neg (by omega)).trans hf7
    refine lv_aload_n hx hb dX8_serveOne_96 rfl (lv_at hl 0 rfl) ?_
    refine zc_se (va_runV (As := []) (rest := []) ⟨hx, hb, hml, hown, hts⟩ (c_X8_minute l V g w_1 pa be av sl sv pd cd st le ap (nI k) ((mLook w n).1) k (by omega) rfl) (cwV 0 hts (zgV_ wsM_all uM_62 uM_71 uM_72 uM_73 uM_21) rfl rfl rfl (by decide +kernel) ⟨Nat.le_of_ble_eq_true rfl, Nat.le_of_ble_eq_true rfl⟩) (zPreV (B := fun H => va_P V.1 vwCl (zmW V g w_1 pa be av sl sv pd cd st le ap (nI k) ((mLook w n).1)) H) hP hE (va_recv hE.1 hP (ci := 8) (q0 := 0) (q := (RX8, TX8, 13)) rfl (zm_c0 V g w_1 pa be av sl sv pd cd st le ap (nI k) ((mLook w n).1)))) rfl rfl hl.1 rfl (lv_room (Nat.le_of_ble_eq_true rfl)) dX8_serveOne_97 ⟨Nat.le_of_ble_eq_true rfl, Nat.le_of_ble_eq_true rfl⟩) ?_
    refine lv_istore_n (lv' := [(2, .int (mMinute w_1 k)), (0, .ref (g 0)), (1, .int (zF w k 1))]) hx hb dX8_serveOne_100 rfl hl (by decide) rfl (fun ls hl => ?_)
    refine lv_iload_n hx hb dX8_serveOne_101 rfl (lv_at hl 0 rfl) ?_
    refine lv_aload_n hx hb dX8_serveOne_102 rfl (lv_at hl 1 rfl) ?_
    refine lv_aload_n hx hb dX8_serveOne_103 rfl (lv_at hl 1 rfl) ?_
    refine zm_get 11 (.int (nI k)) hx hb hts (fun x h => List.mem_cons_of_mem _ (hU_X8 x h)) hown hE hP (by decide) rfl (hts _ (List.mem_cons_of_mem _ uM_48)) (fun _ h9 => h9) dX8_serveOne_104 ?_
    refine lv_iconst (v := 4) hx hb dX8_serveOne_107 (by decide +kernel) ?_
    refine zc_se (va_runV (As := [.int (nI k), .int 4]) (rest := [.int (mMinute w_1 k)]) ⟨hx, hb, hml, hown, hts⟩ (c_X8_its l V g w_1 pa be av sl sv pd cd st le ap (nI k) ((mLook w n).1) k 4 (by omega)) (cwV 2 hts (zgV_ wsM_all uM_16 uM_18 uM_19 uM_20 uM_21) rfl rfl rfl (by decide +kernel) ⟨Nat.le_of_ble_eq_true rfl, Nat.le_of_ble_eq_true rfl⟩) (zPreV (B := fun H => va_P V.1 vwCl (zmW V g w_1 pa be av sl sv pd cd st le ap (nI k) ((mLook w n).1)) H) hP hE (va_recv hE.1 hP (ci := 8) (q0 := 0) (q := (RX8, TX8, 13)) rfl (zm_c0 V g w_1 pa be av sl sv pd cd st le ap (nI k) ((mLook w n).1)))) rfl rfl hl.1 rfl (lv_room (Nat.le_of_ble_eq_true rfl)) dX8_serveOne_108 ⟨Nat.le_of_ble_eq_true rfl, Nat.le_of_ble_eq_true rfl⟩) ?_
    refine lv_isub hx hb dX8_serveOne_111 ?_
    refine lv_istore_n (lv' := [(3, .int ((mMinute w_1 k) - (zF w_1 k 4))), (2, .int (mMinute w_1 k)), (0, .ref (g 0)), (1, .int (zF w k 1))]) hx hb dX8_serveOne_112 rfl hl (by decide) rfl (fun ls hl => ?_)
    refine lv_aload_n hx hb dX8_serveOne_113 rfl (lv_at hl 2 rfl) ?_
    refine zm_get 0 (.ref (g 1)) hx hb hts (fun x h => List.mem_cons_of_mem _ (hU_X8 x h)) hown hE hP (by decide) rfl (hts _ (List.mem_cons_of_mem _ uM_5)) (fun _ h9 => h9) dX8_serveOne_114 ?_
    refine lv_bipush (v := 12) hx hb dX8_serveOne_117 (by decide +kernel) ?_
    refine lv_dup2_11 hx hb dX8_serveOne_119 rfl rfl ?_
    refine z_iald (k := 12) hx hb hE hP 1 (zm_c1 V g w_1 pa be av sl sv pd cd st le ap (nI k) ((mLook w n).1)) (by omega) (by decide) dX8_serveOne_120 ?_
    refine lv_aload_n hx hb dX8_serveOne_121 rfl (lv_at hl 2 rfl) ?_
    refine lv_aload_n hx hb dX8_serveOne_122 rfl (lv_at hl 2 rfl) ?_
    refine zm_get 11 (.int (nI k)) hx hb hts (fun x h => List.mem_cons_of_mem _ (hU_X8 x h)) hown hE hP (by decide) rfl (hts _ (List.mem_cons_of_mem _ uM_48)) (fun _ h9 => h9) dX8_serveOne_123 ?_
    refine lv_iconst (v := 2) hx hb dX8_serveOne_126 (by decide +kernel) ?_
    refine zc_se (va_runV (As := [.int (nI k), .int 2]) (rest := [.int (w_1 12), .int 12, .ref (g 1)]) ⟨hx, hb, hml, hown, hts⟩ (c_X8_its l V g w_1 pa be av sl sv pd cd st le ap (nI k) ((mLook w n).1) k 2 (by omega)) (cwV 2 hts (zgV_ wsM_all uM_16 uM_18 uM_19 uM_20 uM_21) rfl rfl rfl (by decide +kernel) ⟨Nat.le_of_ble_eq_true rfl, Nat.le_of_ble_eq_true rfl⟩) (zPreV (B := fun H => va_P V.1 vwCl (zmW V g w_1 pa be av sl sv pd cd st le ap (nI k) ((mLook w n).1)) H) hP hE (va_recv hE.1 hP (ci := 8) (q0 := 0) (q := (RX8, TX8, 13)) rfl (zm_c0 V g w_1 pa be av sl sv pd cd st le ap (nI k) ((mLook w n).1)))) rfl rfl hl.1 rfl (lv_room (Nat.le_of_ble_eq_true rfl)) dX8_serveOne_127 ⟨Nat.le_of_ble_eq_true rfl, Nat.le_of_ble_eq_true rfl⟩) ?_
    refine lv_aload_n hx hb dX8_serveOne_130 rfl (lv_at hl 2 rfl) ?_
    refine zm_get 0 (.ref (g 1)) hx hb hts (fun x h => List.mem_cons_of_mem _ (hU_X8 x h)) hown hE hP (by decide) rfl (hts _ (List.mem_cons_of_mem _ uM_5)) (fun _ h9 => h9) dX8_serveOne_131 ?_
    refine lv_bipush (v := 9) hx hb dX8_serveOne_134 (by decide +kernel) ?_
    refine z_iald (k := 9) hx hb hE hP 1 (zm_c1 V g w_1 pa be av sl sv pd cd st le ap (nI k) ((mLook w n).1)) (by omega) (by decide) dX8_serveOne_136 ?_
    refine zc_se (va_runS (As := [.int (zF w_1 k 2), .int (w_1 9)]) (rest := [.int (w_1 12), .int 12, .ref (g 1)]) ⟨hx, hb, hml, hown, hts⟩ (c_X8_far l V (zF w_1 k 2) (w_1 9)) (va_cwS 2 hts (zgS_ wsM_all uM_15 uM_63 uM_64 uM_21) rfl rfl rfl (by decide +kernel) ⟨Nat.le_of_ble_eq_true rfl, Nat.le_of_ble_eq_true rfl⟩) (zPreS (B := fun _ => True) trivial hE) rfl rfl hl.1 rfl (lv_room (Nat.le_of_ble_eq_true rfl)) dX8_serveOne_137 ⟨Nat.le_of_ble_eq_true rfl, Nat.le_of_ble_eq_true rfl⟩) ?_
    refine lv_iadd hx hb dX8_serveOne_140 ?_
    refine zm_a1 12 ((w_1 12) + (mFar (zF w_1 k 2) (w_1 9))) hx hb hE hP hJ hS (by omega) dX8_serveOne_141 (fun H locs hP hS => ?_)
    obtain ⟨w_3, ew_3⟩ : ∃ z, z = upd w_1 12 ((w_1 12) + (mFar (zF w_1 k 2) (w_1 9))) := ⟨_, rfl⟩
    rw [← ew_3] at hP
    have hk_4 : w_3 7 = nI n := by rw [ew_3]; exact (if_neg (by omega)).trans hk_2
    refine lv_aload_n hx hb dX8_serveOne_142 rfl (lv_at hl 2 rfl) ?_
    refine zm_get 0 (.ref (g 1)) hx hb hts (fun x h => List.mem_cons_of_mem _ (hU_X8 x h)) hown hE hP (by decide) rfl (hts _ (List.mem_cons_of_mem _ uM_5)) (fun _ h9 => h9) dX8_serveOne_143 ?_
    have J_176 : ∀ (v_ : Int32) (H : Heap) (locs : List Loc) (ls : Array Slot), True → (v_ = if mLast w_3 k < 99 then mLast w_3 k + 1 else 99) → va_P V.1 vwCl (zmW V g w_3 pa be av sl sv pd cd st le ap (nI k) ((mLook w n).1)) H → va_S (zIn 9 g) s.heap H locs → lv_has ls 4 [(3, .int ((mMinute w_1 k) - (zF w_1 k 4))), (2, .int (mMinute w_1 k)), (0, .ref (g 0)), (1, .int (zF w k 1))] → W p l e (headSpec wsX8_serveOne (zR 4 0 0)).room s m (List.toArray [.ref (g 0)]) below meth c H locs 0 0 (MQ below (zQv (fun H => ∃ pl' : Int32, ∃ wy' : Int32, va_P V.1 vwCl (zmW V g (mServe w n) pa be av sl sv pd cd st le ap pl' wy') H) (zIn 9 g)) (List.toArray [.ref (g 0)]) s 0 0 (zIn 9 g)) (F0 m 176 ls [.int v_, .int 9, .ref (g 1)]) := by
      intro v_ H locs ls _ hv_ hP hS hl
      refine zm_a1 9 v_ hx hb hE hP hJ hS (by omega) dX8_serveOne_176 (fun H locs hP hS => ?_)
      obtain ⟨w_5, ew_5⟩ : ∃ z, z = upd w_3 9 v_ := ⟨_, rfl⟩
      rw [← ew_5] at hP
      have hk_6 : w_5 7 = nI n := by rw [ew_5]; exact (if_neg (by omega)).trans hk_4
      refine lv_aload_n hx hb dX8_serveOne_177 rfl (lv_at hl 2 rfl) ?_
      refine zm_get 0 (.ref (g 1)) hx hb hts (fun x h => List.mem_cons_of_mem _ (hU_X8 x h)) hown hE hP (by decide) rfl (hts _ (List.mem_cons_of_mem _ uM_5)) (fun _ h9 => h9) dX8_serveOne_178 ?_
      refine lv_bipush (v := 6) hx hb dX8_serveOne_181 (by decide +kernel) ?_
      refine lv_iload_n hx hb dX8_serveOne_183 rfl (lv_at hl 1 rfl) ?_
      refine zm_a1 6 (mMinute w_1 k) hx hb hE hP hJ hS (by omega) dX8_serveOne_184 (fun H locs hP hS => ?_)
      obtain ⟨w_7, ew_7⟩ : ∃ z, z = upd w_5 6 (mMinute w_1 k) := ⟨_, rfl⟩
      rw [← ew_7] at hP
      have hk_8 : w_7 7 = nI n := by rw [ew_7]; exact (if_neg (by omega)).trans hk_6
      refine lv_aload_n hx hb dX8_serveOne_185 rfl (lv_at hl 2 rfl) ?_
      refine zm_get 0 (.ref (g 1)) hx hb hts (fun x h => List.mem_cons_of_mem _ (hU_X8 x h)) hown hE hP (by decide) rfl (hts _ (List.mem_cons_of_mem _ uM_5)) (fun _ h9 => h9) dX8_serveOne_186 ?_
      refine lv_bipush (v := 10) hx hb dX8_serveOne_189 (by decide +kernel) ?_
      refine lv_dup2_11 hx hb dX8_serveOne_191 rfl rfl ?_
      refine z_iald (k := 10) hx hb hE hP 1 (zm_c1 V g w_7 pa be av sl sv pd cd st le ap (nI k) ((mLook w n).1)) (by omega) (by decide) dX8_serveOne_192 ?_
      refine lv_iconst (v := 1) hx hb dX8_serveOne_193 (by decide +kernel) ?_
      refine lv_iadd hx hb dX8_serveOne_194 ?_
      refine zm_a1 10 ((w_7 10) + 1) hx hb hE hP hJ hS (by omega) dX8_serveOne_195 (fun H locs hP hS => ?_)
      obtain ⟨w_9, ew_9⟩ : ∃ z, z = upd w_7 10 ((w_7 10) + 1) := ⟨_, rfl⟩
      rw [← ew_9] at hP
      have hk_10 : w_9 7 = nI n := by rw [ew_9]; exact (if_neg (by omega)).trans hk_8
      refine lv_aload_n hx hb dX8_serveOne_196 rfl (lv_at hl 2 rfl) ?_
      refine zm_get 0 (.ref (g 1)) hx hb hts (fun x h => List.mem_cons_of_mem _ (hU_X8 x h)) hown hE hP (by decide) rfl (hts _ (List.mem_cons_of_mem _ uM_5)) (fun _ h9 => h9) dX8_serveOne_197 ?_
      refine lv_bipush (v := 11) hx hb dX8_serveOne_200 (by decide +kernel) ?_
      have J_224 : ∀ (u_ : Int32) (H : Heap) (locs : List Loc) (ls : Array Slot), True → (u_ = if w_9 11 < (mMinute w_1 k) - (zF w_1 k 4) then (mMinute w_1 k) - (zF w_1 k 4) else w_9 11) → va_P V.1 vwCl (zmW V g w_9 pa be av sl sv pd cd st le ap (nI k) ((mLook w n).1)) H → va_S (zIn 9 g) s.heap H locs → lv_has ls 4 [(3, .int ((mMinute w_1 k) - (zF w_1 k 4))), (2, .int (mMinute w_1 k)), (0, .ref (g 0)), (1, .int (zF w k 1))] → W p l e (headSpec wsX8_serveOne (zR 4 0 0)).room s m (List.toArray [.ref (g 0)]) below meth c H locs 0 0 (MQ below (zQv (fun H => ∃ pl' : Int32, ∃ wy' : Int32, va_P V.1 vwCl (zmW V g (mServe w n) pa be av sl sv pd cd st le ap pl' wy') H) (zIn 9 g)) (List.toArray [.ref (g 0)]) s 0 0 (zIn 9 g)) (F0 m 224 ls [.int u_, .int 11, .ref (g 1)]) := by
        intro u_ H locs ls _ hu_ hP hS hl
        refine zm_a1 11 u_ hx hb hE hP hJ hS (by omega) dX8_serveOne_224 (fun H locs hP hS => ?_)
        obtain ⟨w_11, ew_11⟩ : ∃ z, z = upd w_9 11 u_ := ⟨_, rfl⟩
        rw [← ew_11] at hP
        have hk_12 : w_11 7 = nI n := by rw [ew_11]; exact (if_neg (by omega)).trans hk_10
        refine lv_aload_n hx hb dX8_serveOne_225 rfl (lv_at hl 2 rfl) ?_
        refine lv_aload_n hx hb dX8_serveOne_226 rfl (lv_at hl 2 rfl) ?_
        refine lv_aload_n hx hb dX8_serveOne_227 rfl (lv_at hl 2 rfl) ?_
        refine zm_get 11 (.int (nI k)) hx hb hts (fun x h => List.mem_cons_of_mem _ (hU_X8 x h)) hown hE hP (by decide) rfl (hts _ (List.mem_cons_of_mem _ uM_48)) (fun _ h9 => h9) dX8_serveOne_228 ?_
        refine lv_iconst (v := 0) hx hb dX8_serveOne_231 (by decide +kernel) ?_
        refine zc_se (va_runV (As := [.int (nI k), .int 0]) (rest := [.ref (g 0)]) ⟨hx, hb, hml, hown, hts⟩ (c_X8_its l V g w_11 pa be av sl sv pd cd st le ap (nI k) ((mLook w n).1) k 0 (by omega)) (cwV 2 hts (zgV_ wsM_all uM_16 uM_18 uM_19 uM_20 uM_21) rfl rfl rfl (by decide +kernel) ⟨Nat.le_of_ble_eq_true rfl, Nat.le_of_ble_eq_true rfl⟩) (zPreV (B := fun H => va_P V.1 vwCl (zmW V g w_11 pa be av sl sv pd cd st le ap (nI k) ((mLook w n).1)) H) hP hE (va_recv hE.1 hP (ci := 8) (q0 := 0) (q := (RX8, TX8, 13)) rfl (zm_c0 V g w_11 pa be av sl sv pd cd st le ap (nI k) ((mLook w n).1)))) rfl rfl hl.1 rfl (lv_room (Nat.le_of_ble_eq_true rfl)) dX8_serveOne_232 ⟨Nat.le_of_ble_eq_true rfl, Nat.le_of_ble_eq_true rfl⟩) ?_
        refine lv_iload_n hx hb dX8_serveOne_235 rfl (lv_at hl 0 rfl) ?_
        refine lv_iload_n hx hb dX8_serveOne_236 rfl (lv_at hl 3 rfl) ?_
        refine zc_v (va_runV (As := [.int (zF w_11 k 0), .int ((mMinute w_1 k) - (zF w_1 k 4)), .int (zF w k 1)]) (rest := []) ⟨hx, hb, hml, hown, hts⟩ (c_X8_note l V g w_11 pa be av sl sv pd cd st le ap (nI k) ((mLook w n).1)  (zF w_11 k 0) ((mMinute w_1 k) - (zF w_1 k 4)) (zF w k 1) hJ) (cwV 3 hts (zgV_ wsM_all uM_66 uM_77 uM_78 uM_79 uM_21) rfl rfl rfl (by decide +kernel) ⟨Nat.le_of_ble_eq_true rfl, Nat.le_of_ble_eq_true rfl⟩) (zPreV (B := fun H => va_P V.1 vwCl (zmW V g w_11 pa be av sl sv pd cd st le ap (nI k) ((mLook w n).1)) H) hP hE (va_recv hE.1 hP (ci := 8) (q0 := 0) (q := (RX8, TX8, 13)) rfl (zm_c0 V g w_11 pa be av sl sv pd cd st le ap (nI k) ((mLook w n).1)))) rfl rfl hl.1 rfl (lv_room (Nat.le_of_ble_eq_true rfl)) dX8_serveOne_237 ⟨Nat.le_of_ble_eq_true rfl, Nat.le_of_ble_eq_true rfl⟩) hS (fun _ h => h) (fun _ h => h) (fun H locs hQ_ _ _ hS => ?_)
        have hP := hQ_
        obtain ⟨z_, ez_⟩ : ∃ z, z = mNote w_11 (zF w_11 k 0) ((mMinute w_1 k) - (zF w_1 k 4)) (zF w k 1) := ⟨_, rfl⟩
        rw [← ez_] at hP
        have hz7 : z_ 7 = nI n := by rw [ez_]; exact (mNote_7 _ _ _ _).trans hk_12
        refine lv_aload_n hx hb dX8_serveOne_240 rfl (lv_at hl 2 rfl) ?_
        refine lv_aload_n hx hb dX8_serveOne_241 rfl (lv_at hl 2 rfl) ?_
        refine zm_get 11 (.int (nI k)) hx hb hts (fun x h => List.mem_cons_of_mem _ (hU_X8 x h)) hown hE hP (by decide) rfl (hts _ (List.mem_cons_of_mem _ uM_48)) (fun _ h9 => h9) dX8_serveOne_242 ?_
        refine zc_v (va_runV (As := [.int (nI k)]) (rest := []) ⟨hx, hb, hml, hown, hts⟩ (c_X8_drop l V g z_ pa be av sl sv pd cd st le ap (nI k) ((mLook w n).1)  n k hJ hz7 h30 (by omega)) (cwV 1 hts (zgV_ wsM_all uM_65 uM_80 uM_81 uM_82 uM_21) rfl rfl rfl (by decide +kernel) ⟨Nat.le_of_ble_eq_true rfl, Nat.le_of_ble_eq_true rfl⟩) (zPreV (B := fun H => va_P V.1 vwCl (zmW V g z_ pa be av sl sv pd cd st le ap (nI k) ((mLook w n).1)) H) hP hE (va_recv hE.1 hP (ci := 8) (q0 := 0) (q := (RX8, TX8, 13)) rfl (zm_c0 V g z_ pa be av sl sv pd cd st le ap (nI k) ((mLook w n).1)))) rfl rfl hl.1 rfl (lv_room (Nat.le_of_ble_eq_true rfl)) dX8_serveOne_245 ⟨Nat.le_of_ble_eq_true rfl, Nat.le_of_ble_eq_true rfl⟩) hS (fun _ h => h) (fun _ h => h) (fun H locs hQ_ _ _ hS => ?_)
        have hP := hQ_
        exact zr_v hx hb hr hlocks hS (by rw [show mServe w n = mDrop z_ n k from (by unfold mServe mEnd; simp only [hlk, Option.getD_some]; rw [ez_, ew_11, hu_, ew_9, ew_7, ew_5, hv_, ew_3, ew_1, ef_])]; exact ⟨_, _, hP⟩) dX8_serveOne_248
      refine lv_iload_n hx hb dX8_serveOne_202 rfl (lv_at hl 0 rfl) ?_
      refine lv_aload_n hx hb dX8_serveOne_203 rfl (lv_at hl 2 rfl) ?_
      refine zm_get 0 (.ref (g 1)) hx hb hts (fun x h => List.mem_cons_of_mem _ (hU_X8 x h)) hown hE hP (by decide) rfl (hts _ (List.mem_cons_of_mem _ uM_5)) (fun _ h9 => h9) dX8_serveOne_204 ?_
      refine lv_bipush (v := 11) hx hb dX8_serveOne_207 (by decide +kernel) ?_
      refine z_iald (k := 11) hx hb hE hP 1 (zm_c1 V g w_9 pa be av sl sv pd cd st le ap (nI k) ((mLook w n).1)) (by omega) (by decide) dX8_serveOne_209 ?_
      refine lv_icmp_le (tgt := 217) hx hb dX8_serveOne_210 (by decide) (fun c_210 => ?_) (fun c_210 => ?_)
      · refine lv_aload_n hx hb dX8_serveOne_217 rfl (lv_at hl 2 rfl) ?_
        refine zm_get 0 (.ref (g 1)) hx hb hts (fun x h => List.mem_cons_of_mem _ (hU_X8 x h)) hown hE hP (by decide) rfl (hts _ (List.mem_cons_of_mem _ uM_5)) (fun _ h9 => h9) dX8_serveOne_218 ?_
        refine lv_bipush (v := 11) hx hb dX8_serveOne_221 (by decide +kernel) ?_
        refine z_iald (k := 11) hx hb hE hP 1 (zm_c1 V g w_9 pa be av sl sv pd cd st le ap (nI k) ((mLook w n).1)) (by omega) (by decide) dX8_serveOne_223 ?_
        exact J_224 _ H locs ls trivial (by first | rw [if_neg (z_le' c_210)] | rw [if_pos (z_nle c_210)]) hP hS (lv_sub hl [0, 1, 2, 3] rfl)
      · refine lv_iload_n hx hb dX8_serveOne_213 rfl (lv_at hl 0 rfl) ?_
        refine lv_goto (tgt := 224) hx hb dX8_serveOne_214 (by decide) ?_
        exact J_224 _ H locs ls trivial (by first | rw [if_neg (z_le' c_210)] | rw [if_pos (z_nle c_210)]) hP hS (lv_sub hl [0, 1, 2, 3] rfl)
    refine lv_bipush (v := 9) hx hb dX8_serveOne_146 (by decide +kernel) ?_
    refine lv_aload_n hx hb dX8_serveOne_148 rfl (lv_at hl 2 rfl) ?_
    refine lv_aload_n hx hb dX8_serveOne_149 rfl (lv_at hl 2 rfl) ?_
    refine zm_get 11 (.int (nI k)) hx hb hts (fun x h => List.mem_cons_of_mem _ (hU_X8 x h)) hown hE hP (by decide) rfl (hts _ (List.mem_cons_of_mem _ uM_48)) (fun _ h9 => h9) dX8_serveOne_150 ?_
    refine zc_se (va_runV (As := [.int (nI k)]) (rest := [.int 9, .ref (g 1)]) ⟨hx, hb, hml, hown, hts⟩ (c_X8_lastOf l V g w_3 pa be av sl sv pd cd st le ap (nI k) ((mLook w n).1) k (by omega)) (cwV 1 hts (zgV_ wsM_all uM_17 uM_74 uM_75 uM_76 uM_21) rfl rfl rfl (by decide +kernel) ⟨Nat.le_of_ble_eq_true rfl, Nat.le_of_ble_eq_true rfl⟩) (zPreV (B := fun H => va_P V.1 vwCl (zmW V g w_3 pa be av sl sv pd cd st le ap (nI k) ((mLook w n).1)) H) hP hE (va_recv hE.1 hP (ci := 8) (q0 := 0) (q := (RX8, TX8, 13)) rfl (zm_c0 V g w_3 pa be av sl sv pd cd st le ap (nI k) ((mLook w n).1)))) rfl rfl hl.1 rfl (lv_room (Nat.le_of_ble_eq_true rfl)) dX8_serveOne_153 ⟨Nat.le_of_ble_eq_true rfl, Nat.le_of_ble_eq_true rfl⟩) ?_
    refine lv_bipush (v := 99) hx hb dX8_serveOne_156 (by decide +kernel) ?_
    refine lv_icmp_ge (tgt := 174) hx hb dX8_serveOne_158 (by decide) (fun c_158 => ?_) (fun c_158 => ?_)
    · refine lv_bipush (v := 99) hx hb dX8_serveOne_174 (by decide +kernel) ?_
      exact J_176 _ H locs ls trivial (by first | rw [if_neg (z_le' c_158)] | rw [if_pos (z_nle c_158)]) hP hS (lv_sub hl [0, 1, 2, 3] rfl)
    · refine lv_aload_n hx hb dX8_serveOne_161 rfl (lv_at hl 2 rfl) ?_
      refine lv_aload_n hx hb dX8_serveOne_162 rfl (lv_at hl 2 rfl) ?_
      refine zm_get 11 (.int (nI k)) hx hb hts (fun x h => List.mem_cons_of_mem _ (hU_X8 x h)) hown hE hP (by decide) rfl (hts _ (List.mem_cons_of_mem _ uM_48)) (fun _ h9 => h9) dX8_serveOne_163 ?_
      refine zc_se (va_runV (As := [.int (nI k)]) (rest := [.int 9, .ref (g 1)]) ⟨hx, hb, hml, hown, hts⟩ (c_X8_lastOf l V g w_3 pa be av sl sv pd cd st le ap (nI k) ((mLook w n).1) k (by omega)) (cwV 1 hts (zgV_ wsM_all uM_17 uM_74 uM_75 uM_76 uM_21) rfl rfl rfl (by decide +kernel) ⟨Nat.le_of_ble_eq_true rfl, Nat.le_of_ble_eq_true rfl⟩) (zPreV (B := fun H => va_P V.1 vwCl (zmW V g w_3 pa be av sl sv pd cd st le ap (nI k) ((mLook w n).1)) H) hP hE (va_recv hE.1 hP (ci := 8) (q0 := 0) (q := (RX8, TX8, 13)) rfl (zm_c0 V g w_3 pa be av sl sv pd cd st le ap (nI k) ((mLook w n).1)))) rfl rfl hl.1 rfl (lv_room (Nat.le_of_ble_eq_true rfl)) dX8_serveOne_166 ⟨Nat.le_of_ble_eq_true rfl, Nat.le_of_ble_eq_true rfl⟩) ?_
      refine lv_iconst (v := 1) hx hb dX8_serveOne_169 (by decide +kernel) ?_
      refine lv_iadd hx hb dX8_serveOne_170 ?_
      refine lv_goto (tgt := 176) hx hb dX8_serveOne_171 (by decide) ?_
      exact J_176 _ H locs ls trivial (by first | rw [if_neg (z_le' c_158)] | rw [if_pos (z_nle c_158)]) hP hS (lv_sub hl [0, 1, 2, 3] rfl)
  refine lv_if_le (tgt := 85) hx hb dX8_serveOne_18 (by decide) (fun c_18 => ?_) (fun c_18 => ?_)
  · exact J_85 w H locs ls trivial hn (by rw [mBegin, if_pos c_18]) hP hS (lv_sub hl [1, 0] rfl)
  · refine lv_aload_n hx hb dX8_serveOne_21 rfl (lv_at hl 1 rfl) ?_
    refine zm_get 0 (.ref (g 1)) hx hb hts (fun x h => List.mem_cons_of_mem _ (hU_X8 x h)) hown hE hP (by decide) rfl (hts _ (List.mem_cons_of_mem _ uM_5)) (fun _ h9 => h9) dX8_serveOne_22 ?_
    refine lv_bipush (v := 15) hx hb dX8_serveOne_25 (by decide +kernel) ?_
    refine lv_iload_n hx hb dX8_serveOne_27 rfl (lv_at hl 0 rfl) ?_
    refine lv_iconst (v := 1) hx hb dX8_serveOne_28 (by decide +kernel) ?_
    refine lv_icmp_ne (tgt := 36) hx hb dX8_serveOne_29 (by decide) (fun c_29 => ?_) (fun c_29 => ?_)
    · refine lv_aload_n hx hb dX8_serveOne_36 rfl (lv_at hl 1 rfl) ?_
      refine zm_get 0 (.ref (g 1)) hx hb hts (fun x h => List.mem_cons_of_mem _ (hU_X8 x h)) hown hE hP (by decide) rfl (hts _ (List.mem_cons_of_mem _ uM_5)) (fun _ h9 => h9) dX8_serveOne_37 ?_
      refine lv_bipush (v := 15) hx hb dX8_serveOne_40 (by decide +kernel) ?_
      refine z_iald (k := 15) hx hb hE hP 1 (zm_c1 V g w pa be av sl sv pd cd st le ap (nI k) ((mLook w n).1)) (by omega) (by decide) dX8_serveOne_42 ?_
      refine lv_aload_n hx hb dX8_serveOne_43 rfl (lv_at hl 1 rfl) ?_
      refine lv_iconst (v := 1) hx hb dX8_serveOne_44 (by decide +kernel) ?_
      refine zc_se (va_runV (As := [.int 1]) (rest := [.int (w 15), .int 15, .ref (g 1)]) ⟨hx, hb, hml, hown, hts⟩ (c_X8_many l V g w pa be av sl sv pd cd st le ap (nI k) ((mLook w n).1) n 1 hn h30) (cwV 1 hts (zgV_ wsM_all uM_23 uM_44 uM_45 uM_46 uM_21) rfl rfl rfl (by decide +kernel) ⟨Nat.le_of_ble_eq_true rfl, Nat.le_of_ble_eq_true rfl⟩) (zPreV (B := fun H => va_P V.1 vwCl (zmW V g w pa be av sl sv pd cd st le ap (nI k) ((mLook w n).1)) H) hP hE (va_recv hE.1 hP (ci := 8) (q0 := 0) (q := (RX8, TX8, 13)) rfl (zm_c0 V g w pa be av sl sv pd cd st le ap (nI k) ((mLook w n).1)))) rfl rfl hl.1 rfl (lv_room (Nat.le_of_ble_eq_true rfl)) dX8_serveOne_45 ⟨Nat.le_of_ble_eq_true rfl, Nat.le_of_ble_eq_true rfl⟩) ?_
      refine zb0_le (x := mMany w n 1) (tgt := 55) hx hb dX8_serveOne_48 (by decide) (by omega) (fun c_48 => ?_) (fun c_48 => ?_)
      · refine lv_iconst (v := 0) hx hb dX8_serveOne_55 (by decide +kernel) ?_
        refine lv_iadd hx hb dX8_serveOne_56 ?_
        refine zm_a1 15 ((w 15) + 0) hx hb hE hP hJ hS (by omega) dX8_serveOne_57 (fun H locs hP hS => ?_)
        obtain ⟨w_13, ew_13⟩ : ∃ z, z = upd w 15 ((w 15) + 0) := ⟨_, rfl⟩
        rw [← ew_13] at hP
        have hk_14 : w_13 7 = nI n := by rw [ew_13]; exact (if_neg (by omega)).trans hn
        refine lv_aload_n hx hb dX8_serveOne_58 rfl (lv_at hl 1 rfl) ?_
        refine zm_get 0 (.ref (g 1)) hx hb hts (fun x h => List.mem_cons_of_mem _ (hU_X8 x h)) hown hE hP (by decide) rfl (hts _ (List.mem_cons_of_mem _ uM_5)) (fun _ h9 => h9) dX8_serveOne_59 ?_
        refine lv_bipush (v := 13) hx hb dX8_serveOne_62 (by decide +kernel) ?_
        refine lv_dup2_11 hx hb dX8_serveOne_64 rfl rfl ?_
        refine z_iald (k := 13) hx hb hE hP 1 (zm_c1 V g w_13 pa be av sl sv pd cd st le ap (nI k) ((mLook w n).1)) (by omega) (by decide) dX8_serveOne_65 ?_
        refine lv_iconst (v := 1) hx hb dX8_serveOne_66 (by decide +kernel) ?_
        refine lv_iadd hx hb dX8_serveOne_67 ?_
        refine zm_a1 13 ((w_13 13) + 1) hx hb hE hP hJ hS (by omega) dX8_serveOne_68 (fun H locs hP hS => ?_)
        obtain ⟨w_15, ew_15⟩ : ∃ z, z = upd w_13 13 ((w_13 13) + 1) := ⟨_, rfl⟩
        rw [← ew_15] at hP
        have hk_16 : w_15 7 = nI n := by rw [ew_15]; exact (if_neg (by omega)).trans hk_14
        refine lv_aload_n hx hb dX8_serveOne_69 rfl (lv_at hl 1 rfl) ?_
        refine zm_get 0 (.ref (g 1)) hx hb hts (fun x h => List.mem_cons_of_mem _ (hU_X8 x h)) hown hE hP (by decide) rfl (hts _ (List.mem_cons_of_mem _ uM_5)) (fun _ h9 => h9) dX8_serveOne_70 ?_
        refine lv_bipush (v := 14) hx hb dX8_serveOne_73 (by decide +kernel) ?_
        refine lv_iconst (v := 0) hx hb dX8_serveOne_75 (by decide +kernel) ?_
        refine zm_a1 14 0 hx hb hE hP hJ hS (by omega) dX8_serveOne_76 (fun H locs hP hS => ?_)
        obtain ⟨w_17, ew_17⟩ : ∃ z, z = upd w_15 14 0 := ⟨_, rfl⟩
        rw [← ew_17] at hP
        have hk_18 : w_17 7 = nI n := by rw [ew_17]; exact (if_neg (by omega)).trans hk_16
        refine lv_aload_n hx hb dX8_serveOne_77 rfl (lv_at hl 1 rfl) ?_
        refine zm_get 0 (.ref (g 1)) hx hb hts (fun x h => List.mem_cons_of_mem _ (hU_X8 x h)) hown hE hP (by decide) rfl (hts _ (List.mem_cons_of_mem _ uM_5)) (fun _ h9 => h9) dX8_serveOne_78 ?_
        refine lv_bipush (v := 16) hx hb dX8_serveOne_81 (by decide +kernel) ?_
        refine lv_iload_n hx hb dX8_serveOne_83 rfl (lv_at hl 0 rfl) ?_
        refine zm_a1 16 (zF w k 1) hx hb hE hP hJ hS (by omega) dX8_serveOne_84 (fun H locs hP hS => ?_)
        obtain ⟨w_19, ew_19⟩ : ∃ z, z = upd w_17 16 (zF w k 1) := ⟨_, rfl⟩
        rw [← ew_19] at hP
        have hk_20 : w_19 7 = nI n := by rw [ew_19]; exact (if_neg (by omega)).trans hk_18
        exact J_85 w_19 H locs ls trivial hk_20 (by rw [mBegin, if_neg c_18, ew_19, ew_17, ew_15, ew_13]; first | rw [if_pos c_29] | rw [if_neg c_29, if_pos c_48] | rw [if_neg c_29, if_neg (show ¬ 0 < mMany w n 1 by omega)]) hP hS (lv_sub hl [1, 0] rfl)
      · refine lv_iconst (v := 1) hx hb dX8_serveOne_51 (by decide +kernel) ?_
        refine lv_goto (tgt := 56) hx hb dX8_serveOne_52 (by decide) ?_
        refine lv_iadd hx hb dX8_serveOne_56 ?_
        refine zm_a1 15 ((w 15) + 1) hx hb hE hP hJ hS (by omega) dX8_serveOne_57 (fun H locs hP hS => ?_)
        obtain ⟨w_21, ew_21⟩ : ∃ z, z = upd w 15 ((w 15) + 1) := ⟨_, rfl⟩
        rw [← ew_21] at hP
        have hk_22 : w_21 7 = nI n := by rw [ew_21]; exact (if_neg (by omega)).trans hn
        refine lv_aload_n hx hb dX8_serveOne_58 rfl (lv_at hl 1 rfl) ?_
        refine zm_get 0 (.ref (g 1)) hx hb hts (fun x h => List.mem_cons_of_mem _ (hU_X8 x h)) hown hE hP (by decide) rfl (hts _ (List.mem_cons_of_mem _ uM_5)) (fun _ h9 => h9) dX8_serveOne_59 ?_
        refine lv_bipush (v := 13) hx hb dX8_serveOne_62 (by decide +kernel) ?_
        refine lv_dup2_11 hx hb dX8_serveOne_64 rfl rfl ?_
        refine z_iald (k := 13) hx hb hE hP 1 (zm_c1 V g w_21 pa be av sl sv pd cd st le ap (nI k) ((mLook w n).1)) (by omega) (by decide) dX8_serveOne_65 ?_
        refine lv_iconst (v := 1) hx hb dX8_serveOne_66 (by decide +kernel) ?_
        refine lv_iadd hx hb dX8_serveOne_67 ?_
        refine zm_a1 13 ((w_21 13) + 1) hx hb hE hP hJ hS (by omega) dX8_serveOne_68 (fun H locs hP hS => ?_)
        obtain ⟨w_23, ew_23⟩ : ∃ z, z = upd w_21 13 ((w_21 13) + 1) := ⟨_, rfl⟩
        rw [← ew_23] at hP
        have hk_24 : w_23 7 = nI n := by rw [ew_23]; exact (if_neg (by omega)).trans hk_22
        refine lv_aload_n hx hb dX8_serveOne_69 rfl (lv_at hl 1 rfl) ?_
        refine zm_get 0 (.ref (g 1)) hx hb hts (fun x h => List.mem_cons_of_mem _ (hU_X8 x h)) hown hE hP (by decide) rfl (hts _ (List.mem_cons_of_mem _ uM_5)) (fun _ h9 => h9) dX8_serveOne_70 ?_
        refine lv_bipush (v := 14) hx hb dX8_serveOne_73 (by decide +kernel) ?_
        refine lv_iconst (v := 0) hx hb dX8_serveOne_75 (by decide +kernel) ?_
        refine zm_a1 14 0 hx hb hE hP hJ hS (by omega) dX8_serveOne_76 (fun H locs hP hS => ?_)
        obtain ⟨w_25, ew_25⟩ : ∃ z, z = upd w_23 14 0 := ⟨_, rfl⟩
        rw [← ew_25] at hP
        have hk_26 : w_25 7 = nI n := by rw [ew_25]; exact (if_neg (by omega)).trans hk_24
        refine lv_aload_n hx hb dX8_serveOne_77 rfl (lv_at hl 1 rfl) ?_
        refine zm_get 0 (.ref (g 1)) hx hb hts (fun x h => List.mem_cons_of_mem _ (hU_X8 x h)) hown hE hP (by decide) rfl (hts _ (List.mem_cons_of_mem _ uM_5)) (fun _ h9 => h9) dX8_serveOne_78 ?_
        refine lv_bipush (v := 16) hx hb dX8_serveOne_81 (by decide +kernel) ?_
        refine lv_iload_n hx hb dX8_serveOne_83 rfl (lv_at hl 0 rfl) ?_
        refine zm_a1 16 (zF w k 1) hx hb hE hP hJ hS (by omega) dX8_serveOne_84 (fun H locs hP hS => ?_)
        obtain ⟨w_27, ew_27⟩ : ∃ z, z = upd w_25 16 (zF w k 1) := ⟨_, rfl⟩
        rw [← ew_27] at hP
        have hk_28 : w_27 7 = nI n := by rw [ew_27]; exact (if_neg (by omega)).trans hk_26
        exact J_85 w_27 H locs ls trivial hk_28 (by rw [mBegin, if_neg c_18, ew_27, ew_25, ew_23, ew_21]; first | rw [if_pos c_29] | rw [if_neg c_29, if_pos c_48] | rw [if_neg c_29, if_neg (show ¬ 0 < mMany w n 1 by omega)]) hP hS (lv_sub hl [1, 0] rfl)
    · refine lv_iconst (v := 0) hx hb dX8_serveOne_32 (by decide +kernel) ?_
      refine lv_goto (tgt := 57) hx hb dX8_serveOne_33 (by decide) ?_
      refine zm_a1 15 0 hx hb hE hP hJ hS (by omega) dX8_serveOne_57 (fun H locs hP hS => ?_)
      obtain ⟨w_29, ew_29⟩ : ∃ z, z = upd w 15 0 := ⟨_, rfl⟩
      rw [← ew_29] at hP
      have hk_30 : w_29 7 = nI n := by rw [ew_29]; exact (if_neg (by omega)).trans hn
      refine lv_aload_n hx hb dX8_serveOne_58 rfl (lv_at hl 1 rfl) ?_
      refine zm_get 0 (.ref (g 1)) hx hb hts (fun x h => List.mem_cons_of_mem _ (hU_X8 x h)) hown hE hP (by decide) rfl (hts _ (List.mem_cons_of_mem _ uM_5)) (fun _ h9 => h9) dX8_serveOne_59 ?_
      refine lv_bipush (v := 13) hx hb dX8_serveOne_62 (by decide +kernel) ?_
      refine lv_dup2_11 hx hb dX8_serveOne_64 rfl rfl ?_
      refine z_iald (k := 13) hx hb hE hP 1 (zm_c1 V g w_29 pa be av sl sv pd cd st le ap (nI k) ((mLook w n).1)) (by omega) (by decide) dX8_serveOne_65 ?_
      refine lv_iconst (v := 1) hx hb dX8_serveOne_66 (by decide +kernel) ?_
      refine lv_iadd hx hb dX8_serveOne_67 ?_
      refine zm_a1 13 ((w_29 13) + 1) hx hb hE hP hJ hS (by omega) dX8_serveOne_68 (fun H locs hP hS => ?_)
      obtain ⟨w_31, ew_31⟩ : ∃ z, z = upd w_29 13 ((w_29 13) + 1) := ⟨_, rfl⟩
      rw [← ew_31] at hP
      have hk_32 : w_31 7 = nI n := by rw [ew_31]; exact (if_neg (by omega)).trans hk_30
      refine lv_aload_n hx hb dX8_serveOne_69 rfl (lv_at hl 1 rfl) ?_
      refine zm_get 0 (.ref (g 1)) hx hb hts (fun x h => List.mem_cons_of_mem _ (hU_X8 x h)) hown hE hP (by decide) rfl (hts _ (List.mem_cons_of_mem _ uM_5)) (fun _ h9 => h9) dX8_serveOne_70 ?_
      refine lv_bipush (v := 14) hx hb dX8_serveOne_73 (by decide +kernel) ?_
      refine lv_iconst (v := 0) hx hb dX8_serveOne_75 (by decide +kernel) ?_
      refine zm_a1 14 0 hx hb hE hP hJ hS (by omega) dX8_serveOne_76 (fun H locs hP hS => ?_)
      obtain ⟨w_33, ew_33⟩ : ∃ z, z = upd w_31 14 0 := ⟨_, rfl⟩
      rw [← ew_33] at hP
      have hk_34 : w_33 7 = nI n := by rw [ew_33]; exact (if_neg (by omega)).trans hk_32
      refine lv_aload_n hx hb dX8_serveOne_77 rfl (lv_at hl 1 rfl) ?_
      refine zm_get 0 (.ref (g 1)) hx hb hts (fun x h => List.mem_cons_of_mem _ (hU_X8 x h)) hown hE hP (by decide) rfl (hts _ (List.mem_cons_of_mem _ uM_5)) (fun _ h9 => h9) dX8_serveOne_78 ?_
      refine lv_bipush (v := 16) hx hb dX8_serveOne_81 (by decide +kernel) ?_
      refine lv_iload_n hx hb dX8_serveOne_83 rfl (lv_at hl 0 rfl) ?_
      refine zm_a1 16 (zF w k 1) hx hb hE hP hJ hS (by omega) dX8_serveOne_84 (fun H locs hP hS => ?_)
      obtain ⟨w_35, ew_35⟩ : ∃ z, z = upd w_33 16 (zF w k 1) := ⟨_, rfl⟩
      rw [← ew_35] at hP
      have hk_36 : w_35 7 = nI n := by rw [ew_35]; exact (if_neg (by omega)).trans hk_34
      exact J_85 w_35 H locs ls trivial hk_36 (by rw [mBegin, if_neg c_18, ew_35, ew_33, ew_31, ew_29]; first | rw [if_pos c_29] | rw [if_neg c_29, if_pos c_48] | rw [if_neg c_29, if_neg (show ¬ 0 < mMany w n 1 by omega)]) hP hS (lv_sub hl [1, 0] rfl)
def mComes (w : Nat → Int32) (n : Nat) (wr d m : Int32) : Int32 × (Nat → Int32) :=
  if mSlip wr d m then (match mPart w n wr d m with
    | some k =>
      let w1 := upd w (78 + 6 * k + 3) (w (78 + 6 * k + 3) + m)
      let w2 := upd w1 (78 + 6 * k + 5) (w1 (78 + 6 * k + 5) + 1)
      (zF w2 k 0, w2)
    | none => if n = 30 then (-4, w) else
      let w1 := upd w (78 + 6 * n) (w 8)
      let w2 := upd w1 (78 + 6 * n + 1) wr
      let w3 := upd w2 (78 + 6 * n + 2) d
      let w4 := upd w3 (78 + 6 * n + 3) m
      let w5 := upd w4 (78 + 6 * n + 4) (w4 6)
      let w6 := upd w5 (78 + 6 * n + 5) 0
      let w7 := upd w6 7 (nI (n + 1))
      let w8 := upd w7 8 (w7 8 + 1)
      (w8 8 - 1, w8)) else (-2, w)
set_option maxHeartbeats 4000000 in
set_option maxRecDepth 100000 in
theorem c_X8_comes (l : Launch) (V : zV) (g : Nat → Nat) (w pa be av sl sv pd cd : Nat → Int32) (st le ap pl wy : Int32) (n : Nat) (wr d mm : Int32) (hJ : zInj 9 g) (hn : w 7 = nI n) (h30 : n ≤ 30) : Met l yX8_comes wsX8_comes (zR 3 0 0) (zPc V [.ref (g 0), .int wr, .int d, .int mm] (fun H => va_P V.1 vwCl (zmW V g w pa be av sl sv pd cd st le ap pl wy) H)) (zQi (fun r H => r = ((mComes w n wr d mm).1) ∧ va_P V.1 vwCl (zmW V g ((mComes w n wr d mm).2) pa be av sl sv pd cd st le ap pl wy) H) (zIn 9 g)) 0 0 (zIn 9 g) := by
  refine Met.ofW (cc := cX8_comes) (maxL := 6) (ret := (some .int)) (by decide) rfl ?_
  intro p e s m args below meth c s₁ B hml hv
  obtain ⟨rfl, hP, hE⟩ := hv
  have hx := B.exec
  have hb := B.bytes
  have hr := B.returns
  have hts := atoms_spec (ws := wsX8_comes) B.pre
  have hown : s.vm.findClass RX8 = some m.cls := findClass_of_methodNamed B.named
  have hlocks := B.notSynchronized
  have hl := lv_entry ([.ref (g 0), .int wr, .int d, .int mm]) (n := 6) (Nat.le_of_ble_eq_true rfl)
  rw [lg_entry_eq]
  generalize (lg_sl ([.ref (g 0), .int wr, .int d, .int mm]) ++ List.replicate (6 - (lg_sl ([.ref (g 0), .int wr, .int d, .int mm])).length) Slot.unset).toArray = ls at hl ⊢
  have hl : lv_has ls 6 [(0, .ref (g 0)), (1, .int wr), (2, .int d), (3, .int mm)] := hl
  have hS : va_S (zIn 9 g) s.heap s.heap [] := va_S.rf
  refine lv_iload_n hx hb dX8_comes_0 rfl (lv_at hl 1 rfl) ?_
  refine lv_iload_n hx hb dX8_comes_1 rfl (lv_at hl 2 rfl) ?_
  refine lv_iload_n hx hb dX8_comes_2 rfl (lv_at hl 3 rfl) ?_
  refine zc_se (va_runS (As := [.int wr, .int d, .int mm]) (rest := []) ⟨hx, hb, hml, hown, hts⟩ (c_X8_isSlip l V wr d mm) (va_cwS 3 hts (zgS_ wsM_all uM_83 uM_86 uM_87 uM_21) rfl rfl rfl (by decide +kernel) ⟨Nat.le_of_ble_eq_true rfl, Nat.le_of_ble_eq_true rfl⟩) (zPreS (B := fun _ => True) trivial hE) rfl rfl hl.1 rfl (lv_room (Nat.le_of_ble_eq_true rfl)) dX8_comes_3 ⟨Nat.le_of_ble_eq_true rfl, Nat.le_of_ble_eq_true rfl⟩) ?_
  refine zbp_ne (P := mSlip wr d mm) (tgt := 12) hx hb dX8_comes_6 (by decide) (fun c_6 => ?_) (fun c_6 => ?_)
  · refine lv_aload_n hx hb dX8_comes_12 rfl (lv_at hl 0 rfl) ?_
    refine lv_iload_n hx hb dX8_comes_13 rfl (lv_at hl 1 rfl) ?_
    refine lv_iload_n hx hb dX8_comes_14 rfl (lv_at hl 2 rfl) ?_
    refine lv_iload_n hx hb dX8_comes_15 rfl (lv_at hl 3 rfl) ?_
    refine zc_se (va_runV (As := [.int wr, .int d, .int mm]) (rest := []) ⟨hx, hb, hml, hown, hts⟩ (c_X8_partner l V g w pa be av sl sv pd cd st le ap pl wy n wr d mm hn h30) (cwV 3 hts (zgV_ wsM_all uM_84 uM_88 uM_89 uM_90 uM_21) rfl rfl rfl (by decide +kernel) ⟨Nat.le_of_ble_eq_true rfl, Nat.le_of_ble_eq_true rfl⟩) (zPreV (B := fun H => va_P V.1 vwCl (zmW V g w pa be av sl sv pd cd st le ap pl wy) H) hP hE (va_recv hE.1 hP (ci := 8) (q0 := 0) (q := (RX8, TX8, 13)) rfl (zm_c0 V g w pa be av sl sv pd cd st le ap pl wy))) rfl rfl hl.1 rfl (lv_room (Nat.le_of_ble_eq_true rfl)) dX8_comes_16 ⟨Nat.le_of_ble_eq_true rfl, Nat.le_of_ble_eq_true rfl⟩) ?_
    rcases hq : mPart w n wr d mm with _ | k
    · refine zt_i (y := (-6)) (by first | rfl | exact congrArg zoI hq) ?_
      refine lv_istore (lv' := [(4, .int (-6)), (0, .ref (g 0)), (1, .int wr), (2, .int d), (3, .int mm)]) hx hb dX8_comes_19 hl (by decide) rfl (fun ls hl => ?_)
      refine lv_iload hx hb dX8_comes_21 (lv_at hl 0 rfl) ?_
      refine lv_bipush (v := (-6)) hx hb dX8_comes_23 (by decide +kernel) ?_
      refine lv_icmp_eq (tgt := 74) hx hb dX8_comes_25 (by decide) (fun c_25 => ?_) (fun c_25 => ?_)
      · refine lv_aload_n hx hb dX8_comes_74 rfl (lv_at hl 1 rfl) ?_
        refine zm_get 0 (.ref (g 1)) hx hb hts (fun x h => List.mem_cons_of_mem _ (hU_X8 x h)) hown hE hP (by decide) rfl (hts _ (List.mem_cons_of_mem _ uM_5)) (fun _ h9 => h9) dX8_comes_75 ?_
        refine lv_bipush (v := 7) hx hb dX8_comes_78 (by decide +kernel) ?_
        refine z_iald (k := 7) hx hb hE hP 1 (zm_c1 V g w pa be av sl sv pd cd st le ap pl wy) (by omega) (by decide) dX8_comes_80 ?_
        refine zt_i hn ?_
        refine lv_bipush (v := 30) hx hb dX8_comes_81 (by decide +kernel) ?_
        refine zb_ne (x := n) (y := 30) (tgt := 89) hx hb dX8_comes_83 (by decide) (by omega) (by omega) (fun c_83 => ?_) (fun c_83 => ?_)
        · refine lv_bipush (v := 78) hx hb dX8_comes_89 (by decide +kernel) ?_
          refine lv_bipush (v := 6) hx hb dX8_comes_91 (by decide +kernel) ?_
          refine lv_aload_n hx hb dX8_comes_93 rfl (lv_at hl 1 rfl) ?_
          refine zm_get 0 (.ref (g 1)) hx hb hts (fun x h => List.mem_cons_of_mem _ (hU_X8 x h)) hown hE hP (by decide) rfl (hts _ (List.mem_cons_of_mem _ uM_5)) (fun _ h9 => h9) dX8_comes_94 ?_
          refine lv_bipush (v := 7) hx hb dX8_comes_97 (by decide +kernel) ?_
          refine z_iald (k := 7) hx hb hE hP 1 (zm_c1 V g w pa be av sl sv pd cd st le ap pl wy) (by omega) (by decide) dX8_comes_99 ?_
          refine zt_i hn ?_
          refine lv_imul hx hb dX8_comes_100 ?_
          refine zt_i (z_mul (a := 6) (b := n) (by first | rfl | omega)) ?_
          refine lv_iadd hx hb dX8_comes_101 ?_
          refine zt_i (z_add (a := 78) (b := 6 * n) (by first | rfl | omega)) ?_
          refine lv_istore (lv' := [(5, .int (nI (78 + 6 * n))), (4, .int (-6)), (0, .ref (g 0)), (1, .int wr), (2, .int d), (3, .int mm)]) hx hb dX8_comes_102 hl (by decide) rfl (fun ls hl => ?_)
          refine lv_aload_n hx hb dX8_comes_104 rfl (lv_at hl 2 rfl) ?_
          refine zm_get 0 (.ref (g 1)) hx hb hts (fun x h => List.mem_cons_of_mem _ (hU_X8 x h)) hown hE hP (by decide) rfl (hts _ (List.mem_cons_of_mem _ uM_5)) (fun _ h9 => h9) dX8_comes_105 ?_
          refine lv_iload hx hb dX8_comes_108 (lv_at hl 0 rfl) ?_
          refine lv_iconst (v := 0) hx hb dX8_comes_110 (by decide +kernel) ?_
          refine lv_iadd hx hb dX8_comes_111 ?_
          refine zt_i (z_add (a := 78 + 6 * n) (b := 0) (by first | rfl | omega)) ?_
          refine lv_aload_n hx hb dX8_comes_112 rfl (lv_at hl 2 rfl) ?_
          refine zm_get 0 (.ref (g 1)) hx hb hts (fun x h => List.mem_cons_of_mem _ (hU_X8 x h)) hown hE hP (by decide) rfl (hts _ (List.mem_cons_of_mem _ uM_5)) (fun _ h9 => h9) dX8_comes_113 ?_
          refine lv_bipush (v := 8) hx hb dX8_comes_116 (by decide +kernel) ?_
          refine z_iald (k := 8) hx hb hE hP 1 (zm_c1 V g w pa be av sl sv pd cd st le ap pl wy) (by omega) (by decide) dX8_comes_118 ?_
          refine zm_a1 (78 + 6 * n) (w 8) hx hb hE hP hJ hS (by omega) dX8_comes_119 (fun H locs hP hS => ?_)
          obtain ⟨w_1, ew_1⟩ : ∃ z, z = upd w (78 + 6 * n) (w 8) := ⟨_, rfl⟩
          rw [← ew_1] at hP
          have hk_2 : w_1 7 = nI n := by rw [ew_1]; exact (if_neg (by omega)).trans hn
          refine lv_aload_n hx hb dX8_comes_120 rfl (lv_at hl 2 rfl) ?_
          refine zm_get 0 (.ref (g 1)) hx hb hts (fun x h => List.mem_cons_of_mem _ (hU_X8 x h)) hown hE hP (by decide) rfl (hts _ (List.mem_cons_of_mem _ uM_5)) (fun _ h9 => h9) dX8_comes_121 ?_
          refine lv_iload hx hb dX8_comes_124 (lv_at hl 0 rfl) ?_
          refine lv_iconst (v := 1) hx hb dX8_comes_126 (by decide +kernel) ?_
          refine lv_iadd hx hb dX8_comes_127 ?_
          refine zt_i (z_add (a := 78 + 6 * n) (b := 1) (by first | rfl | omega)) ?_
          refine lv_iload_n hx hb dX8_comes_128 rfl (lv_at hl 3 rfl) ?_
          refine zm_a1 (78 + 6 * n + 1) wr hx hb hE hP hJ hS (by omega) dX8_comes_129 (fun H locs hP hS => ?_)
          obtain ⟨w_3, ew_3⟩ : ∃ z, z = upd w_1 (78 + 6 * n + 1) wr := ⟨_, rfl⟩
          rw [← ew_3] at hP
          have hk_4 : w_3 7 = nI n := by rw [ew_3]; exact (if_neg (by omega)).trans hk_2
          refine lv_aload_n hx hb dX8_comes_130 rfl (lv_at hl 2 rfl) ?_
          refine zm_get 0 (.ref (g 1)) hx hb hts (fun x h => List.mem_cons_of_mem _ (hU_X8 x h)) hown hE hP (by decide) rfl (hts _ (List.mem_cons_of_mem _ uM_5)) (fun _ h9 => h9) dX8_comes_131 ?_
          refine lv_iload hx hb dX8_comes_134 (lv_at hl 0 rfl) ?_
          refine lv_iconst (v := 2) hx hb dX8_comes_136 (by decide +kernel) ?_
          refine lv_iadd hx hb dX8_comes_137 ?_
          refine zt_i (z_add (a := 78 + 6 * n) (b := 2) (by first | rfl | omega)) ?_
          refine lv_iload_n hx hb dX8_comes_138 rfl (lv_at hl 4 rfl) ?_
          refine zm_a1 (78 + 6 * n + 2) d hx hb hE hP hJ hS (by omega) dX8_comes_139 (fun H locs hP hS => ?_)
          obtain ⟨w_5, ew_5⟩ : ∃ z, z = upd w_3 (78 + 6 * n + 2) d := ⟨_, rfl⟩
          rw [← ew_5] at hP
          have hk_6 : w_5 7 = nI n := by rw [ew_5]; exact (if_neg (by omega)).trans hk_4
          refine lv_aload_n hx hb dX8_comes_140 rfl (lv_at hl 2 rfl) ?_
          refine zm_get 0 (.ref (g 1)) hx hb hts (fun x h => List.mem_cons_of_mem _ (hU_X8 x h)) hown hE hP (by decide) rfl (hts _ (List.mem_cons_of_mem _ uM_5)) (fun _ h9 => h9) dX8_comes_141 ?_
          refine lv_iload hx hb dX8_comes_144 (lv_at hl 0 rfl) ?_
          refine lv_iconst (v := 3) hx hb dX8_comes_146 (by decide +kernel) ?_
          refine lv_iadd hx hb dX8_comes_147 ?_
          refine zt_i (z_add (a := 78 + 6 * n) (b := 3) (by first | rfl | omega)) ?_
          refine lv_iload_n hx hb dX8_comes_148 rfl (lv_at hl 5 rfl) ?_
          refine zm_a1 (78 + 6 * n + 3) mm hx hb hE hP hJ hS (by omega) dX8_comes_149 (fun H locs hP hS => ?_)
          obtain ⟨w_7, ew_7⟩ : ∃ z, z = upd w_5 (78 + 6 * n + 3) mm := ⟨_, rfl⟩
          rw [← ew_7] at hP
          have hk_8 : w_7 7 = nI n := by rw [ew_7]; exact (if_neg (by omega)).trans hk_6
          refine lv_aload_n hx hb dX8_comes_150 rfl (lv_at hl 2 rfl) ?_
          refine zm_get 0 (.ref (g 1)) hx hb hts (fun x h => List.mem_cons_of_mem _ (hU_X8 x h)) hown hE hP (by decide) rfl (hts _ (List.mem_cons_of_mem _ uM_5)) (fun _ h9 => h9) dX8_comes_151 ?_
          refine lv_iload hx hb dX8_comes_154 (lv_at hl 0 rfl) ?_
          refine lv_iconst (v := 4) hx hb dX8_comes_156 (by decide +kernel) ?_
          refine lv_iadd hx hb dX8_comes_157 ?_
          refine zt_i (z_add (a := 78 + 6 * n) (b := 4) (by first | rfl | omega)) ?_
          refine lv_aload_n hx hb dX8_comes_158 rfl (lv_at hl 2 rfl) ?_
          refine zm_get 0 (.ref (g 1)) hx hb hts (fun x h => List.mem_cons_of_mem _ (hU_X8 x h)) hown hE hP (by decide) rfl (hts _ (List.mem_cons_of_mem _ uM_5)) (fun _ h9 => h9) dX8_comes_159 ?_
          refine lv_bipush (v := 6) hx hb dX8_comes_162 (by decide +kernel) ?_
          refine z_iald (k := 6) hx hb hE hP 1 (zm_c1 V g w_7 pa be av sl sv pd cd st le ap pl wy) (by omega) (by decide) dX8_comes_164 ?_
          refine zm_a1 (78 + 6 * n + 4) (w_7 6) hx hb hE hP hJ hS (by omega) dX8_comes_165 (fun H locs hP hS => ?_)
          obtain ⟨w_9, ew_9⟩ : ∃ z, z = upd w_7 (78 + 6 * n + 4) (w_7 6) := ⟨_, rfl⟩
          rw [← ew_9] at hP
          have hk_10 : w_9 7 = nI n := by rw [ew_9]; exact (if_neg (by omega)).trans hk_8
          refine lv_aload_n hx hb dX8_comes_166 rfl (lv_at hl 2 rfl) ?_
          refine zm_get 0 (.ref (g 1)) hx hb hts (fun x h => List.mem_cons_of_mem _ (hU_X8 x h)) hown hE hP (by decide) rfl (hts _ (List.mem_cons_of_mem _ uM_5)) (fun _ h9 => h9) dX8_comes_167 ?_
          refine lv_iload hx hb dX8_comes_170 (lv_at hl 0 rfl) ?_
          refine lv_iconst (v := 5) hx hb dX8_comes_172 (by decide +kernel) ?_
          refine lv_iadd hx hb dX8_comes_173 ?_
          refine zt_i (z_add (a := 78 + 6 * n) (b := 5) (by first | rfl | omega)) ?_
          refine lv_iconst (v := 0) hx hb dX8_comes_174 (by decide +kernel) ?_
          refine zm_a1 (78 + 6 * n + 5) 0 hx hb hE hP hJ hS (by omega) dX8_comes_175 (fun H locs hP hS => ?_)
          obtain ⟨w_11, ew_11⟩ : ∃ z, z = upd w_9 (78 + 6 * n + 5) 0 := ⟨_, rfl⟩
          rw [← ew_11] at hP
          have hk_12 : w_11 7 = nI n := by rw [ew_11]; exact (if_neg (by omega)).trans hk_10
          refine lv_aload_n hx hb dX8_comes_176 rfl (lv_at hl 2 rfl) ?_
          refine zm_get 0 (.ref (g 1)) hx hb hts (fun x h => List.mem_cons_of_mem _ (hU_X8 x h)) hown hE hP (by decide) rfl (hts _ (List.mem_cons_of_mem _ uM_5)) (fun _ h9 => h9) dX8_comes_177 ?_
          refine lv_bipush (v := 7) hx hb dX8_comes_180 (by decide +kernel) ?_
          refine lv_dup2_11 hx hb dX8_comes_182 rfl rfl ?_
          refine z_iald (k := 7) hx hb hE hP 1 (zm_c1 V g w_11 pa be av sl sv pd cd st le ap pl wy) (by omega) (by decide) dX8_comes_183 ?_
          refine zt_i hk_12 ?_
          refine lv_iconst (v := 1) hx hb dX8_comes_184 (by decide +kernel) ?_
          refine lv_iadd hx hb dX8_comes_185 ?_
          refine zt_i (z_add (a := n) (b := 1) (by first | rfl | omega)) ?_
          refine zm_a1 7 (nI (n + 1)) hx hb hE hP hJ hS (by omega) dX8_comes_186 (fun H locs hP hS => ?_)
          obtain ⟨w_13, ew_13⟩ : ∃ z, z = upd w_11 7 (nI (n + 1)) := ⟨_, rfl⟩
          rw [← ew_13] at hP
          have hk_14 : w_13 7 = nI (n + 1) := by rw [ew_13]; exact if_pos rfl
          refine lv_aload_n hx hb dX8_comes_187 rfl (lv_at hl 2 rfl) ?_
          refine zm_get 0 (.ref (g 1)) hx hb hts (fun x h => List.mem_cons_of_mem _ (hU_X8 x h)) hown hE hP (by decide) rfl (hts _ (List.mem_cons_of_mem _ uM_5)) (fun _ h9 => h9) dX8_comes_188 ?_
          refine lv_bipush (v := 8) hx hb dX8_comes_191 (by decide +kernel) ?_
          refine lv_dup2_11 hx hb dX8_comes_193 rfl rfl ?_
          refine z_iald (k := 8) hx hb hE hP 1 (zm_c1 V g w_13 pa be av sl sv pd cd st le ap pl wy) (by omega) (by decide) dX8_comes_194 ?_
          refine lv_iconst (v := 1) hx hb dX8_comes_195 (by decide +kernel) ?_
          refine lv_iadd hx hb dX8_comes_196 ?_
          refine zm_a1 8 ((w_13 8) + 1) hx hb hE hP hJ hS (by omega) dX8_comes_197 (fun H locs hP hS => ?_)
          obtain ⟨w_15, ew_15⟩ : ∃ z, z = upd w_13 8 ((w_13 8) + 1) := ⟨_, rfl⟩
          rw [← ew_15] at hP
          have hk_16 : w_15 7 = nI (n + 1) := by rw [ew_15]; exact (if_neg (by omega)).trans hk_14
          refine lv_aload_n hx hb dX8_comes_198 rfl (lv_at hl 2 rfl) ?_
          refine zm_get 0 (.ref (g 1)) hx hb hts (fun x h => List.mem_cons_of_mem _ (hU_X8 x h)) hown hE hP (by decide) rfl (hts _ (List.mem_cons_of_mem _ uM_5)) (fun _ h9 => h9) dX8_comes_199 ?_
          refine lv_bipush (v := 8) hx hb dX8_comes_202 (by decide +kernel) ?_
          refine z_iald (k := 8) hx hb hE hP 1 (zm_c1 V g w_15 pa be av sl sv pd cd st le ap pl wy) (by omega) (by decide) dX8_comes_204 ?_
          refine lv_iconst (v := 1) hx hb dX8_comes_205 (by decide +kernel) ?_
          refine lv_isub hx hb dX8_comes_206 ?_
          exact zr_i hx hb hr hlocks hS (⟨by rw [mComes, if_pos c_6, hq, ew_15, ew_13, ew_11, ew_9, ew_7, ew_5, ew_3, ew_1]; show _ = (if n = 30 then ((-4 : Int32), w) else _).1; rw [if_neg c_83], by rw [show (mComes w n wr d mm).2 = w_15 from (by rw [mComes, if_pos c_6, hq, ew_15, ew_13, ew_11, ew_9, ew_7, ew_5, ew_3, ew_1]; show (if n = 30 then ((-4 : Int32), w) else _).2 = _; rw [if_neg c_83])]; exact hP⟩) dX8_comes_207
        · refine lv_bipush (v := (-4)) hx hb dX8_comes_86 (by decide +kernel) ?_
          exact zr_i hx hb hr hlocks hS (⟨by rw [mComes, if_pos c_6, hq]; show (-4 : Int32) = (if n = 30 then ((-4 : Int32), w) else _).1; rw [if_pos c_83], by rw [show (mComes w n wr d mm).2 = w from (by rw [mComes, if_pos c_6, hq]; show (if n = 30 then ((-4 : Int32), w) else _).2 = _; rw [if_pos c_83])]; exact hP⟩) dX8_comes_88
      · exact absurd rfl c_25
    · refine zt_i (y := nI k) (by first | rfl | exact congrArg zoI hq) ?_
      have hkn : k < n := (zFirst_lt hq).1
      refine lv_istore (lv' := [(4, .int (nI k)), (0, .ref (g 0)), (1, .int wr), (2, .int d), (3, .int mm)]) hx hb dX8_comes_19 hl (by decide) rfl (fun ls hl => ?_)
      refine lv_iload hx hb dX8_comes_21 (lv_at hl 0 rfl) ?_
      refine lv_bipush (v := (-6)) hx hb dX8_comes_23 (by decide +kernel) ?_
      refine lv_icmp_eq (tgt := 74) hx hb dX8_comes_25 (by decide) (fun c_25 => ?_) (fun c_25 => ?_)
      · exact absurd c_25 (z_n6 (by omega))
      · refine lv_aload_n hx hb dX8_comes_28 rfl (lv_at hl 1 rfl) ?_
        refine zm_get 0 (.ref (g 1)) hx hb hts (fun x h => List.mem_cons_of_mem _ (hU_X8 x h)) hown hE hP (by decide) rfl (hts _ (List.mem_cons_of_mem _ uM_5)) (fun _ h9 => h9) dX8_comes_29 ?_
        refine lv_bipush (v := 78) hx hb dX8_comes_32 (by decide +kernel) ?_
        refine lv_bipush (v := 6) hx hb dX8_comes_34 (by decide +kernel) ?_
        refine lv_iload hx hb dX8_comes_36 (lv_at hl 0 rfl) ?_
        refine lv_imul hx hb dX8_comes_38 ?_
        refine zt_i (z_mul (a := 6) (b := k) (by first | rfl | omega)) ?_
        refine lv_iadd hx hb dX8_comes_39 ?_
        refine zt_i (z_add (a := 78) (b := 6 * k) (by first | rfl | omega)) ?_
        refine lv_iconst (v := 3) hx hb dX8_comes_40 (by decide +kernel) ?_
        refine lv_iadd hx hb dX8_comes_41 ?_
        refine zt_i (z_add (a := 78 + 6 * k) (b := 3) (by first | rfl | omega)) ?_
        refine lv_dup2_11 hx hb dX8_comes_42 rfl rfl ?_
        refine z_iald (k := 78 + 6 * k + 3) hx hb hE hP 1 (zm_c1 V g w pa be av sl sv pd cd st le ap pl wy) (by omega) (by decide) dX8_comes_43 ?_
        refine lv_iload_n hx hb dX8_comes_44 rfl (lv_at hl 4 rfl) ?_
        refine lv_iadd hx hb dX8_comes_45 ?_
        refine zm_a1 (78 + 6 * k + 3) ((w (78 + 6 * k + 3)) + mm) hx hb hE hP hJ hS (by omega) dX8_comes_46 (fun H locs hP hS => ?_)
        obtain ⟨w_17, ew_17⟩ : ∃ z, z = upd w (78 + 6 * k + 3) ((w (78 + 6 * k + 3)) + mm) := ⟨_, rfl⟩
        rw [← ew_17] at hP
        have hk_18 : w_17 7 = nI n := by rw [ew_17]; exact (if_neg (by omega)).trans hn
        refine lv_aload_n hx hb dX8_comes_47 rfl (lv_at hl 1 rfl) ?_
        refine zm_get 0 (.ref (g 1)) hx hb hts (fun x h => List.mem_cons_of_mem _ (hU_X8 x h)) hown hE hP (by decide) rfl (hts _ (List.mem_cons_of_mem _ uM_5)) (fun _ h9 => h9) dX8_comes_48 ?_
        refine lv_bipush (v := 78) hx hb dX8_comes_51 (by decide +kernel) ?_
        refine lv_bipush (v := 6) hx hb dX8_comes_53 (by decide +kernel) ?_
        refine lv_iload hx hb dX8_comes_55 (lv_at hl 0 rfl) ?_
        refine lv_imul hx hb dX8_comes_57 ?_
        refine zt_i (z_mul (a := 6) (b := k) (by first | rfl | omega)) ?_
        refine lv_iadd hx hb dX8_comes_58 ?_
        refine zt_i (z_add (a := 78) (b := 6 * k) (by first | rfl | omega)) ?_
        refine lv_iconst (v := 5) hx hb dX8_comes_59 (by decide +kernel) ?_
        refine lv_iadd hx hb dX8_comes_60 ?_
        refine zt_i (z_add (a := 78 + 6 * k) (b := 5) (by first | rfl | omega)) ?_
        refine lv_dup2_11 hx hb dX8_comes_61 rfl rfl ?_
        refine z_iald (k := 78 + 6 * k + 5) hx hb hE hP 1 (zm_c1 V g w_17 pa be av sl sv pd cd st le ap pl wy) (by omega) (by decide) dX8_comes_62 ?_
        refine lv_iconst (v := 1) hx hb dX8_comes_63 (by decide +kernel) ?_
        refine lv_iadd hx hb dX8_comes_64 ?_
        refine zm_a1 (78 + 6 * k + 5) ((w_17 (78 + 6 * k + 5)) + 1) hx hb hE hP hJ hS (by omega) dX8_comes_65 (fun H locs hP hS => ?_)
        obtain ⟨w_19, ew_19⟩ : ∃ z, z = upd w_17 (78 + 6 * k + 5) ((w_17 (78 + 6 * k + 5)) + 1) := ⟨_, rfl⟩
        rw [← ew_19] at hP
        have hk_20 : w_19 7 = nI n := by rw [ew_19]; exact (if_neg (by omega)).trans hk_18
        refine lv_aload_n hx hb dX8_comes_66 rfl (lv_at hl 1 rfl) ?_
        refine lv_iload hx hb dX8_comes_67 (lv_at hl 0 rfl) ?_
        refine lv_iconst (v := 0) hx hb dX8_comes_69 (by decide +kernel) ?_
        refine zc_se (va_runV (As := [.int (nI k), .int 0]) (rest := []) ⟨hx, hb, hml, hown, hts⟩ (c_X8_its l V g w_19 pa be av sl sv pd cd st le ap pl wy k 0 (by omega)) (cwV 2 hts (zgV_ wsM_all uM_16 uM_18 uM_19 uM_20 uM_21) rfl rfl rfl (by decide +kernel) ⟨Nat.le_of_ble_eq_true rfl, Nat.le_of_ble_eq_true rfl⟩) (zPreV (B := fun H => va_P V.1 vwCl (zmW V g w_19 pa be av sl sv pd cd st le ap pl wy) H) hP hE (va_recv hE.1 hP (ci := 8) (q0 := 0) (q := (RX8, TX8, 13)) rfl (zm_c0 V g w_19 pa be av sl sv pd cd st le ap pl wy))) rfl rfl hl.1 rfl (lv_room (Nat.le_of_ble_eq_true rfl)) dX8_comes_70 ⟨Nat.le_of_ble_eq_true rfl, Nat.le_of_ble_eq_true rfl⟩) ?_
        exact zr_i hx hb hr hlocks hS (⟨by rw [mComes, if_pos c_6, hq, ew_19, ew_17], by rw [show (mComes w n wr d mm).2 = w_19 from (by rw [mComes, if_pos c_6, hq, ew_19, ew_17])]; exact hP⟩) dX8_comes_73
  · refine lv_bipush (v := (-2)) hx hb dX8_comes_9 (by decide +kernel) ?_
    exact zr_i hx hb hr hlocks hS (⟨by rw [mComes, if_neg c_6], by rw [mComes, if_neg c_6]; exact hP⟩) dX8_comes_11
theorem mBegin_hi (w : Nat → Int32) (n : Nat) (a b : Int32) {j : Nat} (h : 78 ≤ j) : mBegin w n a b j = w j := by
  unfold mBegin
  split
  · rfl
  · simp only [upd]
    rw [if_neg (by omega), if_neg (by omega), if_neg (by omega), if_neg (by omega)]
theorem mBegin_7 (w : Nat → Int32) (n : Nat) (a b : Int32) : mBegin w n a b 7 = w 7 := by
  unfold mBegin
  split <;> rfl
theorem mEnd_hi (w : Nat → Int32) (k : Nat) (so : Int32) {j : Nat} (h : 78 ≤ j) : mEnd w k so j = w j := by
  unfold mEnd
  try dsimp only
  rw [mNote_hi _ _ _ _ h]
  simp only [upd]
  rw [if_neg (by omega), if_neg (by omega), if_neg (by omega), if_neg (by omega), if_neg (by omega), if_neg (by omega)]
theorem mEnd_7 (w : Nat → Int32) (k : Nat) (so : Int32) : mEnd w k so 7 = w 7 := by
  unfold mEnd
  try dsimp only
  rw [mNote_7]
  rfl
theorem mDrop_F (w : Nat → Int32) {n k j f : Nat} (hk : k < n) (hj : j < n - 1) (hf : f < 6) : zF (mDrop w n k) j f = zF w (if j < k then j else j + 1) f := by
  unfold zF mDrop
  try dsimp only
  rw [if_neg (by omega)]
  by_cases h : j < k
  · rw [if_neg (by omega), if_neg (by omega), if_pos h]
  · rw [if_pos (by omega), if_neg h]
    congr 1
    omega
theorem mDrop_7 (w : Nat → Int32) (n k : Nat) : mDrop w n k 7 = nI (n - 1) := by
  unfold mDrop
  rw [if_neg (by omega), if_neg (by omega), if_pos rfl]
theorem mServe_F {w : Nat → Int32} {n k j f : Nat} (hlk : (mLook w n).2 = some k) (hk : k < n) (hj : j < n - 1) (hf : f < 6) : zF (mServe w n) j f = zF w (if j < k then j else j + 1) f := by
  unfold mServe
  simp only [hlk, Option.getD_some]
  rw [mDrop_F _ hk hj hf]
  unfold zF
  rw [mEnd_hi _ _ _ (by omega), mBegin_hi _ _ _ _ (by omega)]
theorem mServe_7 (w : Nat → Int32) (n : Nat) : mServe w n 7 = nI (n - 1) := mDrop_7 _ _ _
theorem mServe_ok {w : Nat → Int32} {n : Nat} (h : mOK w n) (hpos : 0 < n) : mOK (mServe w n) (n - 1) := by
  obtain ⟨k, hk, hlk⟩ := mLook_some hpos h
  obtain ⟨h1, h2, h3, h4⟩ := h
  refine ⟨mServe_7 w n, by omega, fun j hj => ?_, fun j hj => ?_⟩
  · rw [mServe_F hlk hk hj (by decide)]
    exact h3 _ (by split <;> omega)
  · rw [mServe_F hlk hk hj (by decide)]
    exact h4 _ (by split <;> omega)
def mRun (w : Nat → Int32) (n : Nat) : Nat → (Nat → Int32)
  | 0 => w
  | j + 1 => mServe (mRun w n j) (n - j)
theorem mRun_ok {w : Nat → Int32} {n : Nat} (h : mOK w n) : ∀ {j : Nat}, j ≤ n → mOK (mRun w n j) (n - j)
  | 0, _ => h
  | j + 1, hj => by
    have h1 := mServe_ok (mRun_ok h (j := j) (by omega)) (by omega)
    rw [show n - j - 1 = n - (j + 1) by omega] at h1
    exact h1
def mServes (w : Nat → Int32) (n : Nat) (many : Int32) : Int32 × (Nat → Int32) :=
  if 1 ≤ many ∧ many ≤ 30 then (if n = 0 then (-5, w) else if 99999 < mRun w n (min many.toNatClampNeg n) 6 then (-5, w) else (nI (min many.toNatClampNeg n), mRun w n (min many.toNatClampNeg n))) else (-2, w)
def mWaits (w : Nat → Int32) (mi : Int32) : Int32 × (Nat → Int32) :=
  if 1 ≤ mi ∧ mi ≤ 999 then (if 99999 < w 6 + mi then (-5, w) else (w 6 + mi, upd w 6 (w 6 + mi))) else (-2, w)
set_option maxHeartbeats 4000000 in
set_option maxRecDepth 100000 in
theorem c_X8_serves (l : Launch) (V : zV) (g : Nat → Nat) (w pa be av sl sv pd cd : Nat → Int32) (st le ap pl wy : Int32) (n : Nat) (many : Int32) (hJ : zInj 9 g) (hok : mOK w n) : Met l yX8_serves wsX8_serves (zR 5 0 0) (zPc V [.ref (g 0), .int many] (fun H => va_P V.1 vwCl (zmW V g w pa be av sl sv pd cd st le ap pl wy) H)) (zQi (fun r H => r = ((mServes w n many).1) ∧ (∃ av' : Nat → Int32, ∃ pl' : Int32, ∃ wy' : Int32, va_P V.1 vwCl (zmW V g ((mServes w n many).2) pa be av' sl sv pd cd st le ap pl' wy') H)) (zIn 9 g)) 0 0 (zIn 9 g) := by
  refine Met.ofW (cc := cX8_serves) (maxL := 3) (ret := (some .int)) (by decide) rfl ?_
  intro p e s m args below meth c s₁ B hml hv
  obtain ⟨rfl, hP, hE⟩ := hv
  have hx := B.exec
  have hb := B.bytes
  have hr := B.returns
  have hts := atoms_spec (ws := wsX8_serves) B.pre
  have hown : s.vm.findClass RX8 = some m.cls := findClass_of_methodNamed B.named
  have hlocks := B.notSynchronized
  have hl := lv_entry ([.ref (g 0), .int many]) (n := 3) (Nat.le_of_ble_eq_true rfl)
  rw [lg_entry_eq]
  generalize (lg_sl ([.ref (g 0), .int many]) ++ List.replicate (3 - (lg_sl ([.ref (g 0), .int many])).length) Slot.unset).toArray = ls at hl ⊢
  have hl : lv_has ls 3 [(0, .ref (g 0)), (1, .int many)] := hl
  have hS : va_S (zIn 9 g) s.heap s.heap [] := va_S.rf
  have hok0 : mOK w n := hok
  obtain ⟨hn, h30, hwr, hfd⟩ := hok
  refine lv_iload_n hx hb dX8_serves_0 rfl (lv_at hl 1 rfl) ?_
  refine lv_i2l (v := many.toInt64) hx hb dX8_serves_1 rfl ?_
  refine lv_iconst (v := 1) hx hb dX8_serves_2 (by decide +kernel) ?_
  refine lv_bipush (v := 30) hx hb dX8_serves_3 (by decide +kernel) ?_
  refine zc_se (va_runS (As := [.long many.toInt64, .int 1, .int 30]) (rest := []) ⟨hx, hb, hml, hown, hts⟩ (c_X8_in l V many 1 30) (va_cwS 3 hts (zgS_ wsM_all uM_14 uM_29 uM_30 uM_21) rfl rfl rfl (by decide +kernel) ⟨Nat.le_of_ble_eq_true rfl, Nat.le_of_ble_eq_true rfl⟩) (zPreS (B := fun _ => True) trivial hE) rfl rfl hl.1 rfl (lv_room (Nat.le_of_ble_eq_true rfl)) dX8_serves_5 ⟨Nat.le_of_ble_eq_true rfl, Nat.le_of_ble_eq_true rfl⟩) ?_
  refine zbp_ne (P := 1 ≤ many ∧ many ≤ 30) (tgt := 14) hx hb dX8_serves_8 (by decide) (fun c_8 => ?_) (fun c_8 => ?_)
  · refine lv_aload_n hx hb dX8_serves_14 rfl (lv_at hl 0 rfl) ?_
    refine zm_get 0 (.ref (g 1)) hx hb hts (fun x h => List.mem_cons_of_mem _ (hU_X8 x h)) hown hE hP (by decide) rfl (hts _ (List.mem_cons_of_mem _ uM_5)) (fun _ h9 => h9) dX8_serves_15 ?_
    refine lv_bipush (v := 7) hx hb dX8_serves_18 (by decide +kernel) ?_
    refine z_iald (k := 7) hx hb hE hP 1 (zm_c1 V g w pa be av sl sv pd cd st le ap pl wy) (by omega) (by decide) dX8_serves_20 ?_
    refine zt_i hn ?_
    refine zb0_ne (x := n) (tgt := 27) hx hb dX8_serves_21 (by decide) (by omega) (fun c_21 => ?_) (fun c_21 => ?_)
    · obtain ⟨q_, rfl, hq1_, hq30_⟩ := z_ix (na := 1) (nb := 30) rfl rfl (by decide) (by decide) c_8
      refine lv_aload_n hx hb dX8_serves_27 rfl (lv_at hl 0 rfl) ?_
      refine zc_v (va_runV (As := []) (rest := []) ⟨hx, hb, hml, hown, hts⟩ (c_X8_layAside l V g w pa be av sl sv pd cd st le ap pl wy  hJ) (cwV 0 hts (zgV_ wsM_all uM_38 uM_93 uM_94 uM_95 uM_21) rfl rfl rfl (by decide +kernel) ⟨Nat.le_of_ble_eq_true rfl, Nat.le_of_ble_eq_true rfl⟩) (zPreV (B := fun H => va_P V.1 vwCl (zmW V g w pa be av sl sv pd cd st le ap pl wy) H) hP hE (va_recv hE.1 hP (ci := 8) (q0 := 0) (q := (RX8, TX8, 13)) rfl (zm_c0 V g w pa be av sl sv pd cd st le ap pl wy))) rfl rfl hl.1 rfl (lv_room (Nat.le_of_ble_eq_true rfl)) dX8_serves_28 ⟨Nat.le_of_ble_eq_true rfl, Nat.le_of_ble_eq_true rfl⟩) hS (fun _ h => h) (fun _ h => h) (fun H locs hQ_ _ _ hS => ?_)
      have hP := hQ_
      refine lv_iconst (v := 0) hx hb dX8_serves_31 (by decide +kernel) ?_
      refine lv_istore_n (lv' := [(2, .int 0), (0, .ref (g 0)), (1, .int (nI q_))]) hx hb dX8_serves_32 rfl hl (by decide) rfl (fun ls hl => ?_)
      have L_33 : ∀ (n_ i : Nat) (pl_ : Int32) (wy_ : Int32) (H : Heap) (locs : List Loc) (ls : Array Slot), i ≤ (min q_ n) → (min q_ n) + 1 ≤ i + n_ → va_P V.1 vwCl (zmW V g (mRun w n i) pa be w sl sv pd cd st le ap pl_ wy_) H → va_S (zIn 9 g) s.heap H locs → lv_has ls 3 [(2, .int (nI i)), (0, .ref (g 0)), (1, .int (nI q_))] → W p l e (headSpec wsX8_serves (zR 5 0 0)).room s m (List.toArray [.ref (g 0), .int (nI q_)]) below meth c H locs 0 0 (MQ below (zQi (fun r H => r = ((mServes w n (nI q_)).1) ∧ (∃ av' : Nat → Int32, ∃ pl' : Int32, ∃ wy' : Int32, va_P V.1 vwCl (zmW V g ((mServes w n (nI q_)).2) pa be av' sl sv pd cd st le ap pl' wy') H)) (zIn 9 g)) (List.toArray [.ref (g 0), .int (nI q_)]) s 0 0 (zIn 9 g)) (F0 m 33 ls []) := by
        intro n_
        induction n_ with
        | zero => intro i pl_ wy_ H locs ls hi_ hn_; exact absurd hn_ (by omega)
        | succ n_ ih =>
          intro i pl_ wy_ H locs ls hi_ hn_  hP hS hl
          refine lv_iload_n hx hb dX8_serves_33 rfl (lv_at hl 0 rfl) ?_
          refine lv_iload_n hx hb dX8_serves_34 rfl (lv_at hl 2 rfl) ?_
          refine zb_ge (x := i) (y := q_) (tgt := 58) hx hb dX8_serves_35 (by decide) (by omega) (by omega) (fun c_35 => ?_) (fun c_35 => ?_)
          · refine lv_aload_n hx hb dX8_serves_58 rfl (lv_at hl 1 rfl) ?_
            refine zm_get 0 (.ref (g 1)) hx hb hts (fun x h => List.mem_cons_of_mem _ (hU_X8 x h)) hown hE hP (by decide) rfl (hts _ (List.mem_cons_of_mem _ uM_5)) (fun _ h9 => h9) dX8_serves_59 ?_
            refine lv_bipush (v := 6) hx hb dX8_serves_62 (by decide +kernel) ?_
            refine z_iald (k := 6) hx hb hE hP 1 (zm_c1 V g (mRun w n i) pa be w sl sv pd cd st le ap pl_ wy_) (by omega) (by decide) dX8_serves_64 ?_
            refine lv_ldc (v := (99999)) hx hb hown (hts _ (List.mem_cons_of_mem _ uM_92)) dX8_serves_65 ?_
            refine lv_icmp_le (tgt := 77) hx hb dX8_serves_67 (by decide) (fun c_67 => ?_) (fun c_67 => ?_)
            · refine lv_iload_n hx hb dX8_serves_77 rfl (lv_at hl 0 rfl) ?_
              exact zr_i hx hb hr hlocks hS (⟨by rw [mServes, if_pos c_8, if_neg c_21, nI_clamp (by omega), show min q_ n = i by omega, if_neg (z_le' c_67)], _, _, _, by rw [show (mServes w n (nI q_)).2 = mRun w n i by rw [mServes, if_pos c_8, if_neg c_21, nI_clamp (by omega), show min q_ n = i by omega, if_neg (z_le' c_67)]]; exact hP⟩) dX8_serves_78
            · refine lv_aload_n hx hb dX8_serves_70 rfl (lv_at hl 1 rfl) ?_
              refine zc_v (va_runV (As := []) (rest := []) ⟨hx, hb, hml, hown, hts⟩ (c_X8_putBack l V g (mRun w n i) pa be w sl sv pd cd st le ap pl_ wy_  hJ) (cwV 0 hts (zgV_ wsM_all uM_39 uM_99 uM_100 uM_101 uM_21) rfl rfl rfl (by decide +kernel) ⟨Nat.le_of_ble_eq_true rfl, Nat.le_of_ble_eq_true rfl⟩) (zPreV (B := fun H => va_P V.1 vwCl (zmW V g (mRun w n i) pa be w sl sv pd cd st le ap pl_ wy_) H) hP hE (va_recv hE.1 hP (ci := 8) (q0 := 0) (q := (RX8, TX8, 13)) rfl (zm_c0 V g (mRun w n i) pa be w sl sv pd cd st le ap pl_ wy_))) rfl rfl hl.1 rfl (lv_room (Nat.le_of_ble_eq_true rfl)) dX8_serves_71 ⟨Nat.le_of_ble_eq_true rfl, Nat.le_of_ble_eq_true rfl⟩) hS (fun _ h => h) (fun _ h => h) (fun H locs hQ_ _ _ hS => ?_)
              have hP := hQ_
              refine lv_bipush (v := (-5)) hx hb dX8_serves_74 (by decide +kernel) ?_
              exact zr_i hx hb hr hlocks hS (⟨by rw [mServes, if_pos c_8, if_neg c_21, nI_clamp (by omega), show min q_ n = i by omega, if_pos (z_nle c_67)], _, _, _, by rw [show (mServes w n (nI q_)).2 = w by rw [mServes, if_pos c_8, if_neg c_21, nI_clamp (by omega), show min q_ n = i by omega, if_pos (z_nle c_67)]]; exact hP⟩) dX8_serves_76
          · refine lv_aload_n hx hb dX8_serves_38 rfl (lv_at hl 1 rfl) ?_
            refine zm_get 0 (.ref (g 1)) hx hb hts (fun x h => List.mem_cons_of_mem _ (hU_X8 x h)) hown hE hP (by decide) rfl (hts _ (List.mem_cons_of_mem _ uM_5)) (fun _ h9 => h9) dX8_serves_39 ?_
            refine lv_bipush (v := 7) hx hb dX8_serves_42 (by decide +kernel) ?_
            refine z_iald (k := 7) hx hb hE hP 1 (zm_c1 V g (mRun w n i) pa be w sl sv pd cd st le ap pl_ wy_) (by omega) (by decide) dX8_serves_44 ?_
            refine zt_i (mRun_ok hok0 (show i ≤ n by omega)).1 ?_
            refine zb0_le (x := n - i) (tgt := 58) hx hb dX8_serves_45 (by decide) (by omega) (fun c_45 => ?_) (fun c_45 => ?_)
            · refine lv_aload_n hx hb dX8_serves_58 rfl (lv_at hl 1 rfl) ?_
              refine zm_get 0 (.ref (g 1)) hx hb hts (fun x h => List.mem_cons_of_mem _ (hU_X8 x h)) hown hE hP (by decide) rfl (hts _ (List.mem_cons_of_mem _ uM_5)) (fun _ h9 => h9) dX8_serves_59 ?_
              refine lv_bipush (v := 6) hx hb dX8_serves_62 (by decide +kernel) ?_
              refine z_iald (k := 6) hx hb hE hP 1 (zm_c1 V g (mRun w n i) pa be w sl sv pd cd st le ap pl_ wy_) (by omega) (by decide) dX8_serves_64 ?_
              refine lv_ldc (v := (99999)) hx hb hown (hts _ (List.mem_cons_of_mem _ uM_92)) dX8_serves_65 ?_
              refine lv_icmp_le (tgt := 77) hx hb dX8_serves_67 (by decide) (fun c_67 => ?_) (fun c_67 => ?_)
              · refine lv_iload_n hx hb dX8_serves_77 rfl (lv_at hl 0 rfl) ?_
                exact zr_i hx hb hr hlocks hS (⟨by rw [mServes, if_pos c_8, if_neg c_21, nI_clamp (by omega), show min q_ n = i by omega, if_neg (z_le' c_67)], _, _, _, by rw [show (mServes w n (nI q_)).2 = mRun w n i by rw [mServes, if_pos c_8, if_neg c_21, nI_clamp (by omega), show min q_ n = i by omega, if_neg (z_le' c_67)]]; exact hP⟩) dX8_serves_78
              · refine lv_aload_n hx hb dX8_serves_70 rfl (lv_at hl 1 rfl) ?_
                refine zc_v (va_runV (As := []) (rest := []) ⟨hx, hb, hml, hown, hts⟩ (c_X8_putBack l V g (mRun w n i) pa be w sl sv pd cd st le ap pl_ wy_  hJ) (cwV 0 hts (zgV_ wsM_all uM_39 uM_99 uM_100 uM_101 uM_21) rfl rfl rfl (by decide +kernel) ⟨Nat.le_of_ble_eq_true rfl, Nat.le_of_ble_eq_true rfl⟩) (zPreV (B := fun H => va_P V.1 vwCl (zmW V g (mRun w n i) pa be w sl sv pd cd st le ap pl_ wy_) H) hP hE (va_recv hE.1 hP (ci := 8) (q0 := 0) (q := (RX8, TX8, 13)) rfl (zm_c0 V g (mRun w n i) pa be w sl sv pd cd st le ap pl_ wy_))) rfl rfl hl.1 rfl (lv_room (Nat.le_of_ble_eq_true rfl)) dX8_serves_71 ⟨Nat.le_of_ble_eq_true rfl, Nat.le_of_ble_eq_true rfl⟩) hS (fun _ h => h) (fun _ h => h) (fun H locs hQ_ _ _ hS => ?_)
                have hP := hQ_
                refine lv_bipush (v := (-5)) hx hb dX8_serves_74 (by decide +kernel) ?_
                exact zr_i hx hb hr hlocks hS (⟨by rw [mServes, if_pos c_8, if_neg c_21, nI_clamp (by omega), show min q_ n = i by omega, if_pos (z_nle c_67)], _, _, _, by rw [show (mServes w n (nI q_)).2 = w by rw [mServes, if_pos c_8, if_neg c_21, nI_clamp (by omega), show min q_ n = i by omega, if_pos (z_nle c_67)]]; exact hP⟩) dX8_serves_76
            · refine lv_aload_n hx hb dX8_serves_48 rfl (lv_at hl 1 rfl) ?_
              refine zc_v (va_runV (As := []) (rest := []) ⟨hx, hb, hml, hown, hts⟩ (c_X8_serveOne l V g (mRun w n i) pa be w sl sv pd cd st le ap pl_ wy_  (n - i) hJ (mRun_ok hok0 (show i ≤ n by omega)) c_45) (cwV 0 hts (zgV_ wsM_all uM_67 uM_96 uM_97 uM_98 uM_21) rfl rfl rfl (by decide +kernel) ⟨Nat.le_of_ble_eq_true rfl, Nat.le_of_ble_eq_true rfl⟩) (zPreV (B := fun H => va_P V.1 vwCl (zmW V g (mRun w n i) pa be w sl sv pd cd st le ap pl_ wy_) H) hP hE (va_recv hE.1 hP (ci := 8) (q0 := 0) (q := (RX8, TX8, 13)) rfl (zm_c0 V g (mRun w n i) pa be w sl sv pd cd st le ap pl_ wy_))) rfl rfl hl.1 rfl (lv_room (Nat.le_of_ble_eq_true rfl)) dX8_serves_49 ⟨Nat.le_of_ble_eq_true rfl, Nat.le_of_ble_eq_true rfl⟩) hS (fun _ h => h) (fun _ h => h) (fun H locs hQ_ _ _ hS => ?_)
              obtain ⟨pl'_1, wy'_2, hP⟩ := hQ_
              refine lv_iinc (v := nI (i + 1)) (lv' := [(2, .int (nI (i + 1))), (0, .ref (g 0)), (1, .int (nI q_))]) hx hb dX8_serves_52 hl (k := 0) rfl (z_inc1 i) (by decide) rfl (fun ls hl => ?_)
              refine lv_goto (tgt := 33) hx hb dX8_serves_55 (by decide) ?_
              exact ih (i + 1) pl'_1 wy'_2 H locs ls (by omega) (by omega) hP hS (lv_sub hl [0, 1, 2] rfl)
      exact L_33 ((min q_ n) + 1) 0 pl wy H locs ls (by omega) (by omega) hP hS (lv_sub hl [0, 1, 2] rfl)
    · refine lv_bipush (v := (-5)) hx hb dX8_serves_24 (by decide +kernel) ?_
      exact zr_i hx hb hr hlocks hS (⟨by rw [mServes, if_pos c_8, if_pos c_21], _, _, _, by rw [show (mServes w n many).2 = w by rw [mServes, if_pos c_8, if_pos c_21]]; exact hP⟩) dX8_serves_26
  · refine lv_bipush (v := (-2)) hx hb dX8_serves_11 (by decide +kernel) ?_
    exact zr_i hx hb hr hlocks hS (⟨by rw [mServes, if_neg c_8], _, _, _, by rw [show (mServes w n many).2 = w by rw [mServes, if_neg c_8]]; exact hP⟩) dX8_serves_13
set_option maxHeartbeats 4000000 in
set_option maxRecDepth 100000 in
theorem c_X8_waits (l : Launch) (V : zV) (g : Nat → Nat) (w pa be av sl sv pd cd : Nat → Int32) (st le ap pl wy : Int32) (mi : Int32) (hJ : zInj 9 g) : Met l yX8_waits wsX8_waits (zR 1 0 0) (zPc V [.ref (g 0), .int mi] (fun H => va_P V.1 vwCl (zmW V g w pa be av sl sv pd cd st le ap pl wy) H)) (zQi (fun r H => r = ((mWaits w mi).1) ∧ va_P V.1 vwCl (zmW V g ((mWaits w mi).2) pa be av sl sv pd cd st le ap pl wy) H) (zIn 9 g)) 0 0 (zIn 9 g) := by
  refine Met.ofW (cc := cX8_waits) (maxL := 2) (ret := (some .int)) (by decide) rfl ?_
  intro p e s m args below meth c s₁ B hml hv
  obtain ⟨rfl, hP, hE⟩ := hv
  have hx := B.exec
  have hb := B.bytes
  have hr := B.returns
  have hts := atoms_spec (ws := wsX8_waits) B.pre
  have hown : s.vm.findClass RX8 = some m.cls := findClass_of_methodNamed B.named
  have hlocks := B.notSynchronized
  have hl := lv_entry ([.ref (g 0), .int mi]) (n := 2) (Nat.le_of_ble_eq_true rfl)
  rw [lg_entry_eq]
  generalize (lg_sl ([.ref (g 0), .int mi]) ++ List.replicate (2 - (lg_sl ([.ref (g 0), .int mi])).length) Slot.unset).toArray = ls at hl ⊢
  have hl : lv_has ls 2 [(0, .ref (g 0)), (1, .int mi)] := hl
  have hS : va_S (zIn 9 g) s.heap s.heap [] := va_S.rf
  refine lv_iload_n hx hb dX8_waits_0 rfl (lv_at hl 1 rfl) ?_
  refine lv_i2l (v := mi.toInt64) hx hb dX8_waits_1 rfl ?_
  refine lv_iconst (v := 1) hx hb dX8_waits_2 (by decide +kernel) ?_
  refine lv_sipush (v := 999) hx hb dX8_waits_3 (by decide +kernel) ?_
  refine zc_se (va_runS (As := [.long mi.toInt64, .int 1, .int 999]) (rest := []) ⟨hx, hb, hml, hown, hts⟩ (c_X8_in l V mi 1 999) (va_cwS 3 hts (zgS_ wsM_all uM_14 uM_29 uM_30 uM_21) rfl rfl rfl (by decide +kernel) ⟨Nat.le_of_ble_eq_true rfl, Nat.le_of_ble_eq_true rfl⟩) (zPreS (B := fun _ => True) trivial hE) rfl rfl hl.1 rfl (lv_room (Nat.le_of_ble_eq_true rfl)) dX8_waits_6 ⟨Nat.le_of_ble_eq_true rfl, Nat.le_of_ble_eq_true rfl⟩) ?_
  refine zbp_ne (P := 1 ≤ mi ∧ mi ≤ 999) (tgt := 15) hx hb dX8_waits_9 (by decide) (fun c_9 => ?_) (fun c_9 => ?_)
  · refine lv_aload_n hx hb dX8_waits_15 rfl (lv_at hl 0 rfl) ?_
    refine zm_get 0 (.ref (g 1)) hx hb hts (fun x h => List.mem_cons_of_mem _ (hU_X8 x h)) hown hE hP (by decide) rfl (hts _ (List.mem_cons_of_mem _ uM_5)) (fun _ h9 => h9) dX8_waits_16 ?_
    refine lv_bipush (v := 6) hx hb dX8_waits_19 (by decide +kernel) ?_
    refine z_iald (k := 6) hx hb hE hP 1 (zm_c1 V g w pa be av sl sv pd cd st le ap pl wy) (by omega) (by decide) dX8_waits_21 ?_
    refine lv_iload_n hx hb dX8_waits_22 rfl (lv_at hl 1 rfl) ?_
    refine lv_iadd hx hb dX8_waits_23 ?_
    refine lv_ldc (v := (99999)) hx hb hown (hts _ (List.mem_cons_of_mem _ uM_92)) dX8_waits_24 ?_
    refine lv_icmp_le (tgt := 32) hx hb dX8_waits_26 (by decide) (fun c_26 => ?_) (fun c_26 => ?_)
    · refine lv_aload_n hx hb dX8_waits_32 rfl (lv_at hl 0 rfl) ?_
      refine zm_get 0 (.ref (g 1)) hx hb hts (fun x h => List.mem_cons_of_mem _ (hU_X8 x h)) hown hE hP (by decide) rfl (hts _ (List.mem_cons_of_mem _ uM_5)) (fun _ h9 => h9) dX8_waits_33 ?_
      refine lv_bipush (v := 6) hx hb dX8_waits_36 (by decide +kernel) ?_
      refine lv_dup2_11 hx hb dX8_waits_38 rfl rfl ?_
      refine z_iald (k := 6) hx hb hE hP 1 (zm_c1 V g w pa be av sl sv pd cd st le ap pl wy) (by omega) (by decide) dX8_waits_39 ?_
      refine lv_iload_n hx hb dX8_waits_40 rfl (lv_at hl 1 rfl) ?_
      refine lv_iadd hx hb dX8_waits_41 ?_
      refine zm_a1 6 ((w 6) + mi) hx hb hE hP hJ hS (by omega) dX8_waits_42 (fun H locs hP hS => ?_)
      obtain ⟨w_1, ew_1⟩ : ∃ z, z = upd w 6 ((w 6) + mi) := ⟨_, rfl⟩
      rw [← ew_1] at hP
      refine lv_aload_n hx hb dX8_waits_43 rfl (lv_at hl 0 rfl) ?_
      refine zm_get 0 (.ref (g 1)) hx hb hts (fun x h => List.mem_cons_of_mem _ (hU_X8 x h)) hown hE hP (by decide) rfl (hts _ (List.mem_cons_of_mem _ uM_5)) (fun _ h9 => h9) dX8_waits_44 ?_
      refine lv_bipush (v := 6) hx hb dX8_waits_47 (by decide +kernel) ?_
      refine z_iald (k := 6) hx hb hE hP 1 (zm_c1 V g w_1 pa be av sl sv pd cd st le ap pl wy) (by omega) (by decide) dX8_waits_49 ?_
      exact zr_i hx hb hr hlocks hS (⟨by rw [mWaits, if_pos c_9, if_neg (z_le' c_26), ew_1]; rfl, by rw [show (mWaits w mi).2 = w_1 by rw [mWaits, if_pos c_9, if_neg (z_le' c_26), ew_1]]; exact hP⟩) dX8_waits_50
    · refine lv_bipush (v := (-5)) hx hb dX8_waits_29 (by decide +kernel) ?_
      exact zr_i hx hb hr hlocks hS (⟨by rw [mWaits, if_pos c_9, if_pos (z_nle c_26)], by rw [show (mWaits w mi).2 = w by rw [mWaits, if_pos c_9, if_pos (z_nle c_26)]]; exact hP⟩) dX8_waits_31
  · refine lv_bipush (v := (-2)) hx hb dX8_waits_12 (by decide +kernel) ?_
    exact zr_i hx hb hr hlocks hS (⟨by rw [mWaits, if_neg c_9], by rw [show (mWaits w mi).2 = w by rw [mWaits, if_neg c_9]]; exact hP⟩) dX8_waits_14
set_option maxHeartbeats 4000000 in
set_option maxRecDepth 100000 in
theorem c_X8_slip (l : Launch) (V : zV) (g : Nat → Nat) (w pa be av sl sv pd cd : Nat → Int32) (st le ap pl wy : Int32) (n k : Nat) (wr d mm : Int32) (hJ : zInj 9 g) (hok : mOK w n) (hst : st = nI k) (hk6 : k ≤ 6) : Met l yX8_slip wsX8_slip (zR 4 0 0) (zPc V [.ref (g 0), .int wr, .int d, .int mm] (fun H => va_P V.1 vwCl (zmW V g w pa be av sl sv pd cd st le ap pl wy) H)) (zQi (fun r H => r = ((mComes w n wr d mm).1) ∧ va_P V.1 vwCl (zmW V g ((mComes w n wr d mm).2) (mRP pa w k ((mComes w n wr d mm).1)) w av sl sv pd cd (nI (mRK k ((mComes w n wr d mm).1))) le ap pl wy) H) (zIn 9 g)) 0 0 (zIn 9 g) := by
  refine Met.ofW (cc := cX8_slip) (maxL := 4) (ret := (some .int)) (by decide) rfl ?_
  intro p e s m args below meth c s₁ B hml hv
  obtain ⟨rfl, hP, hE⟩ := hv
  have hx := B.exec
  have hb := B.bytes
  have hr := B.returns
  have hts := atoms_spec (ws := wsX8_slip) B.pre
  have hown : s.vm.findClass RX8 = some m.cls := findClass_of_methodNamed B.named
  have hlocks := B.notSynchronized
  have hl := lv_entry ([.ref (g 0), .int wr, .int d, .int mm]) (n := 4) (Nat.le_of_ble_eq_true rfl)
  rw [lg_entry_eq]
  generalize (lg_sl ([.ref (g 0), .int wr, .int d, .int mm]) ++ List.replicate (4 - (lg_sl ([.ref (g 0), .int wr, .int d, .int mm])).length) Slot.unset).toArray = ls at hl ⊢
  have hl : lv_has ls 4 [(0, .ref (g 0)), (1, .int wr), (2, .int d), (3, .int mm)] := hl
  have hS : va_S (zIn 9 g) s.heap s.heap [] := va_S.rf
  subst hst
  have hok0 : mOK w n := hok
  obtain ⟨hn, h30, hwr, hfd⟩ := hok
  refine lv_aload_n hx hb dX8_slip_0 rfl (lv_at hl 0 rfl) ?_
  refine zc_v (va_runV (As := []) (rest := []) ⟨hx, hb, hml, hown, hts⟩ (c_X8_remember l V g w pa be av sl sv pd cd (nI k) le ap pl wy  hJ) (cwV 0 hts (zgV_ wsM_all uM_24 uM_32 uM_33 uM_34 uM_21) rfl rfl rfl (by decide +kernel) ⟨Nat.le_of_ble_eq_true rfl, Nat.le_of_ble_eq_true rfl⟩) (zPreV (B := fun H => va_P V.1 vwCl (zmW V g w pa be av sl sv pd cd (nI k) le ap pl wy) H) hP hE (va_recv hE.1 hP (ci := 8) (q0 := 0) (q := (RX8, TX8, 13)) rfl (zm_c0 V g w pa be av sl sv pd cd (nI k) le ap pl wy))) rfl rfl hl.1 rfl (lv_room (Nat.le_of_ble_eq_true rfl)) dX8_slip_1 ⟨Nat.le_of_ble_eq_true rfl, Nat.le_of_ble_eq_true rfl⟩) hS (fun _ h => h) (fun _ h => h) (fun H locs hQ_ _ _ hS => ?_)
  have hP := hQ_
  refine lv_aload_n hx hb dX8_slip_4 rfl (lv_at hl 0 rfl) ?_
  refine lv_aload_n hx hb dX8_slip_5 rfl (lv_at hl 0 rfl) ?_
  refine lv_iload_n hx hb dX8_slip_6 rfl (lv_at hl 1 rfl) ?_
  refine lv_iload_n hx hb dX8_slip_7 rfl (lv_at hl 2 rfl) ?_
  refine lv_iload_n hx hb dX8_slip_8 rfl (lv_at hl 3 rfl) ?_
  refine zc_i (va_runV (As := [.int wr, .int d, .int mm]) (rest := [.ref (g 0)]) ⟨hx, hb, hml, hown, hts⟩ (c_X8_comes l V g w pa w av sl sv pd cd (nI k) le ap pl wy  n wr d mm hJ hn (by omega)) (cwV 3 hts (zgV_ wsM_all uM_85 uM_111 uM_112 uM_113 uM_21) rfl rfl rfl (by decide +kernel) ⟨Nat.le_of_ble_eq_true rfl, Nat.le_of_ble_eq_true rfl⟩) (zPreV (B := fun H => va_P V.1 vwCl (zmW V g w pa w av sl sv pd cd (nI k) le ap pl wy) H) hP hE (va_recv hE.1 hP (ci := 8) (q0 := 0) (q := (RX8, TX8, 13)) rfl (zm_c0 V g w pa w av sl sv pd cd (nI k) le ap pl wy))) rfl rfl hl.1 rfl (lv_room (Nat.le_of_ble_eq_true rfl)) dX8_slip_9 ⟨Nat.le_of_ble_eq_true rfl, Nat.le_of_ble_eq_true rfl⟩) hS (fun _ h => h) (fun _ h => h) (fun r_ H locs hQ_ _ _ hS => ?_)
  obtain ⟨hr_, hP⟩ := hQ_
  subst hr_
  refine zc_i (va_runV (As := [.int ((mComes w n wr d mm).1)]) (rest := []) ⟨hx, hb, hml, hown, hts⟩ (c_X8_record l V g ((mComes w n wr d mm).2) pa w av sl sv pd cd (nI k) le ap pl wy  k ((mComes w n wr d mm).1) hJ rfl (by omega)) (cwV 1 hts (zgV_ wsM_all uM_25 uM_35 uM_36 uM_37 uM_21) rfl rfl rfl (by decide +kernel) ⟨Nat.le_of_ble_eq_true rfl, Nat.le_of_ble_eq_true rfl⟩) (zPreV (B := fun H => va_P V.1 vwCl (zmW V g ((mComes w n wr d mm).2) pa w av sl sv pd cd (nI k) le ap pl wy) H) hP hE (va_recv hE.1 hP (ci := 8) (q0 := 0) (q := (RX8, TX8, 13)) rfl (zm_c0 V g ((mComes w n wr d mm).2) pa w av sl sv pd cd (nI k) le ap pl wy))) rfl rfl hl.1 rfl (lv_room (Nat.le_of_ble_eq_true rfl)) dX8_slip_12 ⟨Nat.le_of_ble_eq_true rfl, Nat.le_of_ble_eq_true rfl⟩) hS (fun _ h => h) (fun _ h => h) (fun r_ H locs hQ_ _ _ hS => ?_)
  obtain ⟨hr_, hP⟩ := hQ_
  subst hr_
  exact zr_i hx hb hr hlocks hS (⟨rfl, hP⟩) dX8_slip_15
set_option maxHeartbeats 4000000 in
set_option maxRecDepth 100000 in
theorem c_X8_serve (l : Launch) (V : zV) (g : Nat → Nat) (w pa be av sl sv pd cd : Nat → Int32) (st le ap pl wy : Int32) (n k : Nat) (many : Int32) (hJ : zInj 9 g) (hok : mOK w n) (hst : st = nI k) (hk6 : k ≤ 6) : Met l yX8_serve wsX8_serve (zR 6 0 0) (zPc V [.ref (g 0), .int many] (fun H => va_P V.1 vwCl (zmW V g w pa be av sl sv pd cd st le ap pl wy) H)) (zQi (fun r H => r = ((mServes w n many).1) ∧ (∃ av' : Nat → Int32, ∃ pl' : Int32, ∃ wy' : Int32, va_P V.1 vwCl (zmW V g ((mServes w n many).2) (mRP pa w k ((mServes w n many).1)) w av' sl sv pd cd (nI (mRK k ((mServes w n many).1))) le ap pl' wy') H)) (zIn 9 g)) 0 0 (zIn 9 g) := by
  refine Met.ofW (cc := cX8_serve) (maxL := 2) (ret := (some .int)) (by decide) rfl ?_
  intro p e s m args below meth c s₁ B hml hv
  obtain ⟨rfl, hP, hE⟩ := hv
  have hx := B.exec
  have hb := B.bytes
  have hr := B.returns
  have hts := atoms_spec (ws := wsX8_serve) B.pre
  have hown : s.vm.findClass RX8 = some m.cls := findClass_of_methodNamed B.named
  have hlocks := B.notSynchronized
  have hl := lv_entry ([.ref (g 0), .int many]) (n := 2) (Nat.le_of_ble_eq_true rfl)
  rw [lg_entry_eq]
  generalize (lg_sl ([.ref (g 0), .int many]) ++ List.replicate (2 - (lg_sl ([.ref (g 0), .int many])).length) Slot.unset).toArray = ls at hl ⊢
  have hl : lv_has ls 2 [(0, .ref (g 0)), (1, .int many)] := hl
  have hS : va_S (zIn 9 g) s.heap s.heap [] := va_S.rf
  subst hst
  have hok0 : mOK w n := hok
  obtain ⟨hn, h30, hwr, hfd⟩ := hok
  refine lv_aload_n hx hb dX8_serve_0 rfl (lv_at hl 0 rfl) ?_
  refine zc_v (va_runV (As := []) (rest := []) ⟨hx, hb, hml, hown, hts⟩ (c_X8_remember l V g w pa be av sl sv pd cd (nI k) le ap pl wy  hJ) (cwV 0 hts (zgV_ wsM_all uM_24 uM_32 uM_33 uM_34 uM_21) rfl rfl rfl (by decide +kernel) ⟨Nat.le_of_ble_eq_true rfl, Nat.le_of_ble_eq_true rfl⟩) (zPreV (B := fun H => va_P V.1 vwCl (zmW V g w pa be av sl sv pd cd (nI k) le ap pl wy) H) hP hE (va_recv hE.1 hP (ci := 8) (q0 := 0) (q := (RX8, TX8, 13)) rfl (zm_c0 V g w pa be av sl sv pd cd (nI k) le ap pl wy))) rfl rfl hl.1 rfl (lv_room (Nat.le_of_ble_eq_true rfl)) dX8_serve_1 ⟨Nat.le_of_ble_eq_true rfl, Nat.le_of_ble_eq_true rfl⟩) hS (fun _ h => h) (fun _ h => h) (fun H locs hQ_ _ _ hS => ?_)
  have hP := hQ_
  refine lv_aload_n hx hb dX8_serve_4 rfl (lv_at hl 0 rfl) ?_
  refine lv_aload_n hx hb dX8_serve_5 rfl (lv_at hl 0 rfl) ?_
  refine lv_iload_n hx hb dX8_serve_6 rfl (lv_at hl 1 rfl) ?_
  refine zc_i (va_runV (As := [.int many]) (rest := [.ref (g 0)]) ⟨hx, hb, hml, hown, hts⟩ (c_X8_serves l V g w pa w av sl sv pd cd (nI k) le ap pl wy  n many hJ hok0) (cwV 1 hts (zgV_ wsM_all uM_91 uM_119 uM_120 uM_121 uM_21) rfl rfl rfl (by decide +kernel) ⟨Nat.le_of_ble_eq_true rfl, Nat.le_of_ble_eq_true rfl⟩) (zPreV (B := fun H => va_P V.1 vwCl (zmW V g w pa w av sl sv pd cd (nI k) le ap pl wy) H) hP hE (va_recv hE.1 hP (ci := 8) (q0 := 0) (q := (RX8, TX8, 13)) rfl (zm_c0 V g w pa w av sl sv pd cd (nI k) le ap pl wy))) rfl rfl hl.1 rfl (lv_room (Nat.le_of_ble_eq_true rfl)) dX8_serve_7 ⟨Nat.le_of_ble_eq_true rfl, Nat.le_of_ble_eq_true rfl⟩) hS (fun _ h => h) (fun _ h => h) (fun r_ H locs hQ_ _ _ hS => ?_)
  obtain ⟨hr_, av'_1, pl'_2, wy'_3, hP⟩ := hQ_
  subst hr_
  refine zc_i (va_runV (As := [.int ((mServes w n many).1)]) (rest := []) ⟨hx, hb, hml, hown, hts⟩ (c_X8_record l V g ((mServes w n many).2) pa w av'_1 sl sv pd cd (nI k) le ap pl'_2 wy'_3  k ((mServes w n many).1) hJ rfl (by omega)) (cwV 1 hts (zgV_ wsM_all uM_25 uM_35 uM_36 uM_37 uM_21) rfl rfl rfl (by decide +kernel) ⟨Nat.le_of_ble_eq_true rfl, Nat.le_of_ble_eq_true rfl⟩) (zPreV (B := fun H => va_P V.1 vwCl (zmW V g ((mServes w n many).2) pa w av'_1 sl sv pd cd (nI k) le ap pl'_2 wy'_3) H) hP hE (va_recv hE.1 hP (ci := 8) (q0 := 0) (q := (RX8, TX8, 13)) rfl (zm_c0 V g ((mServes w n many).2) pa w av'_1 sl sv pd cd (nI k) le ap pl'_2 wy'_3))) rfl rfl hl.1 rfl (lv_room (Nat.le_of_ble_eq_true rfl)) dX8_serve_10 ⟨Nat.le_of_ble_eq_true rfl, Nat.le_of_ble_eq_true rfl⟩) hS (fun _ h => h) (fun _ h => h) (fun r_ H locs hQ_ _ _ hS => ?_)
  obtain ⟨hr_, hP⟩ := hQ_
  subst hr_
  exact zr_i hx hb hr hlocks hS (⟨rfl, _, _, _, hP⟩) dX8_serve_13
set_option maxHeartbeats 4000000 in
set_option maxRecDepth 100000 in
theorem c_X8_pass (l : Launch) (V : zV) (g : Nat → Nat) (w pa be av sl sv pd cd : Nat → Int32) (st le ap pl wy : Int32) (n k : Nat) (mi : Int32) (hJ : zInj 9 g) (hok : mOK w n) (hst : st = nI k) (hk6 : k ≤ 6) : Met l yX8_pass wsX8_pass (zR 2 0 0) (zPc V [.ref (g 0), .int mi] (fun H => va_P V.1 vwCl (zmW V g w pa be av sl sv pd cd st le ap pl wy) H)) (zQi (fun r H => r = ((mWaits w mi).1) ∧ va_P V.1 vwCl (zmW V g ((mWaits w mi).2) (mRP pa w k ((mWaits w mi).1)) w av sl sv pd cd (nI (mRK k ((mWaits w mi).1))) le ap pl wy) H) (zIn 9 g)) 0 0 (zIn 9 g) := by
  refine Met.ofW (cc := cX8_pass) (maxL := 2) (ret := (some .int)) (by decide) rfl ?_
  intro p e s m args below meth c s₁ B hml hv
  obtain ⟨rfl, hP, hE⟩ := hv
  have hx := B.exec
  have hb := B.bytes
  have hr := B.returns
  have hts := atoms_spec (ws := wsX8_pass) B.pre
  have hown : s.vm.findClass RX8 = some m.cls := findClass_of_methodNamed B.named
  have hlocks := B.notSynchronized
  have hl := lv_entry ([.ref (g 0), .int mi]) (n := 2) (Nat.le_of_ble_eq_true rfl)
  rw [lg_entry_eq]
  generalize (lg_sl ([.ref (g 0), .int mi]) ++ List.replicate (2 - (lg_sl ([.ref (g 0), .int mi])).length) Slot.unset).toArray = ls at hl ⊢
  have hl : lv_has ls 2 [(0, .ref (g 0)), (1, .int mi)] := hl
  have hS : va_S (zIn 9 g) s.heap s.heap [] := va_S.rf
  subst hst
  have hok0 : mOK w n := hok
  obtain ⟨hn, h30, hwr, hfd⟩ := hok
  refine lv_aload_n hx hb dX8_pass_0 rfl (lv_at hl 0 rfl) ?_
  refine zc_v (va_runV (As := []) (rest := []) ⟨hx, hb, hml, hown, hts⟩ (c_X8_remember l V g w pa be av sl sv pd cd (nI k) le ap pl wy  hJ) (cwV 0 hts (zgV_ wsM_all uM_24 uM_32 uM_33 uM_34 uM_21) rfl rfl rfl (by decide +kernel) ⟨Nat.le_of_ble_eq_true rfl, Nat.le_of_ble_eq_true rfl⟩) (zPreV (B := fun H => va_P V.1 vwCl (zmW V g w pa be av sl sv pd cd (nI k) le ap pl wy) H) hP hE (va_recv hE.1 hP (ci := 8) (q0 := 0) (q := (RX8, TX8, 13)) rfl (zm_c0 V g w pa be av sl sv pd cd (nI k) le ap pl wy))) rfl rfl hl.1 rfl (lv_room (Nat.le_of_ble_eq_true rfl)) dX8_pass_1 ⟨Nat.le_of_ble_eq_true rfl, Nat.le_of_ble_eq_true rfl⟩) hS (fun _ h => h) (fun _ h => h) (fun H locs hQ_ _ _ hS => ?_)
  have hP := hQ_
  refine lv_aload_n hx hb dX8_pass_4 rfl (lv_at hl 0 rfl) ?_
  refine lv_aload_n hx hb dX8_pass_5 rfl (lv_at hl 0 rfl) ?_
  refine lv_iload_n hx hb dX8_pass_6 rfl (lv_at hl 1 rfl) ?_
  refine zc_i (va_runV (As := [.int mi]) (rest := [.ref (g 0)]) ⟨hx, hb, hml, hown, hts⟩ (c_X8_waits l V g w pa w av sl sv pd cd (nI k) le ap pl wy  mi hJ) (cwV 1 hts (zgV_ wsM_all uM_102 uM_123 uM_124 uM_125 uM_21) rfl rfl rfl (by decide +kernel) ⟨Nat.le_of_ble_eq_true rfl, Nat.le_of_ble_eq_true rfl⟩) (zPreV (B := fun H => va_P V.1 vwCl (zmW V g w pa w av sl sv pd cd (nI k) le ap pl wy) H) hP hE (va_recv hE.1 hP (ci := 8) (q0 := 0) (q := (RX8, TX8, 13)) rfl (zm_c0 V g w pa w av sl sv pd cd (nI k) le ap pl wy))) rfl rfl hl.1 rfl (lv_room (Nat.le_of_ble_eq_true rfl)) dX8_pass_7 ⟨Nat.le_of_ble_eq_true rfl, Nat.le_of_ble_eq_true rfl⟩) hS (fun _ h => h) (fun _ h => h) (fun r_ H locs hQ_ _ _ hS => ?_)
  obtain ⟨hr_, hP⟩ := hQ_
  subst hr_
  refine zc_i (va_runV (As := [.int ((mWaits w mi).1)]) (rest := []) ⟨hx, hb, hml, hown, hts⟩ (c_X8_record l V g ((mWaits w mi).2) pa w av sl sv pd cd (nI k) le ap pl wy  k ((mWaits w mi).1) hJ rfl (by omega)) (cwV 1 hts (zgV_ wsM_all uM_25 uM_35 uM_36 uM_37 uM_21) rfl rfl rfl (by decide +kernel) ⟨Nat.le_of_ble_eq_true rfl, Nat.le_of_ble_eq_true rfl⟩) (zPreV (B := fun H => va_P V.1 vwCl (zmW V g ((mWaits w mi).2) pa w av sl sv pd cd (nI k) le ap pl wy) H) hP hE (va_recv hE.1 hP (ci := 8) (q0 := 0) (q := (RX8, TX8, 13)) rfl (zm_c0 V g ((mWaits w mi).2) pa w av sl sv pd cd (nI k) le ap pl wy))) rfl rfl hl.1 rfl (lv_room (Nat.le_of_ble_eq_true rfl)) dX8_pass_10 ⟨Nat.le_of_ble_eq_true rfl, Nat.le_of_ble_eq_true rfl⟩) hS (fun _ h => h) (fun _ h => h) (fun r_ H locs hQ_ _ _ hS => ?_)
  obtain ⟨hr_, hP⟩ := hQ_
  subst hr_
  exact zr_i hx hb hr hlocks hS (⟨rfl, hP⟩) dX8_pass_13
def mTear (w pa : Nat → Int32) (n k : Nat) (x : Int32) : Int32 × (Nat → Int32) × (Nat → Int32) × Nat := match mFind w n x with
  | none => (-1, w, pa, k)
  | some j => (w 6 - zF w j 4, mDrop w n j, mRP pa w k (w 6 - zF w j 4), mRK k (w 6 - zF w j 4))
def mSet (w pa : Nat → Int32) (k : Nat) (x v : Int32) : Int32 × (Nat → Int32) × (Nat → Int32) × Nat :=
  if (0 ≤ x ∧ x ≤ 5) ∧ (mLeast x ≤ v ∧ v ≤ mMost x) then (w x.toNatClampNeg, upd w x.toNatClampNeg v, mRP pa w k (w x.toNatClampNeg), mRK k (w x.toNatClampNeg)) else (-2, w, pa, k)
set_option maxHeartbeats 4000000 in
set_option maxRecDepth 100000 in
theorem c_X8_tear (l : Launch) (V : zV) (g : Nat → Nat) (w pa be av sl sv pd cd : Nat → Int32) (st le ap pl wy : Int32) (n k : Nat) (x : Int32) (hJ : zInj 9 g) (hok : mOK w n) (hst : st = nI k) (hk6 : k ≤ 6) : Met l yX8_tear wsX8_tear (zR 2 0 0) (zPc V [.ref (g 0), .int x] (fun H => va_P V.1 vwCl (zmW V g w pa be av sl sv pd cd st le ap pl wy) H)) (zQi (fun r H => r = ((mTear w pa n k x).1) ∧ (∃ be' : Nat → Int32, va_P V.1 vwCl (zmW V g ((mTear w pa n k x).2.1) ((mTear w pa n k x).2.2.1) be' av sl sv pd cd (nI (mTear w pa n k x).2.2.2) le ap pl wy) H)) (zIn 9 g)) 0 0 (zIn 9 g) := by
  refine Met.ofW (cc := cX8_tear) (maxL := 4) (ret := (some .int)) (by decide) rfl ?_
  intro p e s m args below meth c s₁ B hml hv
  obtain ⟨rfl, hP, hE⟩ := hv
  have hx := B.exec
  have hb := B.bytes
  have hr := B.returns
  have hts := atoms_spec (ws := wsX8_tear) B.pre
  have hown : s.vm.findClass RX8 = some m.cls := findClass_of_methodNamed B.named
  have hlocks := B.notSynchronized
  have hl := lv_entry ([.ref (g 0), .int x]) (n := 4) (Nat.le_of_ble_eq_true rfl)
  rw [lg_entry_eq]
  generalize (lg_sl ([.ref (g 0), .int x]) ++ List.replicate (4 - (lg_sl ([.ref (g 0), .int x])).length) Slot.unset).toArray = ls at hl ⊢
  have hl : lv_has ls 4 [(0, .ref (g 0)), (1, .int x)] := hl
  have hS : va_S (zIn 9 g) s.heap s.heap [] := va_S.rf
  subst hst
  have hok0 : mOK w n := hok
  obtain ⟨hn, h30, hwr, hfd⟩ := hok
  refine lv_aload_n hx hb dX8_tear_0 rfl (lv_at hl 0 rfl) ?_
  refine lv_iload_n hx hb dX8_tear_1 rfl (lv_at hl 1 rfl) ?_
  refine zc_se (va_runV (As := [.int x]) (rest := []) ⟨hx, hb, hml, hown, hts⟩ (c_X8_find l V g w pa be av sl sv pd cd (nI k) le ap pl wy n x hn h30) (cwV 1 hts (zgV_ wsM_all uM_22 uM_115 uM_116 uM_117 uM_21) rfl rfl rfl (by decide +kernel) ⟨Nat.le_of_ble_eq_true rfl, Nat.le_of_ble_eq_true rfl⟩) (zPreV (B := fun H => va_P V.1 vwCl (zmW V g w pa be av sl sv pd cd (nI k) le ap pl wy) H) hP hE (va_recv hE.1 hP (ci := 8) (q0 := 0) (q := (RX8, TX8, 13)) rfl (zm_c0 V g w pa be av sl sv pd cd (nI k) le ap pl wy))) rfl rfl hl.1 rfl (lv_room (Nat.le_of_ble_eq_true rfl)) dX8_tear_2 ⟨Nat.le_of_ble_eq_true rfl, Nat.le_of_ble_eq_true rfl⟩) ?_
  rcases hq : mFind w n x with _ | j
  · refine zt_i (y := (-6)) (by first | rfl | exact congrArg zoI hq) ?_
    refine lv_istore_n (lv' := [(2, .int (-6)), (0, .ref (g 0)), (1, .int x)]) hx hb dX8_tear_5 rfl hl (by decide) rfl (fun ls hl => ?_)
    refine lv_iload_n hx hb dX8_tear_6 rfl (lv_at hl 0 rfl) ?_
    refine lv_bipush (v := (-6)) hx hb dX8_tear_7 (by decide +kernel) ?_
    refine lv_icmp_ne (tgt := 14) hx hb dX8_tear_9 (by decide) (fun c_9 => ?_) (fun c_9 => ?_)
    · exact absurd rfl c_9
    · refine lv_iconst (v := (-1)) hx hb dX8_tear_12 (by decide +kernel) ?_
      exact zr_i hx hb hr hlocks hS (⟨by rw [mTear, hq], _, by rw [show mTear w pa n k x = (-1, w, pa, k) by rw [mTear, hq]]; exact hP⟩) dX8_tear_13
  · refine zt_i (y := nI j) (by first | rfl | exact congrArg zoI hq) ?_
    have hjn : j < n := (zFirst_lt hq).1
    refine lv_istore_n (lv' := [(2, .int (nI j)), (0, .ref (g 0)), (1, .int x)]) hx hb dX8_tear_5 rfl hl (by decide) rfl (fun ls hl => ?_)
    refine lv_iload_n hx hb dX8_tear_6 rfl (lv_at hl 0 rfl) ?_
    refine lv_bipush (v := (-6)) hx hb dX8_tear_7 (by decide +kernel) ?_
    refine lv_icmp_ne (tgt := 14) hx hb dX8_tear_9 (by decide) (fun c_9 => ?_) (fun c_9 => ?_)
    · refine lv_aload_n hx hb dX8_tear_14 rfl (lv_at hl 1 rfl) ?_
      refine zc_v (va_runV (As := []) (rest := []) ⟨hx, hb, hml, hown, hts⟩ (c_X8_remember l V g w pa be av sl sv pd cd (nI k) le ap pl wy  hJ) (cwV 0 hts (zgV_ wsM_all uM_24 uM_32 uM_33 uM_34 uM_21) rfl rfl rfl (by decide +kernel) ⟨Nat.le_of_ble_eq_true rfl, Nat.le_of_ble_eq_true rfl⟩) (zPreV (B := fun H => va_P V.1 vwCl (zmW V g w pa be av sl sv pd cd (nI k) le ap pl wy) H) hP hE (va_recv hE.1 hP (ci := 8) (q0 := 0) (q := (RX8, TX8, 13)) rfl (zm_c0 V g w pa be av sl sv pd cd (nI k) le ap pl wy))) rfl rfl hl.1 rfl (lv_room (Nat.le_of_ble_eq_true rfl)) dX8_tear_15 ⟨Nat.le_of_ble_eq_true rfl, Nat.le_of_ble_eq_true rfl⟩) hS (fun _ h => h) (fun _ h => h) (fun H locs hQ_ _ _ hS => ?_)
      have hP := hQ_
      refine lv_aload_n hx hb dX8_tear_18 rfl (lv_at hl 1 rfl) ?_
      refine zm_get 0 (.ref (g 1)) hx hb hts (fun x h => List.mem_cons_of_mem _ (hU_X8 x h)) hown hE hP (by decide) rfl (hts _ (List.mem_cons_of_mem _ uM_5)) (fun _ h9 => h9) dX8_tear_19 ?_
      refine lv_bipush (v := 6) hx hb dX8_tear_22 (by decide +kernel) ?_
      refine z_iald (k := 6) hx hb hE hP 1 (zm_c1 V g w pa w av sl sv pd cd (nI k) le ap pl wy) (by omega) (by decide) dX8_tear_24 ?_
      refine lv_aload_n hx hb dX8_tear_25 rfl (lv_at hl 1 rfl) ?_
      refine lv_iload_n hx hb dX8_tear_26 rfl (lv_at hl 0 rfl) ?_
      refine lv_iconst (v := 4) hx hb dX8_tear_27 (by decide +kernel) ?_
      refine zc_se (va_runV (As := [.int (nI j), .int 4]) (rest := [.int (w 6)]) ⟨hx, hb, hml, hown, hts⟩ (c_X8_its l V g w pa w av sl sv pd cd (nI k) le ap pl wy j 4 (by omega)) (cwV 2 hts (zgV_ wsM_all uM_16 uM_18 uM_19 uM_20 uM_21) rfl rfl rfl (by decide +kernel) ⟨Nat.le_of_ble_eq_true rfl, Nat.le_of_ble_eq_true rfl⟩) (zPreV (B := fun H => va_P V.1 vwCl (zmW V g w pa w av sl sv pd cd (nI k) le ap pl wy) H) hP hE (va_recv hE.1 hP (ci := 8) (q0 := 0) (q := (RX8, TX8, 13)) rfl (zm_c0 V g w pa w av sl sv pd cd (nI k) le ap pl wy))) rfl rfl hl.1 rfl (lv_room (Nat.le_of_ble_eq_true rfl)) dX8_tear_28 ⟨Nat.le_of_ble_eq_true rfl, Nat.le_of_ble_eq_true rfl⟩) ?_
      refine lv_isub hx hb dX8_tear_31 ?_
      refine lv_istore_n (lv' := [(3, .int ((w 6) - (zF w j 4))), (2, .int (nI j)), (0, .ref (g 0)), (1, .int x)]) hx hb dX8_tear_32 rfl hl (by decide) rfl (fun ls hl => ?_)
      refine lv_aload_n hx hb dX8_tear_33 rfl (lv_at hl 2 rfl) ?_
      refine lv_iload_n hx hb dX8_tear_34 rfl (lv_at hl 1 rfl) ?_
      refine zc_v (va_runV (As := [.int (nI j)]) (rest := []) ⟨hx, hb, hml, hown, hts⟩ (c_X8_drop l V g w pa w av sl sv pd cd (nI k) le ap pl wy  n j hJ hn h30 (by omega)) (cwV 1 hts (zgV_ wsM_all uM_65 uM_80 uM_81 uM_82 uM_21) rfl rfl rfl (by decide +kernel) ⟨Nat.le_of_ble_eq_true rfl, Nat.le_of_ble_eq_true rfl⟩) (zPreV (B := fun H => va_P V.1 vwCl (zmW V g w pa w av sl sv pd cd (nI k) le ap pl wy) H) hP hE (va_recv hE.1 hP (ci := 8) (q0 := 0) (q := (RX8, TX8, 13)) rfl (zm_c0 V g w pa w av sl sv pd cd (nI k) le ap pl wy))) rfl rfl hl.1 rfl (lv_room (Nat.le_of_ble_eq_true rfl)) dX8_tear_35 ⟨Nat.le_of_ble_eq_true rfl, Nat.le_of_ble_eq_true rfl⟩) hS (fun _ h => h) (fun _ h => h) (fun H locs hQ_ _ _ hS => ?_)
      have hP := hQ_
      refine lv_aload_n hx hb dX8_tear_38 rfl (lv_at hl 2 rfl) ?_
      refine lv_iload_n hx hb dX8_tear_39 rfl (lv_at hl 0 rfl) ?_
      refine zc_i (va_runV (As := [.int ((w 6) - (zF w j 4))]) (rest := []) ⟨hx, hb, hml, hown, hts⟩ (c_X8_record l V g (mDrop w n j) pa w av sl sv pd cd (nI k) le ap pl wy  k ((w 6) - (zF w j 4)) hJ rfl (by omega)) (cwV 1 hts (zgV_ wsM_all uM_25 uM_35 uM_36 uM_37 uM_21) rfl rfl rfl (by decide +kernel) ⟨Nat.le_of_ble_eq_true rfl, Nat.le_of_ble_eq_true rfl⟩) (zPreV (B := fun H => va_P V.1 vwCl (zmW V g (mDrop w n j) pa w av sl sv pd cd (nI k) le ap pl wy) H) hP hE (va_recv hE.1 hP (ci := 8) (q0 := 0) (q := (RX8, TX8, 13)) rfl (zm_c0 V g (mDrop w n j) pa w av sl sv pd cd (nI k) le ap pl wy))) rfl rfl hl.1 rfl (lv_room (Nat.le_of_ble_eq_true rfl)) dX8_tear_40 ⟨Nat.le_of_ble_eq_true rfl, Nat.le_of_ble_eq_true rfl⟩) hS (fun _ h => h) (fun _ h => h) (fun r_ H locs hQ_ _ _ hS => ?_)
      obtain ⟨hr_, hP⟩ := hQ_
      subst hr_
      exact zr_i hx hb hr hlocks hS (⟨by rw [mTear, hq], _, by rw [show mTear w pa n k x = (w 6 - zF w j 4, mDrop w n j, mRP pa w k (w 6 - zF w j 4), mRK k (w 6 - zF w j 4)) by rw [mTear, hq]]; exact hP⟩) dX8_tear_43
    · exact absurd c_9 (z_n6 (by omega))
set_option maxHeartbeats 4000000 in
set_option maxRecDepth 100000 in
theorem c_X8_set (l : Launch) (V : zV) (g : Nat → Nat) (w pa be av sl sv pd cd : Nat → Int32) (st le ap pl wy : Int32) (k : Nat) (x v_ : Int32) (hJ : zInj 9 g) (hst : st = nI k) (hk6 : k ≤ 6) : Met l yX8_set wsX8_set (zR 1 0 0) (zPc V [.ref (g 0), .int x, .int v_] (fun H => va_P V.1 vwCl (zmW V g w pa be av sl sv pd cd st le ap pl wy) H)) (zQi (fun r H => r = ((mSet w pa k x v_).1) ∧ (∃ be' : Nat → Int32, va_P V.1 vwCl (zmW V g ((mSet w pa k x v_).2.1) ((mSet w pa k x v_).2.2.1) be' av sl sv pd cd (nI (mSet w pa k x v_).2.2.2) le ap pl wy) H)) (zIn 9 g)) 0 0 (zIn 9 g) := by
  refine Met.ofW (cc := cX8_set) (maxL := 4) (ret := (some .int)) (by decide) rfl ?_
  intro p e s m args below meth c s₁ B hml hv
  obtain ⟨rfl, hP, hE⟩ := hv
  have hx := B.exec
  have hb := B.bytes
  have hr := B.returns
  have hts := atoms_spec (ws := wsX8_set) B.pre
  have hown : s.vm.findClass RX8 = some m.cls := findClass_of_methodNamed B.named
  have hlocks := B.notSynchronized
  have hl := lv_entry ([.ref (g 0), .int x, .int v_]) (n := 4) (Nat.le_of_ble_eq_true rfl)
  rw [lg_entry_eq]
  generalize (lg_sl ([.ref (g 0), .int x, .int v_]) ++ List.replicate (4 - (lg_sl ([.ref (g 0), .int x, .int v_])).length) Slot.unset).toArray = ls at hl ⊢
  have hl : lv_has ls 4 [(0, .ref (g 0)), (1, .int x), (2, .int v_)] := hl
  have hS : va_S (zIn 9 g) s.heap s.heap [] := va_S.rf
  subst hst
  refine lv_iload_n hx hb dX8_set_0 rfl (lv_at hl 1 rfl) ?_
  refine lv_i2l (v := x.toInt64) hx hb dX8_set_1 rfl ?_
  refine lv_iconst (v := 0) hx hb dX8_set_2 (by decide +kernel) ?_
  refine lv_iconst (v := 5) hx hb dX8_set_3 (by decide +kernel) ?_
  refine zc_se (va_runS (As := [.long x.toInt64, .int 0, .int 5]) (rest := []) ⟨hx, hb, hml, hown, hts⟩ (c_X8_in l V x 0 5) (va_cwS 3 hts (zgS_ wsM_all uM_14 uM_29 uM_30 uM_21) rfl rfl rfl (by decide +kernel) ⟨Nat.le_of_ble_eq_true rfl, Nat.le_of_ble_eq_true rfl⟩) (zPreS (B := fun _ => True) trivial hE) rfl rfl hl.1 rfl (lv_room (Nat.le_of_ble_eq_true rfl)) dX8_set_4 ⟨Nat.le_of_ble_eq_true rfl, Nat.le_of_ble_eq_true rfl⟩) ?_
  refine zbp_eq (P := 0 ≤ x ∧ x ≤ 5) (tgt := 26) hx hb dX8_set_7 (by decide) (fun c_7 => ?_) (fun c_7 => ?_)
  · refine lv_bipush (v := (-2)) hx hb dX8_set_26 (by decide +kernel) ?_
    exact zr_i hx hb hr hlocks hS (⟨by rw [mSet, if_neg (by first | exact fun h => c_7 h.1 | exact fun h => c_23 h.2)], _, by rw [show mSet w pa k x v_ = (-2, w, pa, k) by rw [mSet, if_neg (by first | exact fun h => c_7 h.1 | exact fun h => c_23 h.2)]]; exact hP⟩) dX8_set_28
  · refine lv_iload_n hx hb dX8_set_10 rfl (lv_at hl 2 rfl) ?_
    refine lv_i2l (v := v_.toInt64) hx hb dX8_set_11 rfl ?_
    refine lv_iload_n hx hb dX8_set_12 rfl (lv_at hl 1 rfl) ?_
    refine zc_se (va_runS (As := [.int x]) (rest := [.long v_.toInt64]) ⟨hx, hb, hml, hown, hts⟩ (c_X8_leastOf l V x) (va_cwS 1 hts (zgS_ wsM_all uM_103 uM_106 uM_107 uM_21) rfl rfl rfl (by decide +kernel) ⟨Nat.le_of_ble_eq_true rfl, Nat.le_of_ble_eq_true rfl⟩) (zPreS (B := fun _ => True) trivial hE) rfl rfl hl.1 rfl (lv_room (Nat.le_of_ble_eq_true rfl)) dX8_set_13 ⟨Nat.le_of_ble_eq_true rfl, Nat.le_of_ble_eq_true rfl⟩) ?_
    refine lv_iload_n hx hb dX8_set_16 rfl (lv_at hl 1 rfl) ?_
    refine zc_se (va_runS (As := [.int x]) (rest := [.int (mLeast x), .long v_.toInt64]) ⟨hx, hb, hml, hown, hts⟩ (c_X8_mostOf l V x) (va_cwS 1 hts (zgS_ wsM_all uM_104 uM_108 uM_109 uM_21) rfl rfl rfl (by decide +kernel) ⟨Nat.le_of_ble_eq_true rfl, Nat.le_of_ble_eq_true rfl⟩) (zPreS (B := fun _ => True) trivial hE) rfl rfl hl.1 rfl (lv_room (Nat.le_of_ble_eq_true rfl)) dX8_set_17 ⟨Nat.le_of_ble_eq_true rfl, Nat.le_of_ble_eq_true rfl⟩) ?_
    refine zc_se (va_runS (As := [.long v_.toInt64, .int (mLeast x), .int (mMost x)]) (rest := []) ⟨hx, hb, hml, hown, hts⟩ (c_X8_in l V v_ (mLeast x) (mMost x)) (va_cwS 3 hts (zgS_ wsM_all uM_14 uM_29 uM_30 uM_21) rfl rfl rfl (by decide +kernel) ⟨Nat.le_of_ble_eq_true rfl, Nat.le_of_ble_eq_true rfl⟩) (zPreS (B := fun _ => True) trivial hE) rfl rfl hl.1 rfl (lv_room (Nat.le_of_ble_eq_true rfl)) dX8_set_20 ⟨Nat.le_of_ble_eq_true rfl, Nat.le_of_ble_eq_true rfl⟩) ?_
    refine zbp_ne (P := mLeast x ≤ v_ ∧ v_ ≤ mMost x) (tgt := 29) hx hb dX8_set_23 (by decide) (fun c_23 => ?_) (fun c_23 => ?_)
    · obtain ⟨j, rfl, -, hj5⟩ := z_ix (na := 0) (nb := 5) rfl rfl (by decide) (by decide) c_7
      refine lv_aload_n hx hb dX8_set_29 rfl (lv_at hl 0 rfl) ?_
      refine zc_v (va_runV (As := []) (rest := []) ⟨hx, hb, hml, hown, hts⟩ (c_X8_remember l V g w pa be av sl sv pd cd (nI k) le ap pl wy  hJ) (cwV 0 hts (zgV_ wsM_all uM_24 uM_32 uM_33 uM_34 uM_21) rfl rfl rfl (by decide +kernel) ⟨Nat.le_of_ble_eq_true rfl, Nat.le_of_ble_eq_true rfl⟩) (zPreV (B := fun H => va_P V.1 vwCl (zmW V g w pa be av sl sv pd cd (nI k) le ap pl wy) H) hP hE (va_recv hE.1 hP (ci := 8) (q0 := 0) (q := (RX8, TX8, 13)) rfl (zm_c0 V g w pa be av sl sv pd cd (nI k) le ap pl wy))) rfl rfl hl.1 rfl (lv_room (Nat.le_of_ble_eq_true rfl)) dX8_set_30 ⟨Nat.le_of_ble_eq_true rfl, Nat.le_of_ble_eq_true rfl⟩) hS (fun _ h => h) (fun _ h => h) (fun H locs hQ_ _ _ hS => ?_)
      have hP := hQ_
      refine lv_aload_n hx hb dX8_set_33 rfl (lv_at hl 0 rfl) ?_
      refine zm_get 0 (.ref (g 1)) hx hb hts (fun x h => List.mem_cons_of_mem _ (hU_X8 x h)) hown hE hP (by decide) rfl (hts _ (List.mem_cons_of_mem _ uM_5)) (fun _ h9 => h9) dX8_set_34 ?_
      refine lv_iload_n hx hb dX8_set_37 rfl (lv_at hl 1 rfl) ?_
      refine z_iald (k := j) hx hb hE hP 1 (zm_c1 V g w pa w av sl sv pd cd (nI k) le ap pl wy) (by omega) (by decide) dX8_set_38 ?_
      refine lv_istore_n (lv' := [(3, .int (w j)), (0, .ref (g 0)), (1, .int (nI j)), (2, .int v_)]) hx hb dX8_set_39 rfl hl (by decide) rfl (fun ls hl => ?_)
      refine lv_aload_n hx hb dX8_set_40 rfl (lv_at hl 1 rfl) ?_
      refine zm_get 0 (.ref (g 1)) hx hb hts (fun x h => List.mem_cons_of_mem _ (hU_X8 x h)) hown hE hP (by decide) rfl (hts _ (List.mem_cons_of_mem _ uM_5)) (fun _ h9 => h9) dX8_set_41 ?_
      refine lv_iload_n hx hb dX8_set_44 rfl (lv_at hl 2 rfl) ?_
      refine lv_iload_n hx hb dX8_set_45 rfl (lv_at hl 3 rfl) ?_
      refine zm_a1 j v_ hx hb hE hP hJ hS (by omega) dX8_set_46 (fun H locs hP hS => ?_)
      obtain ⟨w_1, ew_1⟩ : ∃ z, z = upd w j v_ := ⟨_, rfl⟩
      rw [← ew_1] at hP
      refine lv_aload_n hx hb dX8_set_47 rfl (lv_at hl 1 rfl) ?_
      refine lv_iload_n hx hb dX8_set_48 rfl (lv_at hl 0 rfl) ?_
      refine zc_i (va_runV (As := [.int (w j)]) (rest := []) ⟨hx, hb, hml, hown, hts⟩ (c_X8_record l V g w_1 pa w av sl sv pd cd (nI k) le ap pl wy  k (w j) hJ rfl (by omega)) (cwV 1 hts (zgV_ wsM_all uM_25 uM_35 uM_36 uM_37 uM_21) rfl rfl rfl (by decide +kernel) ⟨Nat.le_of_ble_eq_true rfl, Nat.le_of_ble_eq_true rfl⟩) (zPreV (B := fun H => va_P V.1 vwCl (zmW V g w_1 pa w av sl sv pd cd (nI k) le ap pl wy) H) hP hE (va_recv hE.1 hP (ci := 8) (q0 := 0) (q := (RX8, TX8, 13)) rfl (zm_c0 V g w_1 pa w av sl sv pd cd (nI k) le ap pl wy))) rfl rfl hl.1 rfl (lv_room (Nat.le_of_ble_eq_true rfl)) dX8_set_49 ⟨Nat.le_of_ble_eq_true rfl, Nat.le_of_ble_eq_true rfl⟩) hS (fun _ h => h) (fun _ h => h) (fun r_ H locs hQ_ _ _ hS => ?_)
      obtain ⟨hr_, hP⟩ := hQ_
      subst hr_
      exact zr_i hx hb hr hlocks hS (⟨by rw [mSet, if_pos ⟨c_7, c_23⟩, nI_clamp (by omega)], _, by rw [show mSet w pa k (nI j) v_ = (w j, w_1, mRP pa w k (w j), mRK k (w j)) by rw [mSet, if_pos ⟨c_7, c_23⟩, nI_clamp (by omega), ew_1]]; exact hP⟩) dX8_set_52
    · refine lv_bipush (v := (-2)) hx hb dX8_set_26 (by decide +kernel) ?_
      exact zr_i hx hb hr hlocks hS (⟨by rw [mSet, if_neg (by first | exact fun h => c_7 h.1 | exact fun h => c_23 h.2)], _, by rw [show mSet w pa k x v_ = (-2, w, pa, k) by rw [mSet, if_neg (by first | exact fun h => c_7 h.1 | exact fun h => c_23 h.2)]]; exact hP⟩) dX8_set_28
end
section
def mNextQ (w : Nat → Int32) (n : Nat) (what : Int32) : Int32 := if 0 ≤ what ∧ what ≤ 2 then (if n = 0 then -6 else if what = 0 then zF w (((mLook w n).2).getD 0) 0 else if what = 1 then (mLook w n).1 else mMinute w (((mLook w n).2).getD 0)) else -2
def mGone (w : Nat → Int32) (n : Nat) (x : Int32) : Nat := (zFirst (fun j => decide (mFind (mRun w n j) (n - j) x = none)) (n + 1)).getD 0
def mServedIn (w : Nat → Int32) (n : Nat) (x : Int32) : Int32 := if mFind w n x = none then -1 else mRun w n (mGone w n x) 6 - w 6
def mAll (w : Nat → Int32) (n : Nat) (what : Int32) : Int32 := if 0 ≤ what ∧ what ≤ 2 then (if n = 0 then -6 else if what = 0 then mRun (upd w 11 0) n n 6 - w 6 else if what = 1 then mRun (upd w 11 0) n n 12 - w 12 else mRun (upd w 11 0) n n 11) else -2
theorem mOK_11 {w : Nat → Int32} {n : Nat} (h : mOK w n) (x : Int32) : mOK (upd w 11 x) n := by
  obtain ⟨h1, h2, h3, h4⟩ := h
  have e : ∀ k f, zF (upd w 11 x) k f = zF w k f := fun k f => by unfold zF upd; exact if_neg (by omega)
  exact ⟨h1, h2, fun k hk => by rw [e]; exact h3 k hk, fun k hk => by rw [e]; exact h4 k hk⟩
set_option maxHeartbeats 4000000 in
set_option maxRecDepth 100000 in
theorem c_X8_next (l : Launch) (V : zV) (g : Nat → Nat) (w pa be av sl sv pd cd : Nat → Int32) (st le ap pl wy : Int32) (n : Nat) (what : Int32) (hJ : zInj 9 g) (hok : mOK w n) : Met l yX8_next wsX8_next (zR 4 0 0) (zPc V [.ref (g 0), .int what] (fun H => va_P V.1 vwCl (zmW V g w pa be av sl sv pd cd st le ap pl wy) H)) (zQi (fun r H => r = (mNextQ w n what) ∧ (∃ pl' : Int32, ∃ wy' : Int32, va_P V.1 vwCl (zmW V g w pa be av sl sv pd cd st le ap pl' wy') H)) (zIn 9 g)) 0 0 (zIn 9 g) := by
  refine Met.ofW (cc := cX8_next) (maxL := 2) (ret := (some .int)) (by decide) rfl ?_
  intro p e s m args below meth c s₁ B hml hv
  obtain ⟨rfl, hP, hE⟩ := hv
  have hx := B.exec
  have hb := B.bytes
  have hr := B.returns
  have hts := atoms_spec (ws := wsX8_next) B.pre
  have hown : s.vm.findClass RX8 = some m.cls := findClass_of_methodNamed B.named
  have hlocks := B.notSynchronized
  have hl := lv_entry ([.ref (g 0), .int what]) (n := 2) (Nat.le_of_ble_eq_true rfl)
  rw [lg_entry_eq]
  generalize (lg_sl ([.ref (g 0), .int what]) ++ List.replicate (2 - (lg_sl ([.ref (g 0), .int what])).length) Slot.unset).toArray = ls at hl ⊢
  have hl : lv_has ls 2 [(0, .ref (g 0)), (1, .int what)] := hl
  have hS : va_S (zIn 9 g) s.heap s.heap [] := va_S.rf
  have hok0 : mOK w n := hok
  obtain ⟨hn, h30, hwr, hfd⟩ := hok
  refine lv_iload_n hx hb dX8_next_0 rfl (lv_at hl 1 rfl) ?_
  refine lv_i2l (v := what.toInt64) hx hb dX8_next_1 rfl ?_
  refine lv_iconst (v := 0) hx hb dX8_next_2 (by decide +kernel) ?_
  refine lv_iconst (v := 2) hx hb dX8_next_3 (by decide +kernel) ?_
  refine zc_se (va_runS (As := [.long what.toInt64, .int 0, .int 2]) (rest := []) ⟨hx, hb, hml, hown, hts⟩ (c_X8_in l V what 0 2) (va_cwS 3 hts (zgS_ wsM_all uM_14 uM_29 uM_30 uM_21) rfl rfl rfl (by decide +kernel) ⟨Nat.le_of_ble_eq_true rfl, Nat.le_of_ble_eq_true rfl⟩) (zPreS (B := fun _ => True) trivial hE) rfl rfl hl.1 rfl (lv_room (Nat.le_of_ble_eq_true rfl)) dX8_next_4 ⟨Nat.le_of_ble_eq_true rfl, Nat.le_of_ble_eq_true rfl⟩) ?_
  refine zbp_ne (P := 0 ≤ what ∧ what ≤ 2) (tgt := 13) hx hb dX8_next_7 (by decide) (fun c_7 => ?_) (fun c_7 => ?_)
  · refine lv_aload_n hx hb dX8_next_13 rfl (lv_at hl 0 rfl) ?_
    refine zm_get 0 (.ref (g 1)) hx hb hts (fun x h => List.mem_cons_of_mem _ (hU_X8 x h)) hown hE hP (by decide) rfl (hts _ (List.mem_cons_of_mem _ uM_5)) (fun _ h9 => h9) dX8_next_14 ?_
    refine lv_bipush (v := 7) hx hb dX8_next_17 (by decide +kernel) ?_
    refine z_iald (k := 7) hx hb hE hP 1 (zm_c1 V g w pa be av sl sv pd cd st le ap pl wy) (by omega) (by decide) dX8_next_19 ?_
    refine zt_i hn ?_
    refine zb0_ne (x := n) (tgt := 26) hx hb dX8_next_20 (by decide) (by omega) (fun c_20 => ?_) (fun c_20 => ?_)
    · have hpos : 0 < n := by omega
      obtain ⟨k, hkn, hlk⟩ := mLook_some hpos hok0
      refine lv_aload_n hx hb dX8_next_26 rfl (lv_at hl 0 rfl) ?_
      refine zc_v (va_runV (As := []) (rest := []) ⟨hx, hb, hml, hown, hts⟩ (c_X8_look l V g w pa be av sl sv pd cd st le ap pl wy  n hJ hok0 hpos) (cwV 0 hts (zgV_ wsM_all uM_47 uM_68 uM_69 uM_70 uM_21) rfl rfl rfl (by decide +kernel) ⟨Nat.le_of_ble_eq_true rfl, Nat.le_of_ble_eq_true rfl⟩) (zPreV (B := fun H => va_P V.1 vwCl (zmW V g w pa be av sl sv pd cd st le ap pl wy) H) hP hE (va_recv hE.1 hP (ci := 8) (q0 := 0) (q := (RX8, TX8, 13)) rfl (zm_c0 V g w pa be av sl sv pd cd st le ap pl wy))) rfl rfl hl.1 rfl (lv_room (Nat.le_of_ble_eq_true rfl)) dX8_next_27 ⟨Nat.le_of_ble_eq_true rfl, Nat.le_of_ble_eq_true rfl⟩) hS (fun _ h => h) (fun _ h => h) (fun H locs hQ_ _ _ hS => ?_)
      have hP := hQ_
      have hP : va_P V.1 vwCl (zmW V g w pa be av sl sv pd cd st le ap (nI k) ((mLook w n).1)) H := by rw [hlk] at hP; exact hP
      refine lv_iload_n hx hb dX8_next_30 rfl (lv_at hl 1 rfl) ?_
      refine lv_if_ne (tgt := 46) hx hb dX8_next_31 (by decide) (fun c_31 => ?_) (fun c_31 => ?_)
      · refine lv_iload_n hx hb dX8_next_46 rfl (lv_at hl 1 rfl) ?_
        refine lv_iconst (v := 1) hx hb dX8_next_47 (by decide +kernel) ?_
        refine lv_icmp_ne (tgt := 58) hx hb dX8_next_48 (by decide) (fun c_48 => ?_) (fun c_48 => ?_)
        · refine lv_aload_n hx hb dX8_next_58 rfl (lv_at hl 0 rfl) ?_
          refine zc_se (va_runV (As := []) (rest := []) ⟨hx, hb, hml, hown, hts⟩ (c_X8_minute l V g w pa be av sl sv pd cd st le ap (nI k) ((mLook w n).1) k (by omega) rfl) (cwV 0 hts (zgV_ wsM_all uM_62 uM_71 uM_72 uM_73 uM_21) rfl rfl rfl (by decide +kernel) ⟨Nat.le_of_ble_eq_true rfl, Nat.le_of_ble_eq_true rfl⟩) (zPreV (B := fun H => va_P V.1 vwCl (zmW V g w pa be av sl sv pd cd st le ap (nI k) ((mLook w n).1)) H) hP hE (va_recv hE.1 hP (ci := 8) (q0 := 0) (q := (RX8, TX8, 13)) rfl (zm_c0 V g w pa be av sl sv pd cd st le ap (nI k) ((mLook w n).1)))) rfl rfl hl.1 rfl (lv_room (Nat.le_of_ble_eq_true rfl)) dX8_next_59 ⟨Nat.le_of_ble_eq_true rfl, Nat.le_of_ble_eq_true rfl⟩) ?_
          exact zr_i hx hb hr hlocks hS (⟨by rw [mNextQ, if_pos c_7, if_neg c_20]; first | (rw [hlk, if_pos c_31]; rfl) | (rw [if_neg c_31, if_pos c_48]) | (rw [hlk, if_neg c_31, if_neg c_48]; rfl), _, _, hP⟩) dX8_next_62
        · refine lv_aload_n hx hb dX8_next_51 rfl (lv_at hl 0 rfl) ?_
          refine zm_get 12 (.int ((mLook w n).1)) hx hb hts (fun x h => List.mem_cons_of_mem _ (hU_X8 x h)) hown hE hP (by decide) rfl (hts _ (List.mem_cons_of_mem _ uM_49)) (fun _ h9 => h9) dX8_next_52 ?_
          refine lv_goto (tgt := 62) hx hb dX8_next_55 (by decide) ?_
          exact zr_i hx hb hr hlocks hS (⟨by rw [mNextQ, if_pos c_7, if_neg c_20]; first | (rw [hlk, if_pos c_31]; rfl) | (rw [if_neg c_31, if_pos c_48]) | (rw [hlk, if_neg c_31, if_neg c_48]; rfl), _, _, hP⟩) dX8_next_62
      · refine lv_aload_n hx hb dX8_next_34 rfl (lv_at hl 0 rfl) ?_
        refine lv_aload_n hx hb dX8_next_35 rfl (lv_at hl 0 rfl) ?_
        refine zm_get 11 (.int (nI k)) hx hb hts (fun x h => List.mem_cons_of_mem _ (hU_X8 x h)) hown hE hP (by decide) rfl (hts _ (List.mem_cons_of_mem _ uM_48)) (fun _ h9 => h9) dX8_next_36 ?_
        refine lv_iconst (v := 0) hx hb dX8_next_39 (by decide +kernel) ?_
        refine zc_se (va_runV (As := [.int (nI k), .int 0]) (rest := []) ⟨hx, hb, hml, hown, hts⟩ (c_X8_its l V g w pa be av sl sv pd cd st le ap (nI k) ((mLook w n).1) k 0 (by omega)) (cwV 2 hts (zgV_ wsM_all uM_16 uM_18 uM_19 uM_20 uM_21) rfl rfl rfl (by decide +kernel) ⟨Nat.le_of_ble_eq_true rfl, Nat.le_of_ble_eq_true rfl⟩) (zPreV (B := fun H => va_P V.1 vwCl (zmW V g w pa be av sl sv pd cd st le ap (nI k) ((mLook w n).1)) H) hP hE (va_recv hE.1 hP (ci := 8) (q0 := 0) (q := (RX8, TX8, 13)) rfl (zm_c0 V g w pa be av sl sv pd cd st le ap (nI k) ((mLook w n).1)))) rfl rfl hl.1 rfl (lv_room (Nat.le_of_ble_eq_true rfl)) dX8_next_40 ⟨Nat.le_of_ble_eq_true rfl, Nat.le_of_ble_eq_true rfl⟩) ?_
        refine lv_goto (tgt := 62) hx hb dX8_next_43 (by decide) ?_
        exact zr_i hx hb hr hlocks hS (⟨by rw [mNextQ, if_pos c_7, if_neg c_20]; first | (rw [hlk, if_pos c_31]; rfl) | (rw [if_neg c_31, if_pos c_48]) | (rw [hlk, if_neg c_31, if_neg c_48]; rfl), _, _, hP⟩) dX8_next_62
    · refine lv_bipush (v := (-6)) hx hb dX8_next_23 (by decide +kernel) ?_
      exact zr_i hx hb hr hlocks hS (⟨by rw [mNextQ, if_pos c_7, if_pos c_20], _, _, hP⟩) dX8_next_25
  · refine lv_bipush (v := (-2)) hx hb dX8_next_10 (by decide +kernel) ?_
    exact zr_i hx hb hr hlocks hS (⟨by rw [mNextQ, if_neg c_7], _, _, hP⟩) dX8_next_12
set_option maxHeartbeats 4000000 in
set_option maxRecDepth 100000 in
theorem c_X8_servedIn (l : Launch) (V : zV) (g : Nat → Nat) (w pa be av sl sv pd cd : Nat → Int32) (st le ap pl wy : Int32) (n : Nat) (x : Int32) (hJ : zInj 9 g) (hok : mOK w n) : Met l yX8_servedIn wsX8_servedIn (zR 5 0 0) (zPc V [.ref (g 0), .int x] (fun H => va_P V.1 vwCl (zmW V g w pa be av sl sv pd cd st le ap pl wy) H)) (zQi (fun r H => r = (mServedIn w n x) ∧ (∃ av' : Nat → Int32, ∃ pl' : Int32, ∃ wy' : Int32, va_P V.1 vwCl (zmW V g w pa be av' sl sv pd cd st le ap pl' wy') H)) (zIn 9 g)) 0 0 (zIn 9 g) := by
  refine Met.ofW (cc := cX8_servedIn) (maxL := 4) (ret := (some .int)) (by decide) rfl ?_
  intro p e s m args below meth c s₁ B hml hv
  obtain ⟨rfl, hP, hE⟩ := hv
  have hx := B.exec
  have hb := B.bytes
  have hr := B.returns
  have hts := atoms_spec (ws := wsX8_servedIn) B.pre
  have hown : s.vm.findClass RX8 = some m.cls := findClass_of_methodNamed B.named
  have hlocks := B.notSynchronized
  have hl := lv_entry ([.ref (g 0), .int x]) (n := 4) (Nat.le_of_ble_eq_true rfl)
  rw [lg_entry_eq]
  generalize (lg_sl ([.ref (g 0), .int x]) ++ List.replicate (4 - (lg_sl ([.ref (g 0), .int x])).length) Slot.unset).toArray = ls at hl ⊢
  have hl : lv_has ls 4 [(0, .ref (g 0)), (1, .int x)] := hl
  have hS : va_S (zIn 9 g) s.heap s.heap [] := va_S.rf
  have hok0 : mOK w n := hok
  obtain ⟨hn, h30, hwr, hfd⟩ := hok
  refine lv_aload_n hx hb dX8_servedIn_0 rfl (lv_at hl 0 rfl) ?_
  refine lv_iload_n hx hb dX8_servedIn_1 rfl (lv_at hl 1 rfl) ?_
  refine zc_se (va_runV (As := [.int x]) (rest := []) ⟨hx, hb, hml, hown, hts⟩ (c_X8_find l V g w pa be av sl sv pd cd st le ap pl wy n x hn h30) (cwV 1 hts (zgV_ wsM_all uM_22 uM_115 uM_116 uM_117 uM_21) rfl rfl rfl (by decide +kernel) ⟨Nat.le_of_ble_eq_true rfl, Nat.le_of_ble_eq_true rfl⟩) (zPreV (B := fun H => va_P V.1 vwCl (zmW V g w pa be av sl sv pd cd st le ap pl wy) H) hP hE (va_recv hE.1 hP (ci := 8) (q0 := 0) (q := (RX8, TX8, 13)) rfl (zm_c0 V g w pa be av sl sv pd cd st le ap pl wy))) rfl rfl hl.1 rfl (lv_room (Nat.le_of_ble_eq_true rfl)) dX8_servedIn_2 ⟨Nat.le_of_ble_eq_true rfl, Nat.le_of_ble_eq_true rfl⟩) ?_
  rcases hq0 : mFind w n x with _ | j0
  · refine zt_i (y := (-6)) (by first | rfl | exact congrArg zoI hq0) ?_
    refine lv_bipush (v := (-6)) hx hb dX8_servedIn_5 (by decide +kernel) ?_
    refine lv_icmp_ne (tgt := 12) hx hb dX8_servedIn_7 (by decide) (fun c_7 => ?_) (fun c_7 => ?_)
    · exact absurd rfl c_7
    · refine lv_iconst (v := (-1)) hx hb dX8_servedIn_10 (by decide +kernel) ?_
      exact zr_i hx hb hr hlocks hS (⟨by rw [mServedIn, if_pos hq0], _, _, _, hP⟩) dX8_servedIn_11
  · refine zt_i (y := nI j0) (by first | rfl | exact congrArg zoI hq0) ?_
    have hj0 : j0 < n := (zFirst_lt hq0).1
    refine lv_bipush (v := (-6)) hx hb dX8_servedIn_5 (by decide +kernel) ?_
    refine lv_icmp_ne (tgt := 12) hx hb dX8_servedIn_7 (by decide) (fun c_7 => ?_) (fun c_7 => ?_)
    · refine lv_aload_n hx hb dX8_servedIn_12 rfl (lv_at hl 0 rfl) ?_
      refine zc_v (va_runV (As := []) (rest := []) ⟨hx, hb, hml, hown, hts⟩ (c_X8_layAside l V g w pa be av sl sv pd cd st le ap pl wy  hJ) (cwV 0 hts (zgV_ wsM_all uM_38 uM_93 uM_94 uM_95 uM_21) rfl rfl rfl (by decide +kernel) ⟨Nat.le_of_ble_eq_true rfl, Nat.le_of_ble_eq_true rfl⟩) (zPreV (B := fun H => va_P V.1 vwCl (zmW V g w pa be av sl sv pd cd st le ap pl wy) H) hP hE (va_recv hE.1 hP (ci := 8) (q0 := 0) (q := (RX8, TX8, 13)) rfl (zm_c0 V g w pa be av sl sv pd cd st le ap pl wy))) rfl rfl hl.1 rfl (lv_room (Nat.le_of_ble_eq_true rfl)) dX8_servedIn_13 ⟨Nat.le_of_ble_eq_true rfl, Nat.le_of_ble_eq_true rfl⟩) hS (fun _ h => h) (fun _ h => h) (fun H locs hQ_ _ _ hS => ?_)
      have hP := hQ_
      refine lv_aload_n hx hb dX8_servedIn_16 rfl (lv_at hl 0 rfl) ?_
      refine zm_get 0 (.ref (g 1)) hx hb hts (fun x h => List.mem_cons_of_mem _ (hU_X8 x h)) hown hE hP (by decide) rfl (hts _ (List.mem_cons_of_mem _ uM_5)) (fun _ h9 => h9) dX8_servedIn_17 ?_
      refine lv_bipush (v := 6) hx hb dX8_servedIn_20 (by decide +kernel) ?_
      refine z_iald (k := 6) hx hb hE hP 1 (zm_c1 V g w pa be w sl sv pd cd st le ap pl wy) (by omega) (by decide) dX8_servedIn_22 ?_
      refine lv_istore_n (lv' := [(2, .int (w 6)), (0, .ref (g 0)), (1, .int x)]) hx hb dX8_servedIn_23 rfl hl (by decide) rfl (fun ls hl => ?_)
      have L_24 : ∀ (n_ i : Nat) (pl_ : Int32) (wy_ : Int32) (H : Heap) (locs : List Loc) (ls : Array Slot), i ≤ n → n + 1 ≤ i + n_ → (zFirst (fun j => decide (mFind (mRun w n j) (n - j) x = none)) i = none) → va_P V.1 vwCl (zmW V g (mRun w n i) pa be w sl sv pd cd st le ap pl_ wy_) H → va_S (zIn 9 g) s.heap H locs → lv_has ls 4 [(0, .ref (g 0)), (1, .int x), (2, .int (w 6))] → W p l e (headSpec wsX8_servedIn (zR 5 0 0)).room s m (List.toArray [.ref (g 0), .int x]) below meth c H locs 0 0 (MQ below (zQi (fun r H => r = (mServedIn w n x) ∧ (∃ av' : Nat → Int32, ∃ pl' : Int32, ∃ wy' : Int32, va_P V.1 vwCl (zmW V g w pa be av' sl sv pd cd st le ap pl' wy') H)) (zIn 9 g)) (List.toArray [.ref (g 0), .int x]) s 0 0 (zIn 9 g)) (F0 m 24 ls []) := by
        intro n_
        induction n_ with
        | zero => intro i pl_ wy_ H locs ls hi_ hn_; exact absurd hn_ (by omega)
        | succ n_ ih =>
          intro i pl_ wy_ H locs ls hi_ hn_ hno hP hS hl
          refine lv_aload_n hx hb dX8_servedIn_24 rfl (lv_at hl 0 rfl) ?_
          refine lv_iload_n hx hb dX8_servedIn_25 rfl (lv_at hl 1 rfl) ?_
          refine zc_se (va_runV (As := [.int x]) (rest := []) ⟨hx, hb, hml, hown, hts⟩ (c_X8_find l V g (mRun w n i) pa be w sl sv pd cd st le ap pl_ wy_ (n - i) x ((mRun_ok hok0 (show i ≤ n by omega)).1) (by omega)) (cwV 1 hts (zgV_ wsM_all uM_22 uM_115 uM_116 uM_117 uM_21) rfl rfl rfl (by decide +kernel) ⟨Nat.le_of_ble_eq_true rfl, Nat.le_of_ble_eq_true rfl⟩) (zPreV (B := fun H => va_P V.1 vwCl (zmW V g (mRun w n i) pa be w sl sv pd cd st le ap pl_ wy_) H) hP hE (va_recv hE.1 hP (ci := 8) (q0 := 0) (q := (RX8, TX8, 13)) rfl (zm_c0 V g (mRun w n i) pa be w sl sv pd cd st le ap pl_ wy_))) rfl rfl hl.1 rfl (lv_room (Nat.le_of_ble_eq_true rfl)) dX8_servedIn_26 ⟨Nat.le_of_ble_eq_true rfl, Nat.le_of_ble_eq_true rfl⟩) ?_
          rcases hq : mFind (mRun w n i) (n - i) x with _ | j
          · refine zt_i (y := (-6)) (by first | rfl | exact congrArg zoI hq) ?_
            refine lv_bipush (v := (-6)) hx hb dX8_servedIn_29 (by decide +kernel) ?_
            refine lv_icmp_eq (tgt := 41) hx hb dX8_servedIn_31 (by decide) (fun c_31 => ?_) (fun c_31 => ?_)
            · refine lv_aload_n hx hb dX8_servedIn_41 rfl (lv_at hl 0 rfl) ?_
              refine zm_get 0 (.ref (g 1)) hx hb hts (fun x h => List.mem_cons_of_mem _ (hU_X8 x h)) hown hE hP (by decide) rfl (hts _ (List.mem_cons_of_mem _ uM_5)) (fun _ h9 => h9) dX8_servedIn_42 ?_
              refine lv_bipush (v := 6) hx hb dX8_servedIn_45 (by decide +kernel) ?_
              refine z_iald (k := 6) hx hb hE hP 1 (zm_c1 V g (mRun w n i) pa be w sl sv pd cd st le ap pl_ wy_) (by omega) (by decide) dX8_servedIn_47 ?_
              refine lv_iload_n hx hb dX8_servedIn_48 rfl (lv_at hl 2 rfl) ?_
              refine lv_isub hx hb dX8_servedIn_49 ?_
              refine lv_istore_n (lv' := [(3, .int (((mRun w n i) 6) - (w 6))), (0, .ref (g 0)), (1, .int x), (2, .int (w 6))]) hx hb dX8_servedIn_50 rfl hl (by decide) rfl (fun ls hl => ?_)
              refine lv_aload_n hx hb dX8_servedIn_51 rfl (lv_at hl 1 rfl) ?_
              refine zc_v (va_runV (As := []) (rest := []) ⟨hx, hb, hml, hown, hts⟩ (c_X8_putBack l V g (mRun w n i) pa be w sl sv pd cd st le ap pl_ wy_  hJ) (cwV 0 hts (zgV_ wsM_all uM_39 uM_99 uM_100 uM_101 uM_21) rfl rfl rfl (by decide +kernel) ⟨Nat.le_of_ble_eq_true rfl, Nat.le_of_ble_eq_true rfl⟩) (zPreV (B := fun H => va_P V.1 vwCl (zmW V g (mRun w n i) pa be w sl sv pd cd st le ap pl_ wy_) H) hP hE (va_recv hE.1 hP (ci := 8) (q0 := 0) (q := (RX8, TX8, 13)) rfl (zm_c0 V g (mRun w n i) pa be w sl sv pd cd st le ap pl_ wy_))) rfl rfl hl.1 rfl (lv_room (Nat.le_of_ble_eq_true rfl)) dX8_servedIn_52 ⟨Nat.le_of_ble_eq_true rfl, Nat.le_of_ble_eq_true rfl⟩) hS (fun _ h => h) (fun _ h => h) (fun H locs hQ_ _ _ hS => ?_)
              have hP := hQ_
              refine lv_iload_n hx hb dX8_servedIn_55 rfl (lv_at hl 0 rfl) ?_
              exact zr_i hx hb hr hlocks hS (⟨by rw [mServedIn, if_neg (fun h => absurd (hq0.symm.trans h) (by simp)), show mGone w n x = i by rw [mGone, zFirst_hit hno (decide_eq_true hq) (by omega)]; rfl], _, _, _, hP⟩) dX8_servedIn_56
            · exact absurd rfl c_31
          · refine zt_i (y := nI j) (by first | rfl | exact congrArg zoI hq) ?_
            have hjn : j < n - i := (zFirst_lt hq).1
            refine lv_bipush (v := (-6)) hx hb dX8_servedIn_29 (by decide +kernel) ?_
            refine lv_icmp_eq (tgt := 41) hx hb dX8_servedIn_31 (by decide) (fun c_31 => ?_) (fun c_31 => ?_)
            · exact absurd c_31 (z_n6 (by omega))
            · refine lv_aload_n hx hb dX8_servedIn_34 rfl (lv_at hl 0 rfl) ?_
              refine zc_v (va_runV (As := []) (rest := []) ⟨hx, hb, hml, hown, hts⟩ (c_X8_serveOne l V g (mRun w n i) pa be w sl sv pd cd st le ap pl_ wy_  (n - i) hJ (mRun_ok hok0 (show i ≤ n by omega)) (by omega)) (cwV 0 hts (zgV_ wsM_all uM_67 uM_96 uM_97 uM_98 uM_21) rfl rfl rfl (by decide +kernel) ⟨Nat.le_of_ble_eq_true rfl, Nat.le_of_ble_eq_true rfl⟩) (zPreV (B := fun H => va_P V.1 vwCl (zmW V g (mRun w n i) pa be w sl sv pd cd st le ap pl_ wy_) H) hP hE (va_recv hE.1 hP (ci := 8) (q0 := 0) (q := (RX8, TX8, 13)) rfl (zm_c0 V g (mRun w n i) pa be w sl sv pd cd st le ap pl_ wy_))) rfl rfl hl.1 rfl (lv_room (Nat.le_of_ble_eq_true rfl)) dX8_servedIn_35 ⟨Nat.le_of_ble_eq_true rfl, Nat.le_of_ble_eq_true rfl⟩) hS (fun _ h => h) (fun _ h => h) (fun H locs hQ_ _ _ hS => ?_)
              obtain ⟨pl'_1, wy'_2, hP⟩ := hQ_
              refine lv_goto (tgt := 24) hx hb dX8_servedIn_38 (by decide) ?_
              exact ih (i + 1) pl'_1 wy'_2 H locs ls (by omega) (by omega) (zFirst_no hno (decide_eq_false (fun h => absurd (hq.symm.trans h) (by simp)))) hP hS (lv_sub hl [0, 1, 2] rfl)
      exact L_24 (n + 1) 0 pl wy H locs ls (by omega) (by omega) rfl hP hS (lv_sub hl [1, 2, 0] rfl)
    · exact absurd c_7 (z_n6 (by omega))
set_option maxHeartbeats 4000000 in
set_option maxRecDepth 100000 in
theorem c_X8_all (l : Launch) (V : zV) (g : Nat → Nat) (w pa be av sl sv pd cd : Nat → Int32) (st le ap pl wy : Int32) (n : Nat) (what : Int32) (hJ : zInj 9 g) (hok : mOK w n) : Met l yX8_all wsX8_all (zR 5 0 0) (zPc V [.ref (g 0), .int what] (fun H => va_P V.1 vwCl (zmW V g w pa be av sl sv pd cd st le ap pl wy) H)) (zQi (fun r H => r = (mAll w n what) ∧ (∃ av' : Nat → Int32, ∃ pl' : Int32, ∃ wy' : Int32, va_P V.1 vwCl (zmW V g w pa be av' sl sv pd cd st le ap pl' wy') H)) (zIn 9 g)) 0 0 (zIn 9 g) := by
  refine Met.ofW (cc := cX8_all) (maxL := 5) (ret := (some .int)) (by decide) rfl ?_
  intro p e s m args below meth c s₁ B hml hv
  obtain ⟨rfl, hP, hE⟩ := hv
  have hx := B.exec
  have hb := B.bytes
  have hr := B.returns
  have hts := atoms_spec (ws := wsX8_all) B.pre
  have hown : s.vm.findClass RX8 = some m.cls := findClass_of_methodNamed B.named
  have hlocks := B.notSynchronized
  have hl := lv_entry ([.ref (g 0), .int what]) (n := 5) (Nat.le_of_ble_eq_true rfl)
  rw [lg_entry_eq]
  generalize (lg_sl ([.ref (g 0), .int what]) ++ List.replicate (5 - (lg_sl ([.ref (g 0), .int what])).length) Slot.unset).toArray = ls at hl ⊢
  have hl : lv_has ls 5 [(0, .ref (g 0)), (1, .int what)] := hl
  have hS : va_S (zIn 9 g) s.heap s.heap [] := va_S.rf
  have hok0 : mOK w n := hok
  obtain ⟨hn, h30, hwr, hfd⟩ := hok
  refine lv_iload_n hx hb dX8_all_0 rfl (lv_at hl 1 rfl) ?_
  refine lv_i2l (v := what.toInt64) hx hb dX8_all_1 rfl ?_
  refine lv_iconst (v := 0) hx hb dX8_all_2 (by decide +kernel) ?_
  refine lv_iconst (v := 2) hx hb dX8_all_3 (by decide +kernel) ?_
  refine zc_se (va_runS (As := [.long what.toInt64, .int 0, .int 2]) (rest := []) ⟨hx, hb, hml, hown, hts⟩ (c_X8_in l V what 0 2) (va_cwS 3 hts (zgS_ wsM_all uM_14 uM_29 uM_30 uM_21) rfl rfl rfl (by decide +kernel) ⟨Nat.le_of_ble_eq_true rfl, Nat.le_of_ble_eq_true rfl⟩) (zPreS (B := fun _ => True) trivial hE) rfl rfl hl.1 rfl (lv_room (Nat.le_of_ble_eq_true rfl)) dX8_all_4 ⟨Nat.le_of_ble_eq_true rfl, Nat.le_of_ble_eq_true rfl⟩) ?_
  refine zbp_ne (P := 0 ≤ what ∧ what ≤ 2) (tgt := 13) hx hb dX8_all_7 (by decide) (fun c_7 => ?_) (fun c_7 => ?_)
  · refine lv_aload_n hx hb dX8_all_13 rfl (lv_at hl 0 rfl) ?_
    refine zm_get 0 (.ref (g 1)) hx hb hts (fun x h => List.mem_cons_of_mem _ (hU_X8 x h)) hown hE hP (by decide) rfl (hts _ (List.mem_cons_of_mem _ uM_5)) (fun _ h9 => h9) dX8_all_14 ?_
    refine lv_bipush (v := 7) hx hb dX8_all_17 (by decide +kernel) ?_
    refine z_iald (k := 7) hx hb hE hP 1 (zm_c1 V g w pa be av sl sv pd cd st le ap pl wy) (by omega) (by decide) dX8_all_19 ?_
    refine zt_i hn ?_
    refine zb0_ne (x := n) (tgt := 26) hx hb dX8_all_20 (by decide) (by omega) (fun c_20 => ?_) (fun c_20 => ?_)
    · refine lv_aload_n hx hb dX8_all_26 rfl (lv_at hl 0 rfl) ?_
      refine zc_v (va_runV (As := []) (rest := []) ⟨hx, hb, hml, hown, hts⟩ (c_X8_layAside l V g w pa be av sl sv pd cd st le ap pl wy  hJ) (cwV 0 hts (zgV_ wsM_all uM_38 uM_93 uM_94 uM_95 uM_21) rfl rfl rfl (by decide +kernel) ⟨Nat.le_of_ble_eq_true rfl, Nat.le_of_ble_eq_true rfl⟩) (zPreV (B := fun H => va_P V.1 vwCl (zmW V g w pa be av sl sv pd cd st le ap pl wy) H) hP hE (va_recv hE.1 hP (ci := 8) (q0 := 0) (q := (RX8, TX8, 13)) rfl (zm_c0 V g w pa be av sl sv pd cd st le ap pl wy))) rfl rfl hl.1 rfl (lv_room (Nat.le_of_ble_eq_true rfl)) dX8_all_27 ⟨Nat.le_of_ble_eq_true rfl, Nat.le_of_ble_eq_true rfl⟩) hS (fun _ h => h) (fun _ h => h) (fun H locs hQ_ _ _ hS => ?_)
      have hP := hQ_
      refine lv_aload_n hx hb dX8_all_30 rfl (lv_at hl 0 rfl) ?_
      refine zm_get 0 (.ref (g 1)) hx hb hts (fun x h => List.mem_cons_of_mem _ (hU_X8 x h)) hown hE hP (by decide) rfl (hts _ (List.mem_cons_of_mem _ uM_5)) (fun _ h9 => h9) dX8_all_31 ?_
      refine lv_bipush (v := 6) hx hb dX8_all_34 (by decide +kernel) ?_
      refine z_iald (k := 6) hx hb hE hP 1 (zm_c1 V g w pa be w sl sv pd cd st le ap pl wy) (by omega) (by decide) dX8_all_36 ?_
      refine lv_istore_n (lv' := [(2, .int (w 6)), (0, .ref (g 0)), (1, .int what)]) hx hb dX8_all_37 rfl hl (by decide) rfl (fun ls hl => ?_)
      refine lv_aload_n hx hb dX8_all_38 rfl (lv_at hl 1 rfl) ?_
      refine zm_get 0 (.ref (g 1)) hx hb hts (fun x h => List.mem_cons_of_mem _ (hU_X8 x h)) hown hE hP (by decide) rfl (hts _ (List.mem_cons_of_mem _ uM_5)) (fun _ h9 => h9) dX8_all_39 ?_
      refine lv_bipush (v := 12) hx hb dX8_all_42 (by decide +kernel) ?_
      refine z_iald (k := 12) hx hb hE hP 1 (zm_c1 V g w pa be w sl sv pd cd st le ap pl wy) (by omega) (by decide) dX8_all_44 ?_
      refine lv_istore_n (lv' := [(3, .int (w 12)), (2, .int (w 6)), (0, .ref (g 0)), (1, .int what)]) hx hb dX8_all_45 rfl hl (by decide) rfl (fun ls hl => ?_)
      refine lv_aload_n hx hb dX8_all_46 rfl (lv_at hl 2 rfl) ?_
      refine zm_get 0 (.ref (g 1)) hx hb hts (fun x h => List.mem_cons_of_mem _ (hU_X8 x h)) hown hE hP (by decide) rfl (hts _ (List.mem_cons_of_mem _ uM_5)) (fun _ h9 => h9) dX8_all_47 ?_
      refine lv_bipush (v := 11) hx hb dX8_all_50 (by decide +kernel) ?_
      refine lv_iconst (v := 0) hx hb dX8_all_52 (by decide +kernel) ?_
      refine zm_a1 11 0 hx hb hE hP hJ hS (by omega) dX8_all_53 (fun H locs hP hS => ?_)
      obtain ⟨w_1, ew_1⟩ : ∃ z, z = upd w 11 0 := ⟨_, rfl⟩
      rw [← ew_1] at hP
      have hk_2 : w_1 7 = nI n := by rw [ew_1]; exact (if_neg (by omega)).trans hn
      have hok1 : mOK w_1 n := by rw [ew_1]; exact mOK_11 hok0 0
      have L_54 : ∀ (n_ i : Nat) (pl_ : Int32) (wy_ : Int32) (H : Heap) (locs : List Loc) (ls : Array Slot), i ≤ n → n + 1 ≤ i + n_ → va_P V.1 vwCl (zmW V g (mRun w_1 n i) pa be w sl sv pd cd st le ap pl_ wy_) H → va_S (zIn 9 g) s.heap H locs → lv_has ls 5 [(0, .ref (g 0)), (1, .int what), (2, .int (w 6)), (3, .int (w 12))] → W p l e (headSpec wsX8_all (zR 5 0 0)).room s m (List.toArray [.ref (g 0), .int what]) below meth c H locs 0 0 (MQ below (zQi (fun r H => r = (mAll w n what) ∧ (∃ av' : Nat → Int32, ∃ pl' : Int32, ∃ wy' : Int32, va_P V.1 vwCl (zmW V g w pa be av' sl sv pd cd st le ap pl' wy') H)) (zIn 9 g)) (List.toArray [.ref (g 0), .int what]) s 0 0 (zIn 9 g)) (F0 m 54 ls []) := by
        intro n_
        induction n_ with
        | zero => intro i pl_ wy_ H locs ls hi_ hn_; exact absurd hn_ (by omega)
        | succ n_ ih =>
          intro i pl_ wy_ H locs ls hi_ hn_  hP hS hl
          refine lv_aload_n hx hb dX8_all_54 rfl (lv_at hl 0 rfl) ?_
          refine zm_get 0 (.ref (g 1)) hx hb hts (fun x h => List.mem_cons_of_mem _ (hU_X8 x h)) hown hE hP (by decide) rfl (hts _ (List.mem_cons_of_mem _ uM_5)) (fun _ h9 => h9) dX8_all_55 ?_
          refine lv_bipush (v := 7) hx hb dX8_all_58 (by decide +kernel) ?_
          refine z_iald (k := 7) hx hb hE hP 1 (zm_c1 V g (mRun w_1 n i) pa be w sl sv pd cd st le ap pl_ wy_) (by omega) (by decide) dX8_all_60 ?_
          refine zt_i (mRun_ok hok1 (show i ≤ n by omega)).1 ?_
          refine zb0_le (x := n - i) (tgt := 71) hx hb dX8_all_61 (by decide) (by omega) (fun c_61 => ?_) (fun c_61 => ?_)
          · refine lv_iload_n hx hb dX8_all_71 rfl (lv_at hl 1 rfl) ?_
            refine lv_if_ne (tgt := 87) hx hb dX8_all_72 (by decide) (fun c_72 => ?_) (fun c_72 => ?_)
            · refine lv_iload_n hx hb dX8_all_87 rfl (lv_at hl 1 rfl) ?_
              refine lv_iconst (v := 1) hx hb dX8_all_88 (by decide +kernel) ?_
              refine lv_icmp_ne (tgt := 104) hx hb dX8_all_89 (by decide) (fun c_89 => ?_) (fun c_89 => ?_)
              · refine lv_aload_n hx hb dX8_all_104 rfl (lv_at hl 0 rfl) ?_
                refine zm_get 0 (.ref (g 1)) hx hb hts (fun x h => List.mem_cons_of_mem _ (hU_X8 x h)) hown hE hP (by decide) rfl (hts _ (List.mem_cons_of_mem _ uM_5)) (fun _ h9 => h9) dX8_all_105 ?_
                refine lv_bipush (v := 11) hx hb dX8_all_108 (by decide +kernel) ?_
                refine z_iald (k := 11) hx hb hE hP 1 (zm_c1 V g (mRun w_1 n i) pa be w sl sv pd cd st le ap pl_ wy_) (by omega) (by decide) dX8_all_110 ?_
                refine lv_istore (lv' := [(4, .int ((mRun w_1 n i) 11)), (0, .ref (g 0)), (1, .int what), (2, .int (w 6)), (3, .int (w 12))]) hx hb dX8_all_111 hl (by decide) rfl (fun ls hl => ?_)
                refine lv_aload_n hx hb dX8_all_113 rfl (lv_at hl 1 rfl) ?_
                refine zc_v (va_runV (As := []) (rest := []) ⟨hx, hb, hml, hown, hts⟩ (c_X8_putBack l V g (mRun w_1 n i) pa be w sl sv pd cd st le ap pl_ wy_  hJ) (cwV 0 hts (zgV_ wsM_all uM_39 uM_99 uM_100 uM_101 uM_21) rfl rfl rfl (by decide +kernel) ⟨Nat.le_of_ble_eq_true rfl, Nat.le_of_ble_eq_true rfl⟩) (zPreV (B := fun H => va_P V.1 vwCl (zmW V g (mRun w_1 n i) pa be w sl sv pd cd st le ap pl_ wy_) H) hP hE (va_recv hE.1 hP (ci := 8) (q0 := 0) (q := (RX8, TX8, 13)) rfl (zm_c0 V g (mRun w_1 n i) pa be w sl sv pd cd st le ap pl_ wy_))) rfl rfl hl.1 rfl (lv_room (Nat.le_of_ble_eq_true rfl)) dX8_all_114 ⟨Nat.le_of_ble_eq_true rfl, Nat.le_of_ble_eq_true rfl⟩) hS (fun _ h => h) (fun _ h => h) (fun H locs hQ_ _ _ hS => ?_)
                have hP := hQ_
                refine lv_iload hx hb dX8_all_117 (lv_at hl 0 rfl) ?_
                exact zr_i hx hb hr hlocks hS (⟨by rw [mAll, if_pos c_7, if_neg c_20, ← ew_1, show mRun w_1 n n = mRun w_1 n i by rw [show i = n by omega]]; first | (rw [if_pos c_72]) | (rw [if_neg c_72, if_pos c_89]) | (rw [if_neg c_72, if_neg c_89]), _, _, _, hP⟩) dX8_all_119
              · refine lv_aload_n hx hb dX8_all_92 rfl (lv_at hl 0 rfl) ?_
                refine zm_get 0 (.ref (g 1)) hx hb hts (fun x h => List.mem_cons_of_mem _ (hU_X8 x h)) hown hE hP (by decide) rfl (hts _ (List.mem_cons_of_mem _ uM_5)) (fun _ h9 => h9) dX8_all_93 ?_
                refine lv_bipush (v := 12) hx hb dX8_all_96 (by decide +kernel) ?_
                refine z_iald (k := 12) hx hb hE hP 1 (zm_c1 V g (mRun w_1 n i) pa be w sl sv pd cd st le ap pl_ wy_) (by omega) (by decide) dX8_all_98 ?_
                refine lv_iload_n hx hb dX8_all_99 rfl (lv_at hl 3 rfl) ?_
                refine lv_isub hx hb dX8_all_100 ?_
                refine lv_goto (tgt := 111) hx hb dX8_all_101 (by decide) ?_
                refine lv_istore (lv' := [(4, .int (((mRun w_1 n i) 12) - (w 12))), (0, .ref (g 0)), (1, .int what), (2, .int (w 6)), (3, .int (w 12))]) hx hb dX8_all_111 hl (by decide) rfl (fun ls hl => ?_)
                refine lv_aload_n hx hb dX8_all_113 rfl (lv_at hl 1 rfl) ?_
                refine zc_v (va_runV (As := []) (rest := []) ⟨hx, hb, hml, hown, hts⟩ (c_X8_putBack l V g (mRun w_1 n i) pa be w sl sv pd cd st le ap pl_ wy_  hJ) (cwV 0 hts (zgV_ wsM_all uM_39 uM_99 uM_100 uM_101 uM_21) rfl rfl rfl (by decide +kernel) ⟨Nat.le_of_ble_eq_true rfl, Nat.le_of_ble_eq_true rfl⟩) (zPreV (B := fun H => va_P V.1 vwCl (zmW V g (mRun w_1 n i) pa be w sl sv pd cd st le ap pl_ wy_) H) hP hE (va_recv hE.1 hP (ci := 8) (q0 := 0) (q := (RX8, TX8, 13)) rfl (zm_c0 V g (mRun w_1 n i) pa be w sl sv pd cd st le ap pl_ wy_))) rfl rfl hl.1 rfl (lv_room (Nat.le_of_ble_eq_true rfl)) dX8_all_114 ⟨Nat.le_of_ble_eq_true rfl, Nat.le_of_ble_eq_true rfl⟩) hS (fun _ h => h) (fun _ h => h) (fun H locs hQ_ _ _ hS => ?_)
                have hP := hQ_
                refine lv_iload hx hb dX8_all_117 (lv_at hl 0 rfl) ?_
                exact zr_i hx hb hr hlocks hS (⟨by rw [mAll, if_pos c_7, if_neg c_20, ← ew_1, show mRun w_1 n n = mRun w_1 n i by rw [show i = n by omega]]; first | (rw [if_pos c_72]) | (rw [if_neg c_72, if_pos c_89]) | (rw [if_neg c_72, if_neg c_89]), _, _, _, hP⟩) dX8_all_119
            · refine lv_aload_n hx hb dX8_all_75 rfl (lv_at hl 0 rfl) ?_
              refine zm_get 0 (.ref (g 1)) hx hb hts (fun x h => List.mem_cons_of_mem _ (hU_X8 x h)) hown hE hP (by decide) rfl (hts _ (List.mem_cons_of_mem _ uM_5)) (fun _ h9 => h9) dX8_all_76 ?_
              refine lv_bipush (v := 6) hx hb dX8_all_79 (by decide +kernel) ?_
              refine z_iald (k := 6) hx hb hE hP 1 (zm_c1 V g (mRun w_1 n i) pa be w sl sv pd cd st le ap pl_ wy_) (by omega) (by decide) dX8_all_81 ?_
              refine lv_iload_n hx hb dX8_all_82 rfl (lv_at hl 2 rfl) ?_
              refine lv_isub hx hb dX8_all_83 ?_
              refine lv_goto (tgt := 111) hx hb dX8_all_84 (by decide) ?_
              refine lv_istore (lv' := [(4, .int (((mRun w_1 n i) 6) - (w 6))), (0, .ref (g 0)), (1, .int what), (2, .int (w 6)), (3, .int (w 12))]) hx hb dX8_all_111 hl (by decide) rfl (fun ls hl => ?_)
              refine lv_aload_n hx hb dX8_all_113 rfl (lv_at hl 1 rfl) ?_
              refine zc_v (va_runV (As := []) (rest := []) ⟨hx, hb, hml, hown, hts⟩ (c_X8_putBack l V g (mRun w_1 n i) pa be w sl sv pd cd st le ap pl_ wy_  hJ) (cwV 0 hts (zgV_ wsM_all uM_39 uM_99 uM_100 uM_101 uM_21) rfl rfl rfl (by decide +kernel) ⟨Nat.le_of_ble_eq_true rfl, Nat.le_of_ble_eq_true rfl⟩) (zPreV (B := fun H => va_P V.1 vwCl (zmW V g (mRun w_1 n i) pa be w sl sv pd cd st le ap pl_ wy_) H) hP hE (va_recv hE.1 hP (ci := 8) (q0 := 0) (q := (RX8, TX8, 13)) rfl (zm_c0 V g (mRun w_1 n i) pa be w sl sv pd cd st le ap pl_ wy_))) rfl rfl hl.1 rfl (lv_room (Nat.le_of_ble_eq_true rfl)) dX8_all_114 ⟨Nat.le_of_ble_eq_true rfl, Nat.le_of_ble_eq_true rfl⟩) hS (fun _ h => h) (fun _ h => h) (fun H locs hQ_ _ _ hS => ?_)
              have hP := hQ_
              refine lv_iload hx hb dX8_all_117 (lv_at hl 0 rfl) ?_
              exact zr_i hx hb hr hlocks hS (⟨by rw [mAll, if_pos c_7, if_neg c_20, ← ew_1, show mRun w_1 n n = mRun w_1 n i by rw [show i = n by omega]]; first | (rw [if_pos c_72]) | (rw [if_neg c_72, if_pos c_89]) | (rw [if_neg c_72, if_neg c_89]), _, _, _, hP⟩) dX8_all_119
          · refine lv_aload_n hx hb dX8_all_64 rfl (lv_at hl 0 rfl) ?_
            refine zc_v (va_runV (As := []) (rest := []) ⟨hx, hb, hml, hown, hts⟩ (c_X8_serveOne l V g (mRun w_1 n i) pa be w sl sv pd cd st le ap pl_ wy_  (n - i) hJ (mRun_ok hok1 (show i ≤ n by omega)) c_61) (cwV 0 hts (zgV_ wsM_all uM_67 uM_96 uM_97 uM_98 uM_21) rfl rfl rfl (by decide +kernel) ⟨Nat.le_of_ble_eq_true rfl, Nat.le_of_ble_eq_true rfl⟩) (zPreV (B := fun H => va_P V.1 vwCl (zmW V g (mRun w_1 n i) pa be w sl sv pd cd st le ap pl_ wy_) H) hP hE (va_recv hE.1 hP (ci := 8) (q0 := 0) (q := (RX8, TX8, 13)) rfl (zm_c0 V g (mRun w_1 n i) pa be w sl sv pd cd st le ap pl_ wy_))) rfl rfl hl.1 rfl (lv_room (Nat.le_of_ble_eq_true rfl)) dX8_all_65 ⟨Nat.le_of_ble_eq_true rfl, Nat.le_of_ble_eq_true rfl⟩) hS (fun _ h => h) (fun _ h => h) (fun H locs hQ_ _ _ hS => ?_)
            obtain ⟨pl'_3, wy'_4, hP⟩ := hQ_
            refine lv_goto (tgt := 54) hx hb dX8_all_68 (by decide) ?_
            exact ih (i + 1) pl'_3 wy'_4 H locs ls (by omega) (by omega) hP hS (lv_sub hl [0, 1, 2, 3] rfl)
      exact L_54 (n + 1) 0 pl wy H locs ls (by omega) (by omega) hP hS (lv_sub hl [2, 3, 1, 0] rfl)
    · refine lv_bipush (v := (-6)) hx hb dX8_all_23 (by decide +kernel) ?_
      exact zr_i hx hb hr hlocks hS (⟨by rw [mAll, if_pos c_7, if_pos c_20], _, _, _, hP⟩) dX8_all_25
  · refine lv_bipush (v := (-2)) hx hb dX8_all_10 (by decide +kernel) ?_
    exact zr_i hx hb hr hlocks hS (⟨by rw [mAll, if_neg c_7], _, _, _, hP⟩) dX8_all_12
set_option maxHeartbeats 4000000 in
set_option maxRecDepth 100000 in
theorem c_X8_wipe (l : Launch) (V : zV) (g : Nat → Nat) (w pa be av sl sv pd cd : Nat → Int32) (st le ap pl wy : Int32)  (hJ : zInj 9 g) : Met l yX8_wipe wsX8_wipe (zR 0 0 0) (zPc V [.ref (g 0)] (fun H => va_P V.1 vwCl (zmW V g w pa be av sl sv pd cd st le ap pl wy) H)) (zQi (fun r H => r = (le) ∧ va_P V.1 vwCl (zmW V g w pa be av sl sv pd cd st 0 ap pl wy) H) (zIn 9 g)) 0 0 (zIn 9 g) := by
  refine Met.ofW (cc := cX8_wipe) (maxL := 2) (ret := (some .int)) (by decide) rfl ?_
  intro p e s m args below meth c s₁ B hml hv
  obtain ⟨rfl, hP, hE⟩ := hv
  have hx := B.exec
  have hb := B.bytes
  have hr := B.returns
  have hts := atoms_spec (ws := wsX8_wipe) B.pre
  have hown : s.vm.findClass RX8 = some m.cls := findClass_of_methodNamed B.named
  have hlocks := B.notSynchronized
  have hl := lv_entry ([.ref (g 0)]) (n := 2) (Nat.le_of_ble_eq_true rfl)
  rw [lg_entry_eq]
  generalize (lg_sl ([.ref (g 0)]) ++ List.replicate (2 - (lg_sl ([.ref (g 0)])).length) Slot.unset).toArray = ls at hl ⊢
  have hl : lv_has ls 2 [(0, .ref (g 0))] := hl
  have hS : va_S (zIn 9 g) s.heap s.heap [] := va_S.rf
  refine lv_aload_n hx hb dX8_wipe_0 rfl (lv_at hl 0 rfl) ?_
  refine zm_get 8 (.int le) hx hb hts (fun x h => List.mem_cons_of_mem _ (hU_X8 x h)) hown hE hP (by decide) rfl (hts _ (List.mem_cons_of_mem _ uM_134)) (fun _ h9 => h9) dX8_wipe_1 ?_
  refine lv_istore_n (lv' := [(1, .int le), (0, .ref (g 0))]) hx hb dX8_wipe_4 rfl hl (by decide) rfl (fun ls hl => ?_)
  refine lv_aload_n hx hb dX8_wipe_5 rfl (lv_at hl 1 rfl) ?_
  refine lv_iconst (v := 0) hx hb dX8_wipe_6 (by decide +kernel) ?_
  refine zm_put (st' := st) (le' := 0) (ap' := ap) (pl' := pl) (wy' := wy) 8 0 hx hb hts (fun x h => List.mem_cons_of_mem _ (hU_X8 x h)) hown hE hP hJ hS (by decide) rfl rfl (by decide +kernel) (hts _ (List.mem_cons_of_mem _ uM_134)) (fun _ h9 => h9) dX8_wipe_7 (fun H locs hP hS => ?_)
  refine lv_iload_n hx hb dX8_wipe_10 rfl (lv_at hl 0 rfl) ?_
  exact zr_i hx hb hr hlocks hS (⟨rfl, hP⟩) dX8_wipe_11
def mLeft (c : Int64) : Nat → Int64
  | 0 => c
  | i + 1 => ((mLeft c i).toUInt64 >>> ((8 : Int32).toInt64.toUInt64 &&& Int64.toUInt64 63)).toInt64
def mCode (c : Int64) (i : Nat) : Int32 := (mLeft c i &&& 255).toInt32
def mPn (c : Int64) : Nat := (zFirst (fun i => decide (i = 8 ∨ mLeft c i = 0 ∨ ¬ (33 ≤ mCode c i ∧ mCode c i ≤ 126))) 9).getD 0
def mPut (pd : Nat → Int32) (a : Nat) (c : Int64) : Int32 × (Nat → Int32) × Nat :=
  if mPn c < 8 ∧ ¬ mLeft c (mPn c) = 0 then (-2, pd, a) else if mPn c = 0 then (-2, pd, a) else if 80 < a + mPn c then (-4, pd, a) else (nI (a + mPn c), (fun j => if a ≤ j ∧ j < a + mPn c then mCode c (mPn c - 1 - (j - a)) else pd j), a + mPn c)
theorem z_lc0 {x y : Int64} : lg_cmp x y = 0 ↔ x = y := by
  unfold lg_cmp
  by_cases h1 : x > y
  · rw [if_pos h1]
    refine ⟨fun h => absurd h (by decide), fun h => ?_⟩
    rw [h] at h1
    have h2 : y < y := h1
    rw [Int64.lt_iff_toInt_lt] at h2
    omega
  · rw [if_neg h1]
    by_cases h2 : x = y
    · rw [if_pos h2]; exact ⟨fun _ => h2, fun _ => rfl⟩
    · rw [if_neg h2]; exact ⟨fun h => absurd h (by decide), fun h => absurd h h2⟩
set_option maxHeartbeats 4000000 in
set_option maxRecDepth 100000 in
theorem c_X8_put (l : Launch) (V : zV) (g : Nat → Nat) (w pa be av sl sv pd cd : Nat → Int32) (st le ap pl wy : Int32) (a : Nat) (c_ : Int64) (hJ : zInj 9 g) (hle : le = nI a) (ha80 : a ≤ 80) : Met l yX8_put wsX8_put (zR 1 0 0) (zPc V [.ref (g 0), .long c_] (fun H => va_P V.1 vwCl (zmW V g w pa be av sl sv pd cd st le ap pl wy) H)) (zQi (fun r H => r = ((mPut pd a c_).1) ∧ (∃ cd' : Nat → Int32, va_P V.1 vwCl (zmW V g w pa be av sl sv ((mPut pd a c_).2.1) cd' st (nI (mPut pd a c_).2.2) ap pl wy) H)) (zIn 9 g)) 0 0 (zIn 9 g) := by
  refine Met.ofW (cc := cX8_put) (maxL := 7) (ret := (some .int)) (by decide) rfl ?_
  intro p e s m args below meth c s₁ B hml hv
  obtain ⟨rfl, hP, hE⟩ := hv
  have hx := B.exec
  have hb := B.bytes
  have hr := B.returns
  have hts := atoms_spec (ws := wsX8_put) B.pre
  have hown : s.vm.findClass RX8 = some m.cls := findClass_of_methodNamed B.named
  have hlocks := B.notSynchronized
  have hl := lv_entry ([.ref (g 0), .long c_]) (n := 7) (Nat.le_of_ble_eq_true rfl)
  rw [lg_entry_eq]
  generalize (lg_sl ([.ref (g 0), .long c_]) ++ List.replicate (7 - (lg_sl ([.ref (g 0), .long c_])).length) Slot.unset).toArray = ls at hl ⊢
  have hl : lv_has ls 7 [(0, .ref (g 0)), (1, .long c_)] := hl
  have hS : va_S (zIn 9 g) s.heap s.heap [] := va_S.rf
  subst hle
  refine lv_lload_n hx hb dX8_put_0 rfl (lv_at hl 1 rfl) ?_
  refine lv_lstore_n (lv' := [(3, .long c_), (0, .ref (g 0)), (1, .long c_)]) hx hb dX8_put_1 rfl hl (by decide) rfl (fun ls hl => ?_)
  refine lv_iconst (v := 0) hx hb dX8_put_2 (by decide +kernel) ?_
  refine lv_istore (lv' := [(5, .int 0), (3, .long c_), (0, .ref (g 0)), (1, .long c_)]) hx hb dX8_put_3 hl (by decide) rfl (fun ls hl => ?_)
  have L_5 : ∀ (n_ i : Nat) (f_ : Nat → Int32) (H : Heap) (locs : List Loc) (ls : Array Slot), i ≤ 8 → 8 + 1 ≤ i + n_ → (∀ j, j < i → f_ j = mCode c_ j) → (zFirst (fun i => decide (i = 8 ∨ mLeft c_ i = 0 ∨ ¬ (33 ≤ mCode c_ i ∧ mCode c_ i ≤ 126))) i = none) → va_P V.1 vwCl (zmW V g w pa be av sl sv pd f_ st (nI a) ap pl wy) H → va_S (zIn 9 g) s.heap H locs → lv_has ls 7 [(5, .int (nI i)), (3, .long (mLeft c_ i)), (0, .ref (g 0)), (1, .long c_)] → W p l e (headSpec wsX8_put (zR 1 0 0)).room s m (List.toArray [.ref (g 0), .long c_]) below meth c H locs 0 0 (MQ below (zQi (fun r H => r = ((mPut pd a c_).1) ∧ (∃ cd' : Nat → Int32, va_P V.1 vwCl (zmW V g w pa be av sl sv ((mPut pd a c_).2.1) cd' st (nI (mPut pd a c_).2.2) ap pl wy) H)) (zIn 9 g)) (List.toArray [.ref (g 0), .long c_]) s 0 0 (zIn 9 g)) (F0 m 5 ls []) := by
    intro n_
    induction n_ with
    | zero => intro i f_ H locs ls hi_ hn_; exact absurd hn_ (by omega)
    | succ n_ ih =>
      intro i f_ H locs ls hi_ hn_ ef_ hno hP hS hl
      refine lv_lload_n hx hb dX8_put_5 rfl (lv_at hl 1 rfl) ?_
      refine lv_lconst (v := 0) hx hb dX8_put_6 (by decide +kernel) ?_
      refine W.lcmp hx hb dX8_put_7 ?_
      refine lv_if_eq (tgt := 63) hx hb dX8_put_8 (by decide) (fun c_8 => ?_) (fun c_8 => ?_)
      · have hpn : mPn c_ = i := by
          rw [mPn, zFirst_hit hno (decide_eq_true (by first | exact Or.inr (Or.inl (z_lc0.mp c_8)) | exact Or.inl (by omega))) (by omega)]; rfl
        have hst1 : ¬ (mPn c_ < 8 ∧ ¬ mLeft c_ (mPn c_) = 0) := by
          rw [hpn]; first | exact fun h => h.2 (z_lc0.mp c_8) | exact fun h => absurd h.1 (by omega)
        refine lv_iload hx hb dX8_put_63 (lv_at hl 0 rfl) ?_
        refine zb0_ne (x := i) (tgt := 71) hx hb dX8_put_65 (by decide) (by omega) (fun c_65 => ?_) (fun c_65 => ?_)
        · refine lv_aload_n hx hb dX8_put_71 rfl (lv_at hl 2 rfl) ?_
          refine zm_get 8 (.int (nI a)) hx hb hts (fun x h => List.mem_cons_of_mem _ (hU_X8 x h)) hown hE hP (by decide) rfl (hts _ (List.mem_cons_of_mem _ uM_134)) (fun _ h9 => h9) dX8_put_72 ?_
          refine lv_iload hx hb dX8_put_75 (lv_at hl 0 rfl) ?_
          refine lv_iadd hx hb dX8_put_77 ?_
          refine zt_i (z_add (a := a) (b := i) (by first | rfl | omega)) ?_
          refine lv_bipush (v := 80) hx hb dX8_put_78 (by decide +kernel) ?_
          refine zb_le (x := a + i) (y := 80) (tgt := 86) hx hb dX8_put_80 (by decide) (by omega) (by omega) (fun c_80 => ?_) (fun c_80 => ?_)
          · refine lv_iload hx hb dX8_put_86 (lv_at hl 0 rfl) ?_
            refine lv_iconst (v := 1) hx hb dX8_put_88 (by decide +kernel) ?_
            refine lv_isub hx hb dX8_put_89 ?_
            refine zt_i (z_sub (a := i) (b := 1) (by omega) (by first | rfl | omega)) ?_
            refine lv_istore (lv' := [(6, .int (nI (i - 1))), (5, .int (nI i)), (3, .long (mLeft c_ i)), (0, .ref (g 0)), (1, .long c_)]) hx hb dX8_put_90 hl (by decide) rfl (fun ls hl => ?_)
            rw [show nI (i - 1) = nI (i - 0) + (-1) by rw [show i - 0 = (i - 1) + 1 by omega]; exact (pk_m1 _).symm] at hl
            have L_92 : ∀ (n_ t : Nat) (g_ : Nat → Int32) (H : Heap) (locs : List Loc) (ls : Array Slot), t ≤ i → i + 1 ≤ t + n_ → (g_ = fun j => if a ≤ j ∧ j < a + t then mCode c_ (i - 1 - (j - a)) else pd j) → va_P V.1 vwCl (zmW V g w pa be av sl sv g_ f_ st (nI (a + t)) ap pl wy) H → va_S (zIn 9 g) s.heap H locs → lv_has ls 7 [(6, .int (nI (i - t) + (-1))), (0, .ref (g 0))] → W p l e (headSpec wsX8_put (zR 1 0 0)).room s m (List.toArray [.ref (g 0), .long c_]) below meth c H locs 0 0 (MQ below (zQi (fun r H => r = ((mPut pd a c_).1) ∧ (∃ cd' : Nat → Int32, va_P V.1 vwCl (zmW V g w pa be av sl sv ((mPut pd a c_).2.1) cd' st (nI (mPut pd a c_).2.2) ap pl wy) H)) (zIn 9 g)) (List.toArray [.ref (g 0), .long c_]) s 0 0 (zIn 9 g)) (F0 m 92 ls []) := by
              intro n_
              induction n_ with
              | zero => intro t g_ H locs ls hi_ hn_; exact absurd hn_ (by omega)
              | succ n_ ih =>
                intro t g_ H locs ls hi_ hn_ hg_ hP hS hl
                refine lv_iload hx hb dX8_put_92 (lv_at hl 0 rfl) ?_
                rcases Nat.lt_or_ge t i with ht | ht
                · have e1 : nI (i - t) + (-1) = nI (i - 1 - t) := by rw [show i - t = (i - 1 - t) + 1 by omega]; exact pk_m1 _
                  rw [e1] at hl
                  refine zt_i e1 ?_
                  refine zb0_lt (x := i - 1 - t) (tgt := 129) hx hb dX8_put_94 (by decide) (by omega) (fun c_94 => ?_) (fun c_94 => ?_)
                  · exact c_94.elim
                  · refine lv_aload_n hx hb dX8_put_97 rfl (lv_at hl 1 rfl) ?_
                    refine zm_get 7 (.ref (g 7)) hx hb hts (fun x h => List.mem_cons_of_mem _ (hU_X8 x h)) hown hE hP (by decide) rfl (hts _ (List.mem_cons_of_mem _ uM_12)) (fun _ h9 => h9) dX8_put_98 ?_
                    refine lv_aload_n hx hb dX8_put_101 rfl (lv_at hl 1 rfl) ?_
                    refine zm_get 8 (.int (nI (a + t))) hx hb hts (fun x h => List.mem_cons_of_mem _ (hU_X8 x h)) hown hE hP (by decide) rfl (hts _ (List.mem_cons_of_mem _ uM_134)) (fun _ h9 => h9) dX8_put_102 ?_
                    refine lv_aload_n hx hb dX8_put_105 rfl (lv_at hl 1 rfl) ?_
                    refine zm_get 10 (.ref (g 8)) hx hb hts (fun x h => List.mem_cons_of_mem _ (hU_X8 x h)) hown hE hP (by decide) rfl (hts _ (List.mem_cons_of_mem _ uM_13)) (fun _ h9 => h9) dX8_put_106 ?_
                    refine lv_iload hx hb dX8_put_109 (lv_at hl 0 rfl) ?_
                    refine z_iald (k := i - 1 - t) hx hb hE hP 8 (zm_c8 V g w pa be av sl sv g_ f_ st (nI (a + t)) ap pl wy) (by omega) (by decide) dX8_put_111 ?_
                    refine zm_a7 (a + t) (f_ (i - 1 - t)) hx hb hE hP hJ hS (by omega) dX8_put_112 (fun H locs hP hS => ?_)
                    obtain ⟨pd_1, epd_1⟩ : ∃ z, z = upd g_ (a + t) (f_ (i - 1 - t)) := ⟨_, rfl⟩
                    rw [← epd_1] at hP
                    refine lv_aload_n hx hb dX8_put_113 rfl (lv_at hl 1 rfl) ?_
                    refine lv_dup hx hb dX8_put_114 rfl ?_
                    refine zm_get 8 (.int (nI (a + t))) hx hb hts (fun x h => List.mem_cons_of_mem _ (hU_X8 x h)) hown hE hP (by decide) rfl (hts _ (List.mem_cons_of_mem _ uM_134)) (fun _ h9 => h9) dX8_put_115 ?_
                    refine lv_iconst (v := 1) hx hb dX8_put_118 (by decide +kernel) ?_
                    refine lv_iadd hx hb dX8_put_119 ?_
                    refine zt_i (z_add (a := a + t) (b := 1) (by first | rfl | omega)) ?_
                    refine zm_put (st' := st) (le' := nI (a + t + 1)) (ap' := ap) (pl' := pl) (wy' := wy) 8 (nI (a + t + 1)) hx hb hts (fun x h => List.mem_cons_of_mem _ (hU_X8 x h)) hown hE hP hJ hS (by decide) rfl rfl (by decide +kernel) (hts _ (List.mem_cons_of_mem _ uM_134)) (fun _ h9 => h9) dX8_put_120 (fun H locs hP hS => ?_)
                    refine lv_iinc (v := (nI (i - 1 - t)) + -1) (lv' := [(6, .int ((nI (i - 1 - t)) + -1)), (0, .ref (g 0))]) hx hb dX8_put_123 hl (k := 0) rfl rfl (by decide) rfl (fun ls hl => ?_)
                    refine lv_goto (tgt := 92) hx hb dX8_put_126 (by decide) ?_
                    have e_ : pd_1 = fun j => if a ≤ j ∧ j < a + (t + 1) then mCode c_ (i - 1 - (j - a)) else pd j := by
                      rw [epd_1, hg_]; funext j; simp only [upd]; by_cases h1 : j = a + t
                      · rw [if_pos h1, if_pos (by omega), h1, show a + t - a = t by omega]; exact ef_ _ (by omega)
                      · rw [if_neg h1]; by_cases h2 : a ≤ j ∧ j < a + t
                        · rw [if_pos h2, if_pos (by omega)]
                        · rw [if_neg h2, if_neg (by omega)]
                    rw [show nI (i - 1 - t) + -1 = nI (i - (t + 1)) + (-1) by rw [show i - 1 - t = i - (t + 1) by omega]] at hl
                    exact ih (t + 1) pd_1 H locs ls (by omega) (by omega) e_ hP hS (lv_sub hl [0, 1] rfl)
                · have e1 : nI (i - t) + (-1) = -1 := by rw [show i - t = 0 by omega]; rfl
                  refine zt_i e1 ?_
                  refine lv_if_lt (tgt := 129) hx hb dX8_put_94 (by decide) (fun c_94 => ?_) (fun c_94 => ?_)
                  · refine lv_aload_n hx hb dX8_put_129 rfl (lv_at hl 1 rfl) ?_
                    refine zm_get 8 (.int (nI (a + t))) hx hb hts (fun x h => List.mem_cons_of_mem _ (hU_X8 x h)) hown hE hP (by decide) rfl (hts _ (List.mem_cons_of_mem _ uM_134)) (fun _ h9 => h9) dX8_put_130 ?_
                    exact zr_i hx hb hr hlocks hS (⟨by rw [mPut, if_neg hst1, if_neg (by omega), if_neg (by omega), hpn, show a + i = a + t by omega], _, by rw [mPut, if_neg hst1, if_neg (by omega), if_neg (by omega), hpn]; rw [show t = i by omega] at hP; rw [hg_, show t = i by omega] at hP; exact hP⟩) dX8_put_133
                  · exact absurd (show (-1 : Int32) < 0 by decide) c_94
            exact L_92 (i + 1) 0 pd H locs ls (by omega) (by omega) (by funext j; rw [if_neg (by omega)]) hP hS (lv_sub hl [0, 3] rfl)
          · refine lv_bipush (v := (-4)) hx hb dX8_put_83 (by decide +kernel) ?_
            exact zr_i hx hb hr hlocks hS (⟨by rw [mPut, if_neg hst1, if_neg (by omega), if_pos (by omega)], _, by rw [mPut, if_neg hst1, if_neg (by omega), if_pos (by omega)]; exact hP⟩) dX8_put_85
        · refine lv_bipush (v := (-2)) hx hb dX8_put_68 (by decide +kernel) ?_
          exact zr_i hx hb hr hlocks hS (⟨by rw [mPut, if_neg hst1, if_pos (by omega)], _, by rw [mPut, if_neg hst1, if_pos (by omega)]; exact hP⟩) dX8_put_70
      · refine lv_iload hx hb dX8_put_11 (lv_at hl 0 rfl) ?_
        refine lv_bipush (v := 8) hx hb dX8_put_13 (by decide +kernel) ?_
        refine zb_ge (x := i) (y := 8) (tgt := 63) hx hb dX8_put_15 (by decide) (by omega) (by omega) (fun c_15 => ?_) (fun c_15 => ?_)
        · have hpn : mPn c_ = i := by
            rw [mPn, zFirst_hit hno (decide_eq_true (by first | exact Or.inr (Or.inl (z_lc0.mp c_8)) | exact Or.inl (by omega))) (by omega)]; rfl
          have hst1 : ¬ (mPn c_ < 8 ∧ ¬ mLeft c_ (mPn c_) = 0) := by
            rw [hpn]; first | exact fun h => h.2 (z_lc0.mp c_8) | exact fun h => absurd h.1 (by omega)
          refine lv_iload hx hb dX8_put_63 (lv_at hl 0 rfl) ?_
          refine zb0_ne (x := i) (tgt := 71) hx hb dX8_put_65 (by decide) (by omega) (fun c_65 => ?_) (fun c_65 => ?_)
          · refine lv_aload_n hx hb dX8_put_71 rfl (lv_at hl 2 rfl) ?_
            refine zm_get 8 (.int (nI a)) hx hb hts (fun x h => List.mem_cons_of_mem _ (hU_X8 x h)) hown hE hP (by decide) rfl (hts _ (List.mem_cons_of_mem _ uM_134)) (fun _ h9 => h9) dX8_put_72 ?_
            refine lv_iload hx hb dX8_put_75 (lv_at hl 0 rfl) ?_
            refine lv_iadd hx hb dX8_put_77 ?_
            refine zt_i (z_add (a := a) (b := i) (by first | rfl | omega)) ?_
            refine lv_bipush (v := 80) hx hb dX8_put_78 (by decide +kernel) ?_
            refine zb_le (x := a + i) (y := 80) (tgt := 86) hx hb dX8_put_80 (by decide) (by omega) (by omega) (fun c_80 => ?_) (fun c_80 => ?_)
            · refine lv_iload hx hb dX8_put_86 (lv_at hl 0 rfl) ?_
              refine lv_iconst (v := 1) hx hb dX8_put_88 (by decide +kernel) ?_
              refine lv_isub hx hb dX8_put_89 ?_
              refine zt_i (z_sub (a := i) (b := 1) (by omega) (by first | rfl | omega)) ?_
              refine lv_istore (lv' := [(6, .int (nI (i - 1))), (5, .int (nI i)), (3, .long (mLeft c_ i)), (0, .ref (g 0)), (1, .long c_)]) hx hb dX8_put_90 hl (by decide) rfl (fun ls hl => ?_)
              rw [show nI (i - 1) = nI (i - 0) + (-1) by rw [show i - 0 = (i - 1) + 1 by omega]; exact (pk_m1 _).symm] at hl
              have L_92 : ∀ (n_ t : Nat) (g_ : Nat → Int32) (H : Heap) (locs : List Loc) (ls : Array Slot), t ≤ i → i + 1 ≤ t + n_ → (g_ = fun j => if a ≤ j ∧ j < a + t then mCode c_ (i - 1 - (j - a)) else pd j) → va_P V.1 vwCl (zmW V g w pa be av sl sv g_ f_ st (nI (a + t)) ap pl wy) H → va_S (zIn 9 g) s.heap H locs → lv_has ls 7 [(6, .int (nI (i - t) + (-1))), (0, .ref (g 0))] → W p l e (headSpec wsX8_put (zR 1 0 0)).room s m (List.toArray [.ref (g 0), .long c_]) below meth c H locs 0 0 (MQ below (zQi (fun r H => r = ((mPut pd a c_).1) ∧ (∃ cd' : Nat → Int32, va_P V.1 vwCl (zmW V g w pa be av sl sv ((mPut pd a c_).2.1) cd' st (nI (mPut pd a c_).2.2) ap pl wy) H)) (zIn 9 g)) (List.toArray [.ref (g 0), .long c_]) s 0 0 (zIn 9 g)) (F0 m 92 ls []) := by
                intro n_
                induction n_ with
                | zero => intro t g_ H locs ls hi_ hn_; exact absurd hn_ (by omega)
                | succ n_ ih =>
                  intro t g_ H locs ls hi_ hn_ hg_ hP hS hl
                  refine lv_iload hx hb dX8_put_92 (lv_at hl 0 rfl) ?_
                  rcases Nat.lt_or_ge t i with ht | ht
                  · have e1 : nI (i - t) + (-1) = nI (i - 1 - t) := by rw [show i - t = (i - 1 - t) + 1 by omega]; exact pk_m1 _
                    rw [e1] at hl
                    refine zt_i e1 ?_
                    refine zb0_lt (x := i - 1 - t) (tgt := 129) hx hb dX8_put_94 (by decide) (by omega) (fun c_94 => ?_) (fun c_94 => ?_)
                    · exact c_94.elim
                    · refine lv_aload_n hx hb dX8_put_97 rfl (lv_at hl 1 rfl) ?_
                      refine zm_get 7 (.ref (g 7)) hx hb hts (fun x h => List.mem_cons_of_mem _ (hU_X8 x h)) hown hE hP (by decide) rfl (hts _ (List.mem_cons_of_mem _ uM_12)) (fun _ h9 => h9) dX8_put_98 ?_
                      refine lv_aload_n hx hb dX8_put_101 rfl (lv_at hl 1 rfl) ?_
                      refine zm_get 8 (.int (nI (a + t))) hx hb hts (fun x h => List.mem_cons_of_mem _ (hU_X8 x h)) hown hE hP (by decide) rfl (hts _ (List.mem_cons_of_mem _ uM_134)) (fun _ h9 => h9) dX8_put_102 ?_
                      refine lv_aload_n hx hb dX8_put_105 rfl (lv_at hl 1 rfl) ?_
                      refine zm_get 10 (.ref (g 8)) hx hb hts (fun x h => List.mem_cons_of_mem _ (hU_X8 x h)) hown hE hP (by decide) rfl (hts _ (List.mem_cons_of_mem _ uM_13)) (fun _ h9 => h9) dX8_put_106 ?_
                      refine lv_iload hx hb dX8_put_109 (lv_at hl 0 rfl) ?_
                      refine z_iald (k := i - 1 - t) hx hb hE hP 8 (zm_c8 V g w pa be av sl sv g_ f_ st (nI (a + t)) ap pl wy) (by omega) (by decide) dX8_put_111 ?_
                      refine zm_a7 (a + t) (f_ (i - 1 - t)) hx hb hE hP hJ hS (by omega) dX8_put_112 (fun H locs hP hS => ?_)
                      obtain ⟨pd_2, epd_2⟩ : ∃ z, z = upd g_ (a + t) (f_ (i - 1 - t)) := ⟨_, rfl⟩
                      rw [← epd_2] at hP
                      refine lv_aload_n hx hb dX8_put_113 rfl (lv_at hl 1 rfl) ?_
                      refine lv_dup hx hb dX8_put_114 rfl ?_
                      refine zm_get 8 (.int (nI (a + t))) hx hb hts (fun x h => List.mem_cons_of_mem _ (hU_X8 x h)) hown hE hP (by decide) rfl (hts _ (List.mem_cons_of_mem _ uM_134)) (fun _ h9 => h9) dX8_put_115 ?_
                      refine lv_iconst (v := 1) hx hb dX8_put_118 (by decide +kernel) ?_
                      refine lv_iadd hx hb dX8_put_119 ?_
                      refine zt_i (z_add (a := a + t) (b := 1) (by first | rfl | omega)) ?_
                      refine zm_put (st' := st) (le' := nI (a + t + 1)) (ap' := ap) (pl' := pl) (wy' := wy) 8 (nI (a + t + 1)) hx hb hts (fun x h => List.mem_cons_of_mem _ (hU_X8 x h)) hown hE hP hJ hS (by decide) rfl rfl (by decide +kernel) (hts _ (List.mem_cons_of_mem _ uM_134)) (fun _ h9 => h9) dX8_put_120 (fun H locs hP hS => ?_)
                      refine lv_iinc (v := (nI (i - 1 - t)) + -1) (lv' := [(6, .int ((nI (i - 1 - t)) + -1)), (0, .ref (g 0))]) hx hb dX8_put_123 hl (k := 0) rfl rfl (by decide) rfl (fun ls hl => ?_)
                      refine lv_goto (tgt := 92) hx hb dX8_put_126 (by decide) ?_
                      have e_ : pd_2 = fun j => if a ≤ j ∧ j < a + (t + 1) then mCode c_ (i - 1 - (j - a)) else pd j := by
                        rw [epd_2, hg_]; funext j; simp only [upd]; by_cases h1 : j = a + t
                        · rw [if_pos h1, if_pos (by omega), h1, show a + t - a = t by omega]; exact ef_ _ (by omega)
                        · rw [if_neg h1]; by_cases h2 : a ≤ j ∧ j < a + t
                          · rw [if_pos h2, if_pos (by omega)]
                          · rw [if_neg h2, if_neg (by omega)]
                      rw [show nI (i - 1 - t) + -1 = nI (i - (t + 1)) + (-1) by rw [show i - 1 - t = i - (t + 1) by omega]] at hl
                      exact ih (t + 1) pd_2 H locs ls (by omega) (by omega) e_ hP hS (lv_sub hl [0, 1] rfl)
                  · have e1 : nI (i - t) + (-1) = -1 := by rw [show i - t = 0 by omega]; rfl
                    refine zt_i e1 ?_
                    refine lv_if_lt (tgt := 129) hx hb dX8_put_94 (by decide) (fun c_94 => ?_) (fun c_94 => ?_)
                    · refine lv_aload_n hx hb dX8_put_129 rfl (lv_at hl 1 rfl) ?_
                      refine zm_get 8 (.int (nI (a + t))) hx hb hts (fun x h => List.mem_cons_of_mem _ (hU_X8 x h)) hown hE hP (by decide) rfl (hts _ (List.mem_cons_of_mem _ uM_134)) (fun _ h9 => h9) dX8_put_130 ?_
                      exact zr_i hx hb hr hlocks hS (⟨by rw [mPut, if_neg hst1, if_neg (by omega), if_neg (by omega), hpn, show a + i = a + t by omega], _, by rw [mPut, if_neg hst1, if_neg (by omega), if_neg (by omega), hpn]; rw [show t = i by omega] at hP; rw [hg_, show t = i by omega] at hP; exact hP⟩) dX8_put_133
                    · exact absurd (show (-1 : Int32) < 0 by decide) c_94
              exact L_92 (i + 1) 0 pd H locs ls (by omega) (by omega) (by funext j; rw [if_neg (by omega)]) hP hS (lv_sub hl [0, 3] rfl)
            · refine lv_bipush (v := (-4)) hx hb dX8_put_83 (by decide +kernel) ?_
              exact zr_i hx hb hr hlocks hS (⟨by rw [mPut, if_neg hst1, if_neg (by omega), if_pos (by omega)], _, by rw [mPut, if_neg hst1, if_neg (by omega), if_pos (by omega)]; exact hP⟩) dX8_put_85
          · refine lv_bipush (v := (-2)) hx hb dX8_put_68 (by decide +kernel) ?_
            exact zr_i hx hb hr hlocks hS (⟨by rw [mPut, if_neg hst1, if_pos (by omega)], _, by rw [mPut, if_neg hst1, if_pos (by omega)]; exact hP⟩) dX8_put_70
        · refine lv_aload_n hx hb dX8_put_18 rfl (lv_at hl 2 rfl) ?_
          refine zm_get 10 (.ref (g 8)) hx hb hts (fun x h => List.mem_cons_of_mem _ (hU_X8 x h)) hown hE hP (by decide) rfl (hts _ (List.mem_cons_of_mem _ uM_13)) (fun _ h9 => h9) dX8_put_19 ?_
          refine lv_iload hx hb dX8_put_22 (lv_at hl 0 rfl) ?_
          refine lv_lload_n hx hb dX8_put_24 rfl (lv_at hl 1 rfl) ?_
          refine lv_ldc2 (v := (255)) hx hb hown (hts _ (List.mem_cons_of_mem _ uM_140)) dX8_put_25 ?_
          refine lv_land hx hb dX8_put_28 ?_
          refine lv_l2i (v := ((mLeft c_ i) &&& (255)).toInt32) hx hb dX8_put_29 rfl ?_
          refine zm_a8 i (((mLeft c_ i) &&& (255)).toInt32) hx hb hE hP hJ hS (by omega) dX8_put_30 (fun H locs hP hS => ?_)
          obtain ⟨cd_3, ecd_3⟩ : ∃ z, z = upd f_ i (((mLeft c_ i) &&& (255)).toInt32) := ⟨_, rfl⟩
          rw [← ecd_3] at hP
          refine lv_aload_n hx hb dX8_put_31 rfl (lv_at hl 2 rfl) ?_
          refine zm_get 10 (.ref (g 8)) hx hb hts (fun x h => List.mem_cons_of_mem _ (hU_X8 x h)) hown hE hP (by decide) rfl (hts _ (List.mem_cons_of_mem _ uM_13)) (fun _ h9 => h9) dX8_put_32 ?_
          refine lv_iload hx hb dX8_put_35 (lv_at hl 0 rfl) ?_
          refine z_iald (k := i) hx hb hE hP 8 (zm_c8 V g w pa be av sl sv pd cd_3 st (nI a) ap pl wy) (by omega) (by decide) dX8_put_37 ?_
          refine zt_i (y := mCode c_ i) (by rw [ecd_3]; exact if_pos rfl) ?_
          refine lv_i2l (v := (mCode c_ i).toInt64) hx hb dX8_put_38 rfl ?_
          refine lv_bipush (v := 33) hx hb dX8_put_39 (by decide +kernel) ?_
          refine lv_bipush (v := 126) hx hb dX8_put_41 (by decide +kernel) ?_
          refine zc_se (va_runS (As := [.long ((mCode c_ i).toInt64), .int 33, .int 126]) (rest := []) ⟨hx, hb, hml, hown, hts⟩ (c_X8_in l V (mCode c_ i) 33 126) (va_cwS 3 hts (zgS_ wsM_all uM_14 uM_29 uM_30 uM_21) rfl rfl rfl (by decide +kernel) ⟨Nat.le_of_ble_eq_true rfl, Nat.le_of_ble_eq_true rfl⟩) (zPreS (B := fun _ => True) trivial hE) rfl rfl hl.1 rfl (lv_room (Nat.le_of_ble_eq_true rfl)) dX8_put_43 ⟨Nat.le_of_ble_eq_true rfl, Nat.le_of_ble_eq_true rfl⟩) ?_
          refine zbp_ne (P := 33 ≤ mCode c_ i ∧ mCode c_ i ≤ 126) (tgt := 52) hx hb dX8_put_46 (by decide) (fun c_46 => ?_) (fun c_46 => ?_)
          · refine lv_lload_n hx hb dX8_put_52 rfl (lv_at hl 1 rfl) ?_
            refine lv_bipush (v := 8) hx hb dX8_put_53 (by decide +kernel) ?_
            refine lv_lushr (v := ((mLeft c_ i).toUInt64 >>> ((8 : Int32).toInt64.toUInt64 &&& Int64.toUInt64 63)).toInt64) hx hb dX8_put_55 rfl ?_
            refine lv_lstore_n (lv' := [(3, .long (((mLeft c_ i).toUInt64 >>> ((8 : Int32).toInt64.toUInt64 &&& Int64.toUInt64 63)).toInt64)), (5, .int (nI i)), (0, .ref (g 0)), (1, .long c_)]) hx hb dX8_put_56 rfl hl (by decide) rfl (fun ls hl => ?_)
            refine lv_iinc (v := nI (i + 1)) (lv' := [(5, .int (nI (i + 1))), (3, .long (((mLeft c_ i).toUInt64 >>> ((8 : Int32).toInt64.toUInt64 &&& Int64.toUInt64 63)).toInt64)), (0, .ref (g 0)), (1, .long c_)]) hx hb dX8_put_57 hl (k := 1) rfl (z_inc1 i) (by decide) rfl (fun ls hl => ?_)
            refine lv_goto (tgt := 5) hx hb dX8_put_60 (by decide) ?_
            have e_ : ∀ j, j < i + 1 → cd_3 j = mCode c_ j := by
              intro j hj; rw [ecd_3]; simp only [upd]; by_cases h1 : j = i
              · rw [if_pos h1, h1]; rfl
              · rw [if_neg h1]; exact ef_ j (by omega)
            exact ih (i + 1) cd_3 H locs ls (by omega) (by omega) e_ (zFirst_no hno (decide_eq_false (fun h => h.elim (fun q => by omega) (fun h => h.elim (fun q => c_8 (z_lc0.mpr q)) (fun q => q c_46))))) hP hS (lv_sub hl [0, 1, 2, 3] rfl)
          · have hpn : mPn c_ = i := by rw [mPn, zFirst_hit hno (decide_eq_true (Or.inr (Or.inr c_46))) (by omega)]; rfl
            refine lv_bipush (v := (-2)) hx hb dX8_put_49 (by decide +kernel) ?_
            exact zr_i hx hb hr hlocks hS (⟨by rw [mPut, if_pos ⟨by rw [hpn]; omega, by rw [hpn]; exact fun q => c_8 (z_lc0.mpr q)⟩], _, by rw [mPut, if_pos ⟨by rw [hpn]; omega, by rw [hpn]; exact fun q => c_8 (z_lc0.mpr q)⟩]; exact hP⟩) dX8_put_51
  exact L_5 (8 + 1) 0 cd s.heap [] ls (by omega) (by omega) (fun j hj => absurd hj (by omega)) rfl hP hS (lv_sub hl [0, 1, 2, 3] rfl)
end
section
def mDig (pd : Nat → Int32) (n a : Nat) : Prop := a < n ∧ (48 ≤ pd a ∧ pd a ≤ 57)
def mNum (pd : Nat → Int32) (n a : Nat) : Int32 × Nat := if 0 < pd a - 48 ∧ (a + 1 < n ∧ (48 ≤ pd (a + 1) ∧ pd (a + 1) ≤ 57)) then (10 * (pd a - 48) + pd (a + 1) - 48, a + 2) else (pd a - 48, a + 1)
def mSg (pd : Nat → Int32) (n a : Nat) : Int32 := if a < n then pd a else 0
/-- an order is read from a place on: is it one, where the reading stands then, its sign, its number, how many more -/
def mTok (pd : Nat → Int32) (n a : Nat) : Bool × Nat × Int32 × Int32 × Int32 :=
  if mSg pd n a = 114 ∨ mSg pd n a = 119 ∨ mSg pd n a = 115 ∨ mSg pd n a = 116 then
    (if a + 1 < n ∧ (48 ≤ pd (a + 1) ∧ pd (a + 1) ≤ 57) then
      (if (mSg pd n a = 114 ∨ mSg pd n a = 119) ∧ ((mNum pd n (a + 1)).2 < n ∧ (43 ≤ pd (mNum pd n (a + 1)).2 ∧ pd (mNum pd n (a + 1)).2 ≤ 43)) then
        (if (mNum pd n (a + 1)).2 + 1 < n ∧ (48 ≤ pd ((mNum pd n (a + 1)).2 + 1) ∧ pd ((mNum pd n (a + 1)).2 + 1) ≤ 57) then
          (true, (mNum pd n (a + 1)).2 + 2, mSg pd n a, (mNum pd n (a + 1)).1, pd ((mNum pd n (a + 1)).2 + 1) - 48)
        else (false, (mNum pd n (a + 1)).2 + 1, mSg pd n a, 0, 0))
      else (true, (mNum pd n (a + 1)).2, mSg pd n a, (mNum pd n (a + 1)).1, 0))
    else (false, a + 1, mSg pd n a, 0, 0))
  else (false, a, mSg pd n a, 0, 0)
theorem mNum_le (pd : Nat → Int32) {n a : Nat} (h : a < n) : a < (mNum pd n a).2 ∧ (mNum pd n a).2 ≤ n := by
  unfold mNum
  split
  · rename_i h1
    exact ⟨by show a < a + 2; omega, by show a + 2 ≤ n; omega⟩
  · exact ⟨by show a < a + 1; omega, by show a + 1 ≤ n; omega⟩
theorem mTok_le (pd : Nat → Int32) {n a : Nat} (h : a ≤ n) : a ≤ (mTok pd n a).2.1 ∧ (mTok pd n a).2.1 ≤ n ∧ ((mTok pd n a).1 = true → a < (mTok pd n a).2.1) := by
  unfold mTok
  split
  · rename_i h0
    have han : a < n := by
      rcases Nat.lt_or_ge a n with q | q
      · exact q
      · exfalso
        have e : mSg pd n a = 0 := if_neg (by omega)
        rw [e] at h0
        revert h0
        decide
    split
    · rename_i h1
      have h2 := mNum_le pd (n := n) (a := a + 1) h1.1
      split
      · rename_i h3
        split
        · rename_i h4
          exact ⟨by show a ≤ _ + 2; omega, by show _ + 2 ≤ n; omega, fun _ => by show a < _ + 2; omega⟩
        · exact ⟨by show a ≤ _ + 1; omega, by show _ + 1 ≤ n; omega, fun h => by cases h⟩
      · exact ⟨by show a ≤ (mNum pd n (a + 1)).2; omega, by show (mNum pd n (a + 1)).2 ≤ n; omega, fun _ => by show a < (mNum pd n (a + 1)).2; omega⟩
    · exact ⟨by show a ≤ a + 1; omega, by show a + 1 ≤ n; omega, fun h => by cases h⟩
  · exact ⟨Nat.le_refl _, h, fun h => by cases h⟩
/-- an order is carried out -/
def mDo (w : Nat → Int32) (n : Nat) (t : Bool × Nat × Int32 × Int32 × Int32) : Int32 × (Nat → Int32) :=
  if t.2.2.1 = 114 ∨ t.2.2.1 = 119 then mComes w n (if t.2.2.1 = 119 then 1 else 0) t.2.2.2.1 (1 + t.2.2.2.2)
  else if t.2.2.1 = 115 then mServes w n t.2.2.2.1 else mWaits w t.2.2.2.1
/-- the pad is read to its end, or to its fault: is it well, where the reading stands -/
def mWl (pd : Nat → Int32) (n : Nat) : Nat → Bool × Nat → Bool × Nat
  | 0, s => s
  | f + 1, s => if s.1 = true ∧ s.2 < n then (if 59 ≤ pd s.2 ∧ pd s.2 ≤ 59 then mWl pd n f ((mTok pd n (s.2 + 1)).1, (mTok pd n (s.2 + 1)).2.1) else (false, s.2)) else s
def mWell (pd : Nat → Int32) (n : Nat) : Bool × Nat := mWl pd n (n + 1) ((mTok pd n 0).1, (mTok pd n 0).2.1)
def nOf (w : Nat → Int32) : Nat := (w 7).toNatClampNeg
/-- the orders of a text that is well: the row, how many were carried out -/
def mCO (pd : Nat → Int32) (n : Nat) : Nat → Bool × Nat × (Nat → Int32) × Nat → (Nat → Int32) × Nat
  | 0, s => (s.2.2.1, s.2.2.2)
  | f + 1, s => if s.1 = true ∧ s.2.1 < n then
      (let t := mTok pd n s.2.1
       let r := mDo s.2.2.1 (nOf s.2.2.1) t
       if t.1 = true ∧ 0 ≤ r.1 then mCO pd n f (true, t.2.1 + 1, r.2, s.2.2.2 + 1) else ((if t.1 = true then r.2 else s.2.2.1), s.2.2.2))
    else (s.2.2.1, s.2.2.2)
set_option maxHeartbeats 4000000 in
set_option maxRecDepth 100000 in
theorem c_X8_number (l : Launch) (V : zV) (g : Nat → Nat) (w pa be av sl sv pd cd : Nat → Int32) (st le ap pl wy : Int32) (n a : Nat) (hJ : zInj 9 g) (hle : le = nI n) (hap : ap = nI a) (h80 : n ≤ 80) (han : a < n) : Met l yX8_number wsX8_number (zR 2 0 0) (zPc V [.ref (g 0)] (fun H => va_P V.1 vwCl (zmW V g w pa be av sl sv pd cd st le ap pl wy) H)) (zQi (fun r H => r = ((mNum pd n a).1) ∧ va_P V.1 vwCl (zmW V g w pa be av sl sv pd cd st le (nI (mNum pd n a).2) pl wy) H) (zIn 9 g)) 0 0 (zIn 9 g) := by
  refine Met.ofW (cc := cX8_number) (maxL := 2) (ret := (some .int)) (by decide) rfl ?_
  intro p e s m args below meth c s₁ B hml hv
  obtain ⟨rfl, hP, hE⟩ := hv
  have hx := B.exec
  have hb := B.bytes
  have hr := B.returns
  have hts := atoms_spec (ws := wsX8_number) B.pre
  have hown : s.vm.findClass RX8 = some m.cls := findClass_of_methodNamed B.named
  have hlocks := B.notSynchronized
  have hl := lv_entry ([.ref (g 0)]) (n := 2) (Nat.le_of_ble_eq_true rfl)
  rw [lg_entry_eq]
  generalize (lg_sl ([.ref (g 0)]) ++ List.replicate (2 - (lg_sl ([.ref (g 0)])).length) Slot.unset).toArray = ls at hl ⊢
  have hl : lv_has ls 2 [(0, .ref (g 0))] := hl
  have hS : va_S (zIn 9 g) s.heap s.heap [] := va_S.rf
  subst hap
  subst hle
  refine lv_aload_n hx hb dX8_number_0 rfl (lv_at hl 0 rfl) ?_
  refine zm_get 7 (.ref (g 7)) hx hb hts (fun x h => List.mem_cons_of_mem _ (hU_X8 x h)) hown hE hP (by decide) rfl (hts _ (List.mem_cons_of_mem _ uM_12)) (fun _ h9 => h9) dX8_number_1 ?_
  refine lv_aload_n hx hb dX8_number_4 rfl (lv_at hl 0 rfl) ?_
  refine zm_get 9 (.int (nI a)) hx hb hts (fun x h => List.mem_cons_of_mem _ (hU_X8 x h)) hown hE hP (by decide) rfl (hts _ (List.mem_cons_of_mem _ uM_143)) (fun _ h9 => h9) dX8_number_5 ?_
  refine z_iald (k := a) hx hb hE hP 7 (zm_c7 V g w pa be av sl sv pd cd st (nI n) (nI a) pl wy) (by omega) (by decide) dX8_number_8 ?_
  refine lv_bipush (v := 48) hx hb dX8_number_9 (by decide +kernel) ?_
  refine lv_isub hx hb dX8_number_11 ?_
  refine lv_istore_n (lv' := [(1, .int ((pd a) - 48)), (0, .ref (g 0))]) hx hb dX8_number_12 rfl hl (by decide) rfl (fun ls hl => ?_)
  refine lv_aload_n hx hb dX8_number_13 rfl (lv_at hl 1 rfl) ?_
  refine lv_dup hx hb dX8_number_14 rfl ?_
  refine zm_get 9 (.int (nI a)) hx hb hts (fun x h => List.mem_cons_of_mem _ (hU_X8 x h)) hown hE hP (by decide) rfl (hts _ (List.mem_cons_of_mem _ uM_143)) (fun _ h9 => h9) dX8_number_15 ?_
  refine lv_iconst (v := 1) hx hb dX8_number_18 (by decide +kernel) ?_
  refine lv_iadd hx hb dX8_number_19 ?_
  refine zt_i (z_add (a := a) (b := 1) (by first | rfl | omega)) ?_
  refine zm_put (st' := st) (le' := (nI n)) (ap' := nI (a + 1)) (pl' := pl) (wy' := wy) 9 (nI (a + 1)) hx hb hts (fun x h => List.mem_cons_of_mem _ (hU_X8 x h)) hown hE hP hJ hS (by decide) rfl rfl (by decide +kernel) (hts _ (List.mem_cons_of_mem _ uM_143)) (fun _ h9 => h9) dX8_number_20 (fun H locs hP hS => ?_)
  refine lv_iload_n hx hb dX8_number_23 rfl (lv_at hl 0 rfl) ?_
  refine lv_if_le (tgt := 66) hx hb dX8_number_24 (by decide) (fun c_24 => ?_) (fun c_24 => ?_)
  · refine lv_iload_n hx hb dX8_number_66 rfl (lv_at hl 0 rfl) ?_
    exact zr_i hx hb hr hlocks hS (⟨by rw [mNum, if_neg (fun h => z_le' c_24 h.1)], by rw [show mNum pd n a = ((pd a) - 48, a + 1) by rw [mNum, if_neg (fun h => z_le' c_24 h.1)]]; exact hP⟩) dX8_number_67
  · refine lv_aload_n hx hb dX8_number_27 rfl (lv_at hl 1 rfl) ?_
    refine lv_bipush (v := 48) hx hb dX8_number_28 (by decide +kernel) ?_
    refine lv_bipush (v := 57) hx hb dX8_number_30 (by decide +kernel) ?_
    refine zc_se (va_runV (As := [.int 48, .int 57]) (rest := []) ⟨hx, hb, hml, hown, hts⟩ (c_X8_sees l V g w pa be av sl sv pd cd st (nI n) (nI (a + 1)) pl wy (a + 1) n 48 57 rfl rfl (by omega) (by omega)) (cwV 2 hts (zgV_ wsM_all uM_142 uM_145 uM_146 uM_147 uM_21) rfl rfl rfl (by decide +kernel) ⟨Nat.le_of_ble_eq_true rfl, Nat.le_of_ble_eq_true rfl⟩) (zPreV (B := fun H => va_P V.1 vwCl (zmW V g w pa be av sl sv pd cd st (nI n) (nI (a + 1)) pl wy) H) hP hE (va_recv hE.1 hP (ci := 8) (q0 := 0) (q := (RX8, TX8, 13)) rfl (zm_c0 V g w pa be av sl sv pd cd st (nI n) (nI (a + 1)) pl wy))) rfl rfl hl.1 rfl (lv_room (Nat.le_of_ble_eq_true rfl)) dX8_number_32 ⟨Nat.le_of_ble_eq_true rfl, Nat.le_of_ble_eq_true rfl⟩) ?_
    refine zbp_eq (P := (a + 1) < n ∧ (48 ≤ pd (a + 1) ∧ pd (a + 1) ≤ 57)) (tgt := 66) hx hb dX8_number_35 (by decide) (fun c_35 => ?_) (fun c_35 => ?_)
    · refine lv_iload_n hx hb dX8_number_66 rfl (lv_at hl 0 rfl) ?_
      exact zr_i hx hb hr hlocks hS (⟨by rw [mNum, if_neg (fun h => c_35 h.2)], by rw [show mNum pd n a = ((pd a) - 48, a + 1) by rw [mNum, if_neg (fun h => c_35 h.2)]]; exact hP⟩) dX8_number_67
    · refine lv_bipush (v := 10) hx hb dX8_number_38 (by decide +kernel) ?_
      refine lv_iload_n hx hb dX8_number_40 rfl (lv_at hl 0 rfl) ?_
      refine lv_imul hx hb dX8_number_41 ?_
      refine lv_aload_n hx hb dX8_number_42 rfl (lv_at hl 1 rfl) ?_
      refine zm_get 7 (.ref (g 7)) hx hb hts (fun x h => List.mem_cons_of_mem _ (hU_X8 x h)) hown hE hP (by decide) rfl (hts _ (List.mem_cons_of_mem _ uM_12)) (fun _ h9 => h9) dX8_number_43 ?_
      refine lv_aload_n hx hb dX8_number_46 rfl (lv_at hl 1 rfl) ?_
      refine zm_get 9 (.int (nI (a + 1))) hx hb hts (fun x h => List.mem_cons_of_mem _ (hU_X8 x h)) hown hE hP (by decide) rfl (hts _ (List.mem_cons_of_mem _ uM_143)) (fun _ h9 => h9) dX8_number_47 ?_
      refine z_iald (k := a + 1) hx hb hE hP 7 (zm_c7 V g w pa be av sl sv pd cd st (nI n) (nI (a + 1)) pl wy) (by omega) (by decide) dX8_number_50 ?_
      refine lv_iadd hx hb dX8_number_51 ?_
      refine lv_bipush (v := 48) hx hb dX8_number_52 (by decide +kernel) ?_
      refine lv_isub hx hb dX8_number_54 ?_
      refine lv_istore_n (lv' := [(1, .int (((10 * ((pd a) - 48)) + (pd (a + 1))) - 48)), (0, .ref (g 0))]) hx hb dX8_number_55 rfl hl (by decide) rfl (fun ls hl => ?_)
      refine lv_aload_n hx hb dX8_number_56 rfl (lv_at hl 1 rfl) ?_
      refine lv_dup hx hb dX8_number_57 rfl ?_
      refine zm_get 9 (.int (nI (a + 1))) hx hb hts (fun x h => List.mem_cons_of_mem _ (hU_X8 x h)) hown hE hP (by decide) rfl (hts _ (List.mem_cons_of_mem _ uM_143)) (fun _ h9 => h9) dX8_number_58 ?_
      refine lv_iconst (v := 1) hx hb dX8_number_61 (by decide +kernel) ?_
      refine lv_iadd hx hb dX8_number_62 ?_
      refine zt_i (z_add (a := a + 1) (b := 1) (by first | rfl | omega)) ?_
      refine zm_put (st' := st) (le' := (nI n)) (ap' := nI (a + 2)) (pl' := pl) (wy' := wy) 9 (nI (a + 2)) hx hb hts (fun x h => List.mem_cons_of_mem _ (hU_X8 x h)) hown hE hP hJ hS (by decide) rfl rfl (by decide +kernel) (hts _ (List.mem_cons_of_mem _ uM_143)) (fun _ h9 => h9) dX8_number_63 (fun H locs hP hS => ?_)
      refine lv_iload_n hx hb dX8_number_66 rfl (lv_at hl 0 rfl) ?_
      exact zr_i hx hb hr hlocks hS (⟨by rw [mNum, if_pos ⟨z_nle c_24, c_35⟩], by rw [show mNum pd n a = (((10 * ((pd a) - 48)) + (pd (a + 1))) - 48, a + 2) by rw [mNum, if_pos ⟨z_nle c_24, c_35⟩]]; exact hP⟩) dX8_number_67
set_option maxHeartbeats 4000000 in
set_option maxRecDepth 100000 in
theorem c_X8_order (l : Launch) (V : zV) (g : Nat → Nat) (w pa be av sl sv pd cd : Nat → Int32) (st le ap pl wy : Int32) (n a : Nat) (hJ : zInj 9 g) (hle : le = nI n) (hap : ap = nI a) (h80 : n ≤ 80) (han : a ≤ n) : Met l yX8_order wsX8_order (zR 6 0 0) (zPc V [.ref (g 0), .int 0] (fun H => va_P V.1 vwCl (zmW V g w pa be av sl sv pd cd st le ap pl wy) H)) (zQi (fun r H => r = (if (mTok pd n a).1 = true then 0 else -3) ∧ va_P V.1 vwCl (zmW V g w pa be av sl sv pd cd st le (nI (mTok pd n a).2.1) pl wy) H) (zIn 9 g)) 0 0 (zIn 9 g) := by
  refine Met.ofW (cc := cX8_order) (maxL := 6) (ret := (some .int)) (by decide) rfl ?_
  intro p e s m args below meth c s₁ B hml hv
  obtain ⟨rfl, hP, hE⟩ := hv
  have hx := B.exec
  have hb := B.bytes
  have hr := B.returns
  have hts := atoms_spec (ws := wsX8_order) B.pre
  have hown : s.vm.findClass RX8 = some m.cls := findClass_of_methodNamed B.named
  have hlocks := B.notSynchronized
  have hl := lv_entry ([.ref (g 0), .int 0]) (n := 6) (Nat.le_of_ble_eq_true rfl)
  rw [lg_entry_eq]
  generalize (lg_sl ([.ref (g 0), .int 0]) ++ List.replicate (6 - (lg_sl ([.ref (g 0), .int 0])).length) Slot.unset).toArray = ls at hl ⊢
  have hl : lv_has ls 6 [(0, .ref (g 0)), (1, .int 0)] := hl
  have hS : va_S (zIn 9 g) s.heap s.heap [] := va_S.rf
  subst hap
  subst hle
  have J_24 : ∀ (sg : Int32) (ls : Array Slot), True → (sg = mSg pd n a) → lv_has ls 6 [(0, .ref (g 0)), (1, .int 0)] → W p l e (headSpec wsX8_order (zR 6 0 0)).room s m (List.toArray [.ref (g 0), .int 0]) below meth c s.heap [] 0 0 (MQ below (zQi (fun r H => r = (if (mTok pd n a).1 = true then 0 else -3) ∧ va_P V.1 vwCl (zmW V g w pa be av sl sv pd cd st (nI n) (nI (mTok pd n a).2.1) pl wy) H) (zIn 9 g)) (List.toArray [.ref (g 0), .int 0]) s 0 0 (zIn 9 g)) (F0 m 24 ls [.int sg]) := by
    intro sg  ls _ hsg  hl
    refine lv_istore_n (lv' := [(2, .int sg), (0, .ref (g 0)), (1, .int 0)]) hx hb dX8_order_24 rfl hl (by decide) rfl (fun ls hl => ?_)
    have J_52 : ∀ (ls : Array Slot), True → (mSg pd n a = 114 ∨ mSg pd n a = 119 ∨ mSg pd n a = 115 ∨ mSg pd n a = 116) → lv_has ls 6 [(2, .int sg), (0, .ref (g 0)), (1, .int 0)] → W p l e (headSpec wsX8_order (zR 6 0 0)).room s m (List.toArray [.ref (g 0), .int 0]) below meth c s.heap [] 0 0 (MQ below (zQi (fun r H => r = (if (mTok pd n a).1 = true then 0 else -3) ∧ va_P V.1 vwCl (zmW V g w pa be av sl sv pd cd st (nI n) (nI (mTok pd n a).2.1) pl wy) H) (zIn 9 g)) (List.toArray [.ref (g 0), .int 0]) s 0 0 (zIn 9 g)) (F0 m 52 ls []) := by
      intro   ls _ hsg4  hl
      have han : a < n := by
        rcases Nat.lt_or_ge a n with q | q
        · exact q
        · exfalso; have e0 : mSg pd n a = 0 := if_neg (by omega)
          rw [e0] at hsg4; revert hsg4; decide
      refine lv_aload_n hx hb dX8_order_52 rfl (lv_at hl 1 rfl) ?_
      refine lv_dup hx hb dX8_order_53 rfl ?_
      refine zm_get 9 (.int (nI a)) hx hb hts (fun x h => List.mem_cons_of_mem _ (hU_X8 x h)) hown hE hP (by decide) rfl (hts _ (List.mem_cons_of_mem _ uM_143)) (fun _ h9 => h9) dX8_order_54 ?_
      refine lv_iconst (v := 1) hx hb dX8_order_57 (by decide +kernel) ?_
      refine lv_iadd hx hb dX8_order_58 ?_
      refine zt_i (z_add (a := a) (b := 1) (by first | rfl | omega)) ?_
      refine zm_put (st' := st) (le' := (nI n)) (ap' := nI (a + 1)) (pl' := pl) (wy' := wy) 9 (nI (a + 1)) hx hb hts (fun x h => List.mem_cons_of_mem _ (hU_X8 x h)) hown hE hP hJ hS (by decide) rfl rfl (by decide +kernel) (hts _ (List.mem_cons_of_mem _ uM_143)) (fun _ h9 => h9) dX8_order_59 (fun H locs hP hS => ?_)
      refine lv_aload_n hx hb dX8_order_62 rfl (lv_at hl 1 rfl) ?_
      refine lv_bipush (v := 48) hx hb dX8_order_63 (by decide +kernel) ?_
      refine lv_bipush (v := 57) hx hb dX8_order_65 (by decide +kernel) ?_
      refine zc_se (va_runV (As := [.int 48, .int 57]) (rest := []) ⟨hx, hb, hml, hown, hts⟩ (c_X8_sees l V g w pa be av sl sv pd cd st (nI n) (nI (a + 1)) pl wy (a + 1) n 48 57 rfl rfl (by omega) (by omega)) (cwV 2 hts (zgV_ wsM_all uM_142 uM_145 uM_146 uM_147 uM_21) rfl rfl rfl (by decide +kernel) ⟨Nat.le_of_ble_eq_true rfl, Nat.le_of_ble_eq_true rfl⟩) (zPreV (B := fun H => va_P V.1 vwCl (zmW V g w pa be av sl sv pd cd st (nI n) (nI (a + 1)) pl wy) H) hP hE (va_recv hE.1 hP (ci := 8) (q0 := 0) (q := (RX8, TX8, 13)) rfl (zm_c0 V g w pa be av sl sv pd cd st (nI n) (nI (a + 1)) pl wy))) rfl rfl hl.1 rfl (lv_room (Nat.le_of_ble_eq_true rfl)) dX8_order_67 ⟨Nat.le_of_ble_eq_true rfl, Nat.le_of_ble_eq_true rfl⟩) ?_
      refine zbp_ne (P := (a + 1) < n ∧ (48 ≤ pd (a + 1) ∧ pd (a + 1) ≤ 57)) (tgt := 76) hx hb dX8_order_70 (by decide) (fun c_70 => ?_) (fun c_70 => ?_)
      · have hnu_ := mNum_le pd (n := n) (a := a + 1) (by omega)
        refine lv_aload_n hx hb dX8_order_76 rfl (lv_at hl 1 rfl) ?_
        refine zc_i (va_runV (As := []) (rest := []) ⟨hx, hb, hml, hown, hts⟩ (c_X8_number l V g w pa be av sl sv pd cd st (nI n) (nI (a + 1)) pl wy  n (a + 1) hJ rfl rfl (by omega) (by omega)) (cwV 0 hts (zgV_ wsM_all uM_144 uM_149 uM_150 uM_151 uM_21) rfl rfl rfl (by decide +kernel) ⟨Nat.le_of_ble_eq_true rfl, Nat.le_of_ble_eq_true rfl⟩) (zPreV (B := fun H => va_P V.1 vwCl (zmW V g w pa be av sl sv pd cd st (nI n) (nI (a + 1)) pl wy) H) hP hE (va_recv hE.1 hP (ci := 8) (q0 := 0) (q := (RX8, TX8, 13)) rfl (zm_c0 V g w pa be av sl sv pd cd st (nI n) (nI (a + 1)) pl wy))) rfl rfl hl.1 rfl (lv_room (Nat.le_of_ble_eq_true rfl)) dX8_order_77 ⟨Nat.le_of_ble_eq_true rfl, Nat.le_of_ble_eq_true rfl⟩) hS (fun _ h => h) (fun _ h => h) (fun r_ H locs hQ_ _ _ hS => ?_)
        obtain ⟨hr_, hP⟩ := hQ_
        subst hr_
        refine lv_istore_n (lv' := [(3, .int ((mNum pd n (a + 1)).1)), (2, .int sg), (0, .ref (g 0)), (1, .int 0)]) hx hb dX8_order_80 rfl hl (by decide) rfl (fun ls hl => ?_)
        refine lv_iconst (v := 0) hx hb dX8_order_81 (by decide +kernel) ?_
        refine lv_istore (lv' := [(4, .int 0), (3, .int ((mNum pd n (a + 1)).1)), (2, .int sg), (0, .ref (g 0)), (1, .int 0)]) hx hb dX8_order_82 hl (by decide) rfl (fun ls hl => ?_)
        have J_103 : ∀ (b5 : Int32) (H : Heap) (locs : List Loc) (ls : Array Slot), True → ((b5 = 1 ∧ (sg = 114 ∨ sg = 119)) ∨ (b5 = 0 ∧ ¬ (sg = 114 ∨ sg = 119))) → va_P V.1 vwCl (zmW V g w pa be av sl sv pd cd st (nI n) (nI (mNum pd n (a + 1)).2) pl wy) H → va_S (zIn 9 g) s.heap H locs → lv_has ls 6 [(5, .int b5), (4, .int 0), (3, .int ((mNum pd n (a + 1)).1)), (2, .int sg), (0, .ref (g 0)), (1, .int 0)] → W p l e (headSpec wsX8_order (zR 6 0 0)).room s m (List.toArray [.ref (g 0), .int 0]) below meth c H locs 0 0 (MQ below (zQi (fun r H => r = (if (mTok pd n a).1 = true then 0 else -3) ∧ va_P V.1 vwCl (zmW V g w pa be av sl sv pd cd st (nI n) (nI (mTok pd n a).2.1) pl wy) H) (zIn 9 g)) (List.toArray [.ref (g 0), .int 0]) s 0 0 (zIn 9 g)) (F0 m 103 ls []) := by
          intro b5 H locs ls _ hb5 hP hS hl
          rcases hb5 with ⟨rfl, hsl_⟩ | ⟨rfl, hsl_⟩
          · refine lv_iload hx hb dX8_order_103 (lv_at hl 0 rfl) ?_
            refine lv_if_eq (tgt := 167) hx hb dX8_order_105 (by decide) (fun c_105 => ?_) (fun c_105 => ?_)
            · exact absurd c_105 (by decide +kernel)
            refine lv_aload_n hx hb dX8_order_108 rfl (lv_at hl 4 rfl) ?_
            refine lv_bipush (v := 43) hx hb dX8_order_109 (by decide +kernel) ?_
            refine lv_bipush (v := 43) hx hb dX8_order_111 (by decide +kernel) ?_
            refine zc_se (va_runV (As := [.int 43, .int 43]) (rest := []) ⟨hx, hb, hml, hown, hts⟩ (c_X8_sees l V g w pa be av sl sv pd cd st (nI n) (nI (mNum pd n (a + 1)).2) pl wy ((mNum pd n (a + 1)).2) n 43 43 rfl rfl (by omega) (by omega)) (cwV 2 hts (zgV_ wsM_all uM_142 uM_145 uM_146 uM_147 uM_21) rfl rfl rfl (by decide +kernel) ⟨Nat.le_of_ble_eq_true rfl, Nat.le_of_ble_eq_true rfl⟩) (zPreV (B := fun H => va_P V.1 vwCl (zmW V g w pa be av sl sv pd cd st (nI n) (nI (mNum pd n (a + 1)).2) pl wy) H) hP hE (va_recv hE.1 hP (ci := 8) (q0 := 0) (q := (RX8, TX8, 13)) rfl (zm_c0 V g w pa be av sl sv pd cd st (nI n) (nI (mNum pd n (a + 1)).2) pl wy))) rfl rfl hl.1 rfl (lv_room (Nat.le_of_ble_eq_true rfl)) dX8_order_113 ⟨Nat.le_of_ble_eq_true rfl, Nat.le_of_ble_eq_true rfl⟩) ?_
            refine zbp_eq (P := ((mNum pd n (a + 1)).2) < n ∧ (43 ≤ pd ((mNum pd n (a + 1)).2) ∧ pd ((mNum pd n (a + 1)).2) ≤ 43)) (tgt := 167) hx hb dX8_order_116 (by decide) (fun c_116 => ?_) (fun c_116 => ?_)
            · refine lv_iload_n hx hb dX8_order_167 rfl (lv_at hl 5 rfl) ?_
              refine lv_if_ne (tgt := 173) hx hb dX8_order_168 (by decide) (fun c_168 => ?_) (fun c_168 => ?_)
              · exact absurd c_168 (by decide +kernel)
              refine lv_iconst (v := 0) hx hb dX8_order_171 (by decide +kernel) ?_
              exact zr_i hx hb hr hlocks hS (⟨by rw [show mTok pd n a = (true, (mNum pd n (a + 1)).2, mSg pd n a, (mNum pd n (a + 1)).1, 0) by rw [mTok, if_pos hsg4, if_pos c_70, if_neg (fun h => c_116 h.2)]]; rfl, by rw [show mTok pd n a = (true, (mNum pd n (a + 1)).2, mSg pd n a, (mNum pd n (a + 1)).1, 0) by rw [mTok, if_pos hsg4, if_pos c_70, if_neg (fun h => c_116 h.2)]]; exact hP⟩) dX8_order_172
            · refine lv_aload_n hx hb dX8_order_119 rfl (lv_at hl 4 rfl) ?_
              refine lv_dup hx hb dX8_order_120 rfl ?_
              refine zm_get 9 (.int (nI ((mNum pd n (a + 1)).2))) hx hb hts (fun x h => List.mem_cons_of_mem _ (hU_X8 x h)) hown hE hP (by decide) rfl (hts _ (List.mem_cons_of_mem _ uM_143)) (fun _ h9 => h9) dX8_order_121 ?_
              refine lv_iconst (v := 1) hx hb dX8_order_124 (by decide +kernel) ?_
              refine lv_iadd hx hb dX8_order_125 ?_
              refine zt_i (z_add (a := (mNum pd n (a + 1)).2) (b := 1) (by first | rfl | omega)) ?_
              refine zm_put (st' := st) (le' := (nI n)) (ap' := nI (((mNum pd n (a + 1)).2) + 1)) (pl' := pl) (wy' := wy) 9 (nI (((mNum pd n (a + 1)).2) + 1)) hx hb hts (fun x h => List.mem_cons_of_mem _ (hU_X8 x h)) hown hE hP hJ hS (by decide) rfl rfl (by decide +kernel) (hts _ (List.mem_cons_of_mem _ uM_143)) (fun _ h9 => h9) dX8_order_126 (fun H locs hP hS => ?_)
              refine lv_aload_n hx hb dX8_order_129 rfl (lv_at hl 4 rfl) ?_
              refine lv_bipush (v := 48) hx hb dX8_order_130 (by decide +kernel) ?_
              refine lv_bipush (v := 57) hx hb dX8_order_132 (by decide +kernel) ?_
              refine zc_se (va_runV (As := [.int 48, .int 57]) (rest := []) ⟨hx, hb, hml, hown, hts⟩ (c_X8_sees l V g w pa be av sl sv pd cd st (nI n) (nI (((mNum pd n (a + 1)).2) + 1)) pl wy (((mNum pd n (a + 1)).2) + 1) n 48 57 rfl rfl (by omega) (by omega)) (cwV 2 hts (zgV_ wsM_all uM_142 uM_145 uM_146 uM_147 uM_21) rfl rfl rfl (by decide +kernel) ⟨Nat.le_of_ble_eq_true rfl, Nat.le_of_ble_eq_true rfl⟩) (zPreV (B := fun H => va_P V.1 vwCl (zmW V g w pa be av sl sv pd cd st (nI n) (nI (((mNum pd n (a + 1)).2) + 1)) pl wy) H) hP hE (va_recv hE.1 hP (ci := 8) (q0 := 0) (q := (RX8, TX8, 13)) rfl (zm_c0 V g w pa be av sl sv pd cd st (nI n) (nI (((mNum pd n (a + 1)).2) + 1)) pl wy))) rfl rfl hl.1 rfl (lv_room (Nat.le_of_ble_eq_true rfl)) dX8_order_134 ⟨Nat.le_of_ble_eq_true rfl, Nat.le_of_ble_eq_true rfl⟩) ?_
              refine zbp_ne (P := (((mNum pd n (a + 1)).2) + 1) < n ∧ (48 ≤ pd (((mNum pd n (a + 1)).2) + 1) ∧ pd (((mNum pd n (a + 1)).2) + 1) ≤ 57)) (tgt := 143) hx hb dX8_order_137 (by decide) (fun c_137 => ?_) (fun c_137 => ?_)
              · refine lv_aload_n hx hb dX8_order_143 rfl (lv_at hl 4 rfl) ?_
                refine zm_get 7 (.ref (g 7)) hx hb hts (fun x h => List.mem_cons_of_mem _ (hU_X8 x h)) hown hE hP (by decide) rfl (hts _ (List.mem_cons_of_mem _ uM_12)) (fun _ h9 => h9) dX8_order_144 ?_
                refine lv_aload_n hx hb dX8_order_147 rfl (lv_at hl 4 rfl) ?_
                refine zm_get 9 (.int (nI (((mNum pd n (a + 1)).2) + 1))) hx hb hts (fun x h => List.mem_cons_of_mem _ (hU_X8 x h)) hown hE hP (by decide) rfl (hts _ (List.mem_cons_of_mem _ uM_143)) (fun _ h9 => h9) dX8_order_148 ?_
                refine z_iald (k := ((mNum pd n (a + 1)).2) + 1) hx hb hE hP 7 (zm_c7 V g w pa be av sl sv pd cd st (nI n) (nI (((mNum pd n (a + 1)).2) + 1)) pl wy) (by omega) (by decide) dX8_order_151 ?_
                refine lv_bipush (v := 48) hx hb dX8_order_152 (by decide +kernel) ?_
                refine lv_isub hx hb dX8_order_154 ?_
                refine lv_istore (lv' := [(4, .int ((pd (((mNum pd n (a + 1)).2) + 1)) - 48)), (5, .int 1), (3, .int ((mNum pd n (a + 1)).1)), (2, .int sg), (0, .ref (g 0)), (1, .int 0)]) hx hb dX8_order_155 hl (by decide) rfl (fun ls hl => ?_)
                refine lv_aload_n hx hb dX8_order_157 rfl (lv_at hl 4 rfl) ?_
                refine lv_dup hx hb dX8_order_158 rfl ?_
                refine zm_get 9 (.int (nI (((mNum pd n (a + 1)).2) + 1))) hx hb hts (fun x h => List.mem_cons_of_mem _ (hU_X8 x h)) hown hE hP (by decide) rfl (hts _ (List.mem_cons_of_mem _ uM_143)) (fun _ h9 => h9) dX8_order_159 ?_
                refine lv_iconst (v := 1) hx hb dX8_order_162 (by decide +kernel) ?_
                refine lv_iadd hx hb dX8_order_163 ?_
                refine zt_i (z_add (a := ((mNum pd n (a + 1)).2) + 1) (b := 1) (by first | rfl | omega)) ?_
                refine zm_put (st' := st) (le' := (nI n)) (ap' := nI (((mNum pd n (a + 1)).2) + 2)) (pl' := pl) (wy' := wy) 9 (nI (((mNum pd n (a + 1)).2) + 2)) hx hb hts (fun x h => List.mem_cons_of_mem _ (hU_X8 x h)) hown hE hP hJ hS (by decide) rfl rfl (by decide +kernel) (hts _ (List.mem_cons_of_mem _ uM_143)) (fun _ h9 => h9) dX8_order_164 (fun H locs hP hS => ?_)
                refine lv_iload_n hx hb dX8_order_167 rfl (lv_at hl 5 rfl) ?_
                refine lv_if_ne (tgt := 173) hx hb dX8_order_168 (by decide) (fun c_168 => ?_) (fun c_168 => ?_)
                · exact absurd c_168 (by decide +kernel)
                refine lv_iconst (v := 0) hx hb dX8_order_171 (by decide +kernel) ?_
                exact zr_i hx hb hr hlocks hS (⟨by rw [show mTok pd n a = (true, (mNum pd n (a + 1)).2 + 2, mSg pd n a, (mNum pd n (a + 1)).1, pd ((mNum pd n (a + 1)).2 + 1) - 48) by rw [mTok, if_pos hsg4, if_pos c_70, if_pos ⟨by rw [← hsg]; exact hsl_, c_116⟩, if_pos c_137]]; rfl, by rw [show mTok pd n a = (true, (mNum pd n (a + 1)).2 + 2, mSg pd n a, (mNum pd n (a + 1)).1, pd ((mNum pd n (a + 1)).2 + 1) - 48) by rw [mTok, if_pos hsg4, if_pos c_70, if_pos ⟨by rw [← hsg]; exact hsl_, c_116⟩, if_pos c_137]]; exact hP⟩) dX8_order_172
              · refine lv_bipush (v := (-3)) hx hb dX8_order_140 (by decide +kernel) ?_
                exact zr_i hx hb hr hlocks hS (⟨by rw [show mTok pd n a = (false, (mNum pd n (a + 1)).2 + 1, mSg pd n a, 0, 0) by rw [mTok, if_pos hsg4, if_pos c_70, if_pos ⟨by rw [← hsg]; exact hsl_, c_116⟩, if_neg c_137]]; rfl, by rw [show mTok pd n a = (false, (mNum pd n (a + 1)).2 + 1, mSg pd n a, 0, 0) by rw [mTok, if_pos hsg4, if_pos c_70, if_pos ⟨by rw [← hsg]; exact hsl_, c_116⟩, if_neg c_137]]; exact hP⟩) dX8_order_142
          · refine lv_iload hx hb dX8_order_103 (lv_at hl 0 rfl) ?_
            refine lv_if_eq (tgt := 167) hx hb dX8_order_105 (by decide) (fun c_105 => ?_) (fun c_105 => ?_)
            rotate_left
            · exact absurd c_105 (by decide +kernel)
            refine lv_iload_n hx hb dX8_order_167 rfl (lv_at hl 5 rfl) ?_
            refine lv_if_ne (tgt := 173) hx hb dX8_order_168 (by decide) (fun c_168 => ?_) (fun c_168 => ?_)
            · exact absurd c_168 (by decide +kernel)
            refine lv_iconst (v := 0) hx hb dX8_order_171 (by decide +kernel) ?_
            exact zr_i hx hb hr hlocks hS (⟨by rw [show mTok pd n a = (true, (mNum pd n (a + 1)).2, mSg pd n a, (mNum pd n (a + 1)).1, 0) by rw [mTok, if_pos hsg4, if_pos c_70, if_neg (fun h => hsl_ (by rw [hsg]; exact h.1))]]; rfl, by rw [show mTok pd n a = (true, (mNum pd n (a + 1)).2, mSg pd n a, (mNum pd n (a + 1)).1, 0) by rw [mTok, if_pos hsg4, if_pos c_70, if_neg (fun h => hsl_ (by rw [hsg]; exact h.1))]]; exact hP⟩) dX8_order_172
        refine lv_iload_n hx hb dX8_order_84 rfl (lv_at hl 2 rfl) ?_
        refine lv_bipush (v := 114) hx hb dX8_order_85 (by decide +kernel) ?_
        refine lv_icmp_eq (tgt := 96) hx hb dX8_order_87 (by decide) (fun c_87 => ?_) (fun c_87 => ?_)
        · refine lv_iconst (v := 1) hx hb dX8_order_96 (by decide +kernel) ?_
          refine lv_goto (tgt := 101) hx hb dX8_order_97 (by decide) ?_
          refine lv_istore (lv' := [(5, .int 1), (4, .int 0), (3, .int ((mNum pd n (a + 1)).1)), (2, .int sg), (0, .ref (g 0)), (1, .int 0)]) hx hb dX8_order_101 hl (by decide) rfl (fun ls hl => ?_)
          exact J_103 _ H locs ls trivial (by first | exact Or.inl ⟨rfl, Or.inl c_87⟩ | exact Or.inl ⟨rfl, Or.inr c_93⟩ | exact Or.inr ⟨rfl, fun h => h.elim c_87 c_93⟩) hP hS (lv_sub hl [0, 1, 2, 3, 4, 5] rfl)
        · refine lv_iload_n hx hb dX8_order_90 rfl (lv_at hl 2 rfl) ?_
          refine lv_bipush (v := 119) hx hb dX8_order_91 (by decide +kernel) ?_
          refine lv_icmp_ne (tgt := 100) hx hb dX8_order_93 (by decide) (fun c_93 => ?_) (fun c_93 => ?_)
          · refine lv_iconst (v := 0) hx hb dX8_order_100 (by decide +kernel) ?_
            refine lv_istore (lv' := [(5, .int 0), (4, .int 0), (3, .int ((mNum pd n (a + 1)).1)), (2, .int sg), (0, .ref (g 0)), (1, .int 0)]) hx hb dX8_order_101 hl (by decide) rfl (fun ls hl => ?_)
            exact J_103 _ H locs ls trivial (by first | exact Or.inl ⟨rfl, Or.inl c_87⟩ | exact Or.inl ⟨rfl, Or.inr c_93⟩ | exact Or.inr ⟨rfl, fun h => h.elim c_87 c_93⟩) hP hS (lv_sub hl [0, 1, 2, 3, 4, 5] rfl)
          · refine lv_iconst (v := 1) hx hb dX8_order_96 (by decide +kernel) ?_
            refine lv_goto (tgt := 101) hx hb dX8_order_97 (by decide) ?_
            refine lv_istore (lv' := [(5, .int 1), (4, .int 0), (3, .int ((mNum pd n (a + 1)).1)), (2, .int sg), (0, .ref (g 0)), (1, .int 0)]) hx hb dX8_order_101 hl (by decide) rfl (fun ls hl => ?_)
            exact J_103 _ H locs ls trivial (by first | exact Or.inl ⟨rfl, Or.inl c_87⟩ | exact Or.inl ⟨rfl, Or.inr c_93⟩ | exact Or.inr ⟨rfl, fun h => h.elim c_87 c_93⟩) hP hS (lv_sub hl [0, 1, 2, 3, 4, 5] rfl)
      · refine lv_bipush (v := (-3)) hx hb dX8_order_73 (by decide +kernel) ?_
        exact zr_i hx hb hr hlocks hS (⟨by rw [show mTok pd n a = (false, a + 1, mSg pd n a, 0, 0) by rw [mTok, if_pos hsg4, if_neg c_70]]; rfl, by rw [show mTok pd n a = (false, a + 1, mSg pd n a, 0, 0) by rw [mTok, if_pos hsg4, if_neg c_70]]; exact hP⟩) dX8_order_75
    refine lv_iload_n hx hb dX8_order_25 rfl (lv_at hl 0 rfl) ?_
    refine lv_bipush (v := 114) hx hb dX8_order_26 (by decide +kernel) ?_
    refine lv_icmp_eq (tgt := 52) hx hb dX8_order_28 (by decide) (fun c_28 => ?_) (fun c_28 => ?_)
    · exact J_52 ls trivial (by rw [← hsg]; first | exact Or.inl c_28 | exact Or.inr (Or.inl c_34) | exact Or.inr (Or.inr (Or.inl c_40)) | exact Or.inr (Or.inr (Or.inr c_46))) (lv_sub hl [0, 1, 2] rfl)
    · refine lv_iload_n hx hb dX8_order_31 rfl (lv_at hl 0 rfl) ?_
      refine lv_bipush (v := 119) hx hb dX8_order_32 (by decide +kernel) ?_
      refine lv_icmp_eq (tgt := 52) hx hb dX8_order_34 (by decide) (fun c_34 => ?_) (fun c_34 => ?_)
      · exact J_52 ls trivial (by rw [← hsg]; first | exact Or.inl c_28 | exact Or.inr (Or.inl c_34) | exact Or.inr (Or.inr (Or.inl c_40)) | exact Or.inr (Or.inr (Or.inr c_46))) (lv_sub hl [0, 1, 2] rfl)
      · refine lv_iload_n hx hb dX8_order_37 rfl (lv_at hl 0 rfl) ?_
        refine lv_bipush (v := 115) hx hb dX8_order_38 (by decide +kernel) ?_
        refine lv_icmp_eq (tgt := 52) hx hb dX8_order_40 (by decide) (fun c_40 => ?_) (fun c_40 => ?_)
        · exact J_52 ls trivial (by rw [← hsg]; first | exact Or.inl c_28 | exact Or.inr (Or.inl c_34) | exact Or.inr (Or.inr (Or.inl c_40)) | exact Or.inr (Or.inr (Or.inr c_46))) (lv_sub hl [0, 1, 2] rfl)
        · refine lv_iload_n hx hb dX8_order_43 rfl (lv_at hl 0 rfl) ?_
          refine lv_bipush (v := 116) hx hb dX8_order_44 (by decide +kernel) ?_
          refine lv_icmp_eq (tgt := 52) hx hb dX8_order_46 (by decide) (fun c_46 => ?_) (fun c_46 => ?_)
          · exact J_52 ls trivial (by rw [← hsg]; first | exact Or.inl c_28 | exact Or.inr (Or.inl c_34) | exact Or.inr (Or.inr (Or.inl c_40)) | exact Or.inr (Or.inr (Or.inr c_46))) (lv_sub hl [0, 1, 2] rfl)
          · refine lv_bipush (v := (-3)) hx hb dX8_order_49 (by decide +kernel) ?_
            exact zr_i hx hb hr hlocks hS (⟨by rw [show mTok pd n a = (false, a, mSg pd n a, 0, 0) by rw [mTok, if_neg (fun h => by rw [← hsg] at h; exact h.elim c_28 (fun h => h.elim c_34 (fun h => h.elim c_40 c_46)))]]; rfl, by rw [show mTok pd n a = (false, a, mSg pd n a, 0, 0) by rw [mTok, if_neg (fun h => by rw [← hsg] at h; exact h.elim c_28 (fun h => h.elim c_34 (fun h => h.elim c_40 c_46)))]]; exact hP⟩) dX8_order_51
  refine lv_aload_n hx hb dX8_order_0 rfl (lv_at hl 0 rfl) ?_
  refine zm_get 9 (.int (nI a)) hx hb hts (fun x h => List.mem_cons_of_mem _ (hU_X8 x h)) hown hE hP (by decide) rfl (hts _ (List.mem_cons_of_mem _ uM_143)) (fun _ h9 => h9) dX8_order_1 ?_
  refine lv_aload_n hx hb dX8_order_4 rfl (lv_at hl 0 rfl) ?_
  refine zm_get 8 (.int (nI n)) hx hb hts (fun x h => List.mem_cons_of_mem _ (hU_X8 x h)) hown hE hP (by decide) rfl (hts _ (List.mem_cons_of_mem _ uM_134)) (fun _ h9 => h9) dX8_order_5 ?_
  refine zb_ge (x := a) (y := n) (tgt := 23) hx hb dX8_order_8 (by decide) (by omega) (by omega) (fun c_8 => ?_) (fun c_8 => ?_)
  · refine lv_iconst (v := 0) hx hb dX8_order_23 (by decide +kernel) ?_
    exact J_24 _ ls trivial (by unfold mSg; first | rw [if_pos (by omega)] | rw [if_neg (by omega)]) (lv_sub hl [0, 1] rfl)
  · refine lv_aload_n hx hb dX8_order_11 rfl (lv_at hl 0 rfl) ?_
    refine zm_get 7 (.ref (g 7)) hx hb hts (fun x h => List.mem_cons_of_mem _ (hU_X8 x h)) hown hE hP (by decide) rfl (hts _ (List.mem_cons_of_mem _ uM_12)) (fun _ h9 => h9) dX8_order_12 ?_
    refine lv_aload_n hx hb dX8_order_15 rfl (lv_at hl 0 rfl) ?_
    refine zm_get 9 (.int (nI a)) hx hb hts (fun x h => List.mem_cons_of_mem _ (hU_X8 x h)) hown hE hP (by decide) rfl (hts _ (List.mem_cons_of_mem _ uM_143)) (fun _ h9 => h9) dX8_order_16 ?_
    refine z_iald (k := a) hx hb hE hP 7 (zm_c7 V g w pa be av sl sv pd cd st (nI n) (nI a) pl wy) (by omega) (by decide) dX8_order_19 ?_
    refine lv_goto (tgt := 24) hx hb dX8_order_20 (by decide) ?_
    exact J_24 _ ls trivial (by unfold mSg; first | rw [if_pos (by omega)] | rw [if_neg (by omega)]) (lv_sub hl [0, 1] rfl)
theorem mComes_ok {w : Nat → Int32} {n : Nat} (h : mOK w n) (wr d mm : Int32) : ∃ n', mOK (mComes w n wr d mm).2 n' ∧ n ≤ n' ∧ n' ≤ n + 1 := by
  obtain ⟨h1, h2, h3, h4⟩ := h
  unfold mComes
  by_cases hs : mSlip wr d mm
  · rw [if_pos hs]
    cases hq : mPart w n wr d mm with
    | some k =>
      have hk : k < n := (zFirst_lt hq).1
      refine ⟨n, ⟨?_, h2, fun j hj => ?_, fun j hj => ?_⟩, Nat.le_refl _, Nat.le_succ _⟩
      · show upd (upd w _ _) _ _ 7 = nI n
        simp only [upd]
        rw [if_neg (by omega), if_neg (by omega)]
        exact h1
      · show zF (upd (upd w _ _) _ _) j 1 = 0 ∨ zF (upd (upd w _ _) _ _) j 1 = 1
        unfold zF
        simp only [upd]
        rw [if_neg (by omega), if_neg (by omega)]
        exact h3 j hj
      · show 0 ≤ zF (upd (upd w _ _) _ _) j 2
        unfold zF
        simp only [upd]
        rw [if_neg (by omega), if_neg (by omega)]
        exact h4 j hj
    | none =>
      by_cases h30 : n = 30
      · refine ⟨n, ?_, Nat.le_refl _, Nat.le_succ _⟩
        show mOK (if n = 30 then ((-4 : Int32), w) else _).2 n
        rw [if_pos h30]
        exact ⟨h1, h2, h3, h4⟩
      · refine ⟨n + 1, ?_, Nat.le_succ _, Nat.le_refl _⟩
        show mOK (if n = 30 then ((-4 : Int32), w) else _).2 (n + 1)
        rw [if_neg h30]
        refine ⟨?_, by omega, fun j hj => ?_, fun j hj => ?_⟩
        · simp [upd]
        · show zF (upd (upd (upd (upd (upd (upd (upd (upd w _ _) _ _) _ _) _ _) _ _) _ _) _ _) _ _) j 1 = 0 ∨ zF (upd (upd (upd (upd (upd (upd (upd (upd w _ _) _ _) _ _) _ _) _ _) _ _) _ _) _ _) j 1 = 1
          unfold zF
          simp only [upd]
          rw [if_neg (show ¬ 78 + 6 * j + 1 = 8 by omega), if_neg (show ¬ 78 + 6 * j + 1 = 7 by omega), if_neg (show ¬ 78 + 6 * j + 1 = 78 + 6 * n + 5 by omega), if_neg (show ¬ 78 + 6 * j + 1 = 78 + 6 * n + 4 by omega), if_neg (show ¬ 78 + 6 * j + 1 = 78 + 6 * n + 3 by omega), if_neg (show ¬ 78 + 6 * j + 1 = 78 + 6 * n + 2 by omega)]
          by_cases hjn : j = n
          · rw [if_pos (by omega)]
            obtain ⟨⟨ha, hb⟩, -⟩ := hs
            obtain ⟨q, rfl, -, hq1⟩ := z_ix (na := 0) (nb := 1) rfl rfl (by decide) (by decide) ⟨ha, hb⟩
            rcases (show q = 0 ∨ q = 1 by omega) with rfl | rfl
            · exact Or.inl rfl
            · exact Or.inr rfl
          · rw [if_neg (show ¬ 78 + 6 * j + 1 = 78 + 6 * n + 1 by omega), if_neg (show ¬ 78 + 6 * j + 1 = 78 + 6 * n by omega)]
            exact h3 j (by omega)
        · show 0 ≤ zF (upd (upd (upd (upd (upd (upd (upd (upd w _ _) _ _) _ _) _ _) _ _) _ _) _ _) _ _) j 2
          unfold zF
          simp only [upd]
          rw [if_neg (show ¬ 78 + 6 * j + 2 = 8 by omega), if_neg (show ¬ 78 + 6 * j + 2 = 7 by omega), if_neg (show ¬ 78 + 6 * j + 2 = 78 + 6 * n + 5 by omega), if_neg (show ¬ 78 + 6 * j + 2 = 78 + 6 * n + 4 by omega), if_neg (show ¬ 78 + 6 * j + 2 = 78 + 6 * n + 3 by omega)]
          by_cases hjn : j = n
          · rw [if_pos (by omega)]
            exact hs.2.1.1
          · rw [if_neg (show ¬ 78 + 6 * j + 2 = 78 + 6 * n + 2 by omega), if_neg (show ¬ 78 + 6 * j + 2 = 78 + 6 * n + 1 by omega), if_neg (show ¬ 78 + 6 * j + 2 = 78 + 6 * n by omega)]
            exact h4 j (by omega)
  · rw [if_neg hs]
    exact ⟨n, ⟨h1, h2, h3, h4⟩, Nat.le_refl _, Nat.le_succ _⟩
theorem mServes_ok {w : Nat → Int32} {n : Nat} (h : mOK w n) (many : Int32) : ∃ n', mOK (mServes w n many).2 n' ∧ n' ≤ n := by
  unfold mServes
  split
  · split
    · exact ⟨n, h, Nat.le_refl _⟩
    · split
      · exact ⟨n, h, Nat.le_refl _⟩
      · exact ⟨n - min many.toNatClampNeg n, mRun_ok h (by omega), by omega⟩
  · exact ⟨n, h, Nat.le_refl _⟩
theorem mWaits_ok {w : Nat → Int32} {n : Nat} (h : mOK w n) (mi : Int32) : mOK (mWaits w mi).2 n := by
  unfold mWaits
  split
  · split
    · exact h
    · obtain ⟨h1, h2, h3, h4⟩ := h
      have e : ∀ x k f, zF (upd w 6 x) k f = zF w k f := fun x k f => by unfold zF upd; exact if_neg (by omega)
      exact ⟨h1, h2, fun k hk => by rw [e]; exact h3 k hk, fun k hk => by rw [e]; exact h4 k hk⟩
  · exact h
theorem mDo_ok {w : Nat → Int32} {n : Nat} (h : mOK w n) (t : Bool × Nat × Int32 × Int32 × Int32) : ∃ n', mOK (mDo w n t).2 n' := by
  unfold mDo
  split
  · obtain ⟨n', h', -⟩ := mComes_ok h (if t.2.2.1 = 119 then 1 else 0) t.2.2.2.1 (1 + t.2.2.2.2)
    exact ⟨n', h'⟩
  · split
    · obtain ⟨n', h', -⟩ := mServes_ok h t.2.2.2.1
      exact ⟨n', h'⟩
    · exact ⟨n, mWaits_ok h _⟩
theorem nOf_ok {w : Nat → Int32} {n : Nat} (h : mOK w n) : nOf w = n := by unfold nOf; rw [h.1, nI_clamp (by have := h.2.1; omega)]
theorem mWl_stop (pd : Nat → Int32) (n : Nat) {s : Bool × Nat} (h : ¬ (s.1 = true ∧ s.2 < n)) : ∀ f, mWl pd n f s = s
  | 0 => rfl
  | f + 1 => if_neg h
theorem mCO_stop (pd : Nat → Int32) (n : Nat) {s : Bool × Nat × (Nat → Int32) × Nat} (h : ¬ (s.1 = true ∧ s.2.1 < n)) : ∀ f, mCO pd n f s = (s.2.2.1, s.2.2.2)
  | 0 => rfl
  | f + 1 => if_neg h
set_option maxHeartbeats 4000000 in
set_option maxRecDepth 100000 in
theorem c_X8_order1 (l : Launch) (V : zV) (g : Nat → Nat) (w pa be av sl sv pd cd : Nat → Int32) (st le ap pl wy : Int32) (n a m_ : Nat) (hJ : zInj 9 g) (hle : le = nI n) (hap : ap = nI a) (h80 : n ≤ 80) (han : a ≤ n) (hok : mOK w m_) : Met l yX8_order wsX8_order (zR 6 0 0) (zPc V [.ref (g 0), .int 1] (fun H => va_P V.1 vwCl (zmW V g w pa be av sl sv pd cd st le ap pl wy) H)) (zQi (fun r H => r = (if (mTok pd n a).1 = true then (mDo w m_ (mTok pd n a)).1 else -3) ∧ (∃ av' : Nat → Int32, ∃ pl' : Int32, ∃ wy' : Int32, va_P V.1 vwCl (zmW V g (if (mTok pd n a).1 = true then (mDo w m_ (mTok pd n a)).2 else w) pa be av' sl sv pd cd st le (nI (mTok pd n a).2.1) pl' wy') H)) (zIn 9 g)) 0 0 (zIn 9 g) := by
  refine Met.ofW (cc := cX8_order) (maxL := 6) (ret := (some .int)) (by decide) rfl ?_
  intro p e s m args below meth c s₁ B hml hv
  obtain ⟨rfl, hP, hE⟩ := hv
  have hx := B.exec
  have hb := B.bytes
  have hr := B.returns
  have hts := atoms_spec (ws := wsX8_order) B.pre
  have hown : s.vm.findClass RX8 = some m.cls := findClass_of_methodNamed B.named
  have hlocks := B.notSynchronized
  have hl := lv_entry ([.ref (g 0), .int 1]) (n := 6) (Nat.le_of_ble_eq_true rfl)
  rw [lg_entry_eq]
  generalize (lg_sl ([.ref (g 0), .int 1]) ++ List.replicate (6 - (lg_sl ([.ref (g 0), .int 1])).length) Slot.unset).toArray = ls at hl ⊢
  have hl : lv_has ls 6 [(0, .ref (g 0)), (1, .int 1)] := hl
  have hS : va_S (zIn 9 g) s.heap s.heap [] := va_S.rf
  subst hap
  subst hle
  have hok0 : mOK w m_ := hok
  obtain ⟨hn, h30, hwr, hfd⟩ := hok
  have J_24 : ∀ (sg : Int32) (ls : Array Slot), True → (sg = mSg pd n a) → lv_has ls 6 [(0, .ref (g 0)), (1, .int 1)] → W p l e (headSpec wsX8_order (zR 6 0 0)).room s m (List.toArray [.ref (g 0), .int 1]) below meth c s.heap [] 0 0 (MQ below (zQi (fun r H => r = (if (mTok pd n a).1 = true then (mDo w m_ (mTok pd n a)).1 else -3) ∧ (∃ av' : Nat → Int32, ∃ pl' : Int32, ∃ wy' : Int32, va_P V.1 vwCl (zmW V g (if (mTok pd n a).1 = true then (mDo w m_ (mTok pd n a)).2 else w) pa be av' sl sv pd cd st (nI n) (nI (mTok pd n a).2.1) pl' wy') H)) (zIn 9 g)) (List.toArray [.ref (g 0), .int 1]) s 0 0 (zIn 9 g)) (F0 m 24 ls [.int sg]) := by
    intro sg  ls _ hsg  hl
    refine lv_istore_n (lv' := [(2, .int sg), (0, .ref (g 0)), (1, .int 1)]) hx hb dX8_order_24 rfl hl (by decide) rfl (fun ls hl => ?_)
    have J_52 : ∀ (ls : Array Slot), True → (mSg pd n a = 114 ∨ mSg pd n a = 119 ∨ mSg pd n a = 115 ∨ mSg pd n a = 116) → lv_has ls 6 [(2, .int sg), (0, .ref (g 0)), (1, .int 1)] → W p l e (headSpec wsX8_order (zR 6 0 0)).room s m (List.toArray [.ref (g 0), .int 1]) below meth c s.heap [] 0 0 (MQ below (zQi (fun r H => r = (if (mTok pd n a).1 = true then (mDo w m_ (mTok pd n a)).1 else -3) ∧ (∃ av' : Nat → Int32, ∃ pl' : Int32, ∃ wy' : Int32, va_P V.1 vwCl (zmW V g (if (mTok pd n a).1 = true then (mDo w m_ (mTok pd n a)).2 else w) pa be av' sl sv pd cd st (nI n) (nI (mTok pd n a).2.1) pl' wy') H)) (zIn 9 g)) (List.toArray [.ref (g 0), .int 1]) s 0 0 (zIn 9 g)) (F0 m 52 ls []) := by
      intro   ls _ hsg4  hl
      have han : a < n := by
        rcases Nat.lt_or_ge a n with q | q
        · exact q
        · exfalso; have e0 : mSg pd n a = 0 := if_neg (by omega)
          rw [e0] at hsg4; revert hsg4; decide
      refine lv_aload_n hx hb dX8_order_52 rfl (lv_at hl 1 rfl) ?_
      refine lv_dup hx hb dX8_order_53 rfl ?_
      refine zm_get 9 (.int (nI a)) hx hb hts (fun x h => List.mem_cons_of_mem _ (hU_X8 x h)) hown hE hP (by decide) rfl (hts _ (List.mem_cons_of_mem _ uM_143)) (fun _ h9 => h9) dX8_order_54 ?_
      refine lv_iconst (v := 1) hx hb dX8_order_57 (by decide +kernel) ?_
      refine lv_iadd hx hb dX8_order_58 ?_
      refine zt_i (z_add (a := a) (b := 1) (by first | rfl | omega)) ?_
      refine zm_put (st' := st) (le' := (nI n)) (ap' := nI (a + 1)) (pl' := pl) (wy' := wy) 9 (nI (a + 1)) hx hb hts (fun x h => List.mem_cons_of_mem _ (hU_X8 x h)) hown hE hP hJ hS (by decide) rfl rfl (by decide +kernel) (hts _ (List.mem_cons_of_mem _ uM_143)) (fun _ h9 => h9) dX8_order_59 (fun H locs hP hS => ?_)
      refine lv_aload_n hx hb dX8_order_62 rfl (lv_at hl 1 rfl) ?_
      refine lv_bipush (v := 48) hx hb dX8_order_63 (by decide +kernel) ?_
      refine lv_bipush (v := 57) hx hb dX8_order_65 (by decide +kernel) ?_
      refine zc_se (va_runV (As := [.int 48, .int 57]) (rest := []) ⟨hx, hb, hml, hown, hts⟩ (c_X8_sees l V g w pa be av sl sv pd cd st (nI n) (nI (a + 1)) pl wy (a + 1) n 48 57 rfl rfl (by omega) (by omega)) (cwV 2 hts (zgV_ wsM_all uM_142 uM_145 uM_146 uM_147 uM_21) rfl rfl rfl (by decide +kernel) ⟨Nat.le_of_ble_eq_true rfl, Nat.le_of_ble_eq_true rfl⟩) (zPreV (B := fun H => va_P V.1 vwCl (zmW V g w pa be av sl sv pd cd st (nI n) (nI (a + 1)) pl wy) H) hP hE (va_recv hE.1 hP (ci := 8) (q0 := 0) (q := (RX8, TX8, 13)) rfl (zm_c0 V g w pa be av sl sv pd cd st (nI n) (nI (a + 1)) pl wy))) rfl rfl hl.1 rfl (lv_room (Nat.le_of_ble_eq_true rfl)) dX8_order_67 ⟨Nat.le_of_ble_eq_true rfl, Nat.le_of_ble_eq_true rfl⟩) ?_
      refine zbp_ne (P := (a + 1) < n ∧ (48 ≤ pd (a + 1) ∧ pd (a + 1) ≤ 57)) (tgt := 76) hx hb dX8_order_70 (by decide) (fun c_70 => ?_) (fun c_70 => ?_)
      · have hnu_ := mNum_le pd (n := n) (a := a + 1) (by omega)
        refine lv_aload_n hx hb dX8_order_76 rfl (lv_at hl 1 rfl) ?_
        refine zc_i (va_runV (As := []) (rest := []) ⟨hx, hb, hml, hown, hts⟩ (c_X8_number l V g w pa be av sl sv pd cd st (nI n) (nI (a + 1)) pl wy  n (a + 1) hJ rfl rfl (by omega) (by omega)) (cwV 0 hts (zgV_ wsM_all uM_144 uM_149 uM_150 uM_151 uM_21) rfl rfl rfl (by decide +kernel) ⟨Nat.le_of_ble_eq_true rfl, Nat.le_of_ble_eq_true rfl⟩) (zPreV (B := fun H => va_P V.1 vwCl (zmW V g w pa be av sl sv pd cd st (nI n) (nI (a + 1)) pl wy) H) hP hE (va_recv hE.1 hP (ci := 8) (q0 := 0) (q := (RX8, TX8, 13)) rfl (zm_c0 V g w pa be av sl sv pd cd st (nI n) (nI (a + 1)) pl wy))) rfl rfl hl.1 rfl (lv_room (Nat.le_of_ble_eq_true rfl)) dX8_order_77 ⟨Nat.le_of_ble_eq_true rfl, Nat.le_of_ble_eq_true rfl⟩) hS (fun _ h => h) (fun _ h => h) (fun r_ H locs hQ_ _ _ hS => ?_)
        obtain ⟨hr_, hP⟩ := hQ_
        subst hr_
        refine lv_istore_n (lv' := [(3, .int ((mNum pd n (a + 1)).1)), (2, .int sg), (0, .ref (g 0)), (1, .int 1)]) hx hb dX8_order_80 rfl hl (by decide) rfl (fun ls hl => ?_)
        refine lv_iconst (v := 0) hx hb dX8_order_81 (by decide +kernel) ?_
        refine lv_istore (lv' := [(4, .int 0), (3, .int ((mNum pd n (a + 1)).1)), (2, .int sg), (0, .ref (g 0)), (1, .int 1)]) hx hb dX8_order_82 hl (by decide) rfl (fun ls hl => ?_)
        have J_103 : ∀ (b5 : Int32) (H : Heap) (locs : List Loc) (ls : Array Slot), True → ((b5 = 1 ∧ (sg = 114 ∨ sg = 119)) ∨ (b5 = 0 ∧ ¬ (sg = 114 ∨ sg = 119))) → va_P V.1 vwCl (zmW V g w pa be av sl sv pd cd st (nI n) (nI (mNum pd n (a + 1)).2) pl wy) H → va_S (zIn 9 g) s.heap H locs → lv_has ls 6 [(5, .int b5), (4, .int 0), (3, .int ((mNum pd n (a + 1)).1)), (2, .int sg), (0, .ref (g 0)), (1, .int 1)] → W p l e (headSpec wsX8_order (zR 6 0 0)).room s m (List.toArray [.ref (g 0), .int 1]) below meth c H locs 0 0 (MQ below (zQi (fun r H => r = (if (mTok pd n a).1 = true then (mDo w m_ (mTok pd n a)).1 else -3) ∧ (∃ av' : Nat → Int32, ∃ pl' : Int32, ∃ wy' : Int32, va_P V.1 vwCl (zmW V g (if (mTok pd n a).1 = true then (mDo w m_ (mTok pd n a)).2 else w) pa be av' sl sv pd cd st (nI n) (nI (mTok pd n a).2.1) pl' wy') H)) (zIn 9 g)) (List.toArray [.ref (g 0), .int 1]) s 0 0 (zIn 9 g)) (F0 m 103 ls []) := by
          intro b5 H locs ls _ hb5 hP hS hl
          rcases hb5 with ⟨rfl, hsl_⟩ | ⟨rfl, hsl_⟩
          · refine lv_iload hx hb dX8_order_103 (lv_at hl 0 rfl) ?_
            refine lv_if_eq (tgt := 167) hx hb dX8_order_105 (by decide) (fun c_105 => ?_) (fun c_105 => ?_)
            · exact absurd c_105 (by decide +kernel)
            refine lv_aload_n hx hb dX8_order_108 rfl (lv_at hl 4 rfl) ?_
            refine lv_bipush (v := 43) hx hb dX8_order_109 (by decide +kernel) ?_
            refine lv_bipush (v := 43) hx hb dX8_order_111 (by decide +kernel) ?_
            refine zc_se (va_runV (As := [.int 43, .int 43]) (rest := []) ⟨hx, hb, hml, hown, hts⟩ (c_X8_sees l V g w pa be av sl sv pd cd st (nI n) (nI (mNum pd n (a + 1)).2) pl wy ((mNum pd n (a + 1)).2) n 43 43 rfl rfl (by omega) (by omega)) (cwV 2 hts (zgV_ wsM_all uM_142 uM_145 uM_146 uM_147 uM_21) rfl rfl rfl (by decide +kernel) ⟨Nat.le_of_ble_eq_true rfl, Nat.le_of_ble_eq_true rfl⟩) (zPreV (B := fun H => va_P V.1 vwCl (zmW V g w pa be av sl sv pd cd st (nI n) (nI (mNum pd n (a + 1)).2) pl wy) H) hP hE (va_recv hE.1 hP (ci := 8) (q0 := 0) (q := (RX8, TX8, 13)) rfl (zm_c0 V g w pa be av sl sv pd cd st (nI n) (nI (mNum pd n (a + 1)).2) pl wy))) rfl rfl hl.1 rfl (lv_room (Nat.le_of_ble_eq_true rfl)) dX8_order_113 ⟨Nat.le_of_ble_eq_true rfl, Nat.le_of_ble_eq_true rfl⟩) ?_
            refine zbp_eq (P := ((mNum pd n (a + 1)).2) < n ∧ (43 ≤ pd ((mNum pd n (a + 1)).2) ∧ pd ((mNum pd n (a + 1)).2) ≤ 43)) (tgt := 167) hx hb dX8_order_116 (by decide) (fun c_116 => ?_) (fun c_116 => ?_)
            · refine lv_iload_n hx hb dX8_order_167 rfl (lv_at hl 5 rfl) ?_
              refine lv_if_ne (tgt := 173) hx hb dX8_order_168 (by decide) (fun c_168 => ?_) (fun c_168 => ?_)
              rotate_left
              · exact absurd c_168 (by decide +kernel)
              refine lv_iload hx hb dX8_order_173 (lv_at hl 0 rfl) ?_
              refine lv_if_eq (tgt := 201) hx hb dX8_order_175 (by decide) (fun c_175 => ?_) (fun c_175 => ?_)
              · exact absurd c_175 (by decide +kernel)
              refine lv_aload_n hx hb dX8_order_178 rfl (lv_at hl 4 rfl) ?_
              refine lv_iload_n hx hb dX8_order_179 rfl (lv_at hl 3 rfl) ?_
              refine lv_bipush (v := 119) hx hb dX8_order_180 (by decide +kernel) ?_
              refine lv_icmp_ne (tgt := 189) hx hb dX8_order_182 (by decide) (fun c_182 => ?_) (fun c_182 => ?_)
              · refine lv_iconst (v := 0) hx hb dX8_order_189 (by decide +kernel) ?_
                refine lv_iload_n hx hb dX8_order_190 rfl (lv_at hl 2 rfl) ?_
                refine lv_iconst (v := 1) hx hb dX8_order_191 (by decide +kernel) ?_
                refine lv_iload hx hb dX8_order_192 (lv_at hl 1 rfl) ?_
                refine lv_iadd hx hb dX8_order_194 ?_
                refine zt_i (z_add (a := 1) (b := 0) (by first | rfl | omega)) ?_
                refine zc_i (va_runV (As := [.int 0, .int ((mNum pd n (a + 1)).1), .int 1]) (rest := []) ⟨hx, hb, hml, hown, hts⟩ (c_X8_comes l V g w pa be av sl sv pd cd st (nI n) (nI (mNum pd n (a + 1)).2) pl wy  m_ 0 ((mNum pd n (a + 1)).1) 1 hJ hn (by omega)) (cwV 3 hts (zgV_ wsM_all uM_85 uM_111 uM_112 uM_113 uM_21) rfl rfl rfl (by decide +kernel) ⟨Nat.le_of_ble_eq_true rfl, Nat.le_of_ble_eq_true rfl⟩) (zPreV (B := fun H => va_P V.1 vwCl (zmW V g w pa be av sl sv pd cd st (nI n) (nI (mNum pd n (a + 1)).2) pl wy) H) hP hE (va_recv hE.1 hP (ci := 8) (q0 := 0) (q := (RX8, TX8, 13)) rfl (zm_c0 V g w pa be av sl sv pd cd st (nI n) (nI (mNum pd n (a + 1)).2) pl wy))) rfl rfl hl.1 rfl (lv_room (Nat.le_of_ble_eq_true rfl)) dX8_order_195 ⟨Nat.le_of_ble_eq_true rfl, Nat.le_of_ble_eq_true rfl⟩) hS (fun _ h => h) (fun _ h => h) (fun r_ H locs hQ_ _ _ hS => ?_)
                obtain ⟨hr_, hP⟩ := hQ_
                subst hr_
                refine lv_goto (tgt := 220) hx hb dX8_order_198 (by decide) ?_
                have htk_ : mTok pd n a = (true, (mNum pd n (a + 1)).2, mSg pd n a, (mNum pd n (a + 1)).1, 0) := by rw [mTok, if_pos hsg4, if_pos c_70, if_neg (fun h => c_116 h.2)]
                have hdo_ : mDo w m_ (true, (mNum pd n (a + 1)).2, mSg pd n a, (mNum pd n (a + 1)).1, 0) = mComes w m_ 0 ((mNum pd n (a + 1)).1) 1 := by unfold mDo; dsimp only; rw [← hsg, if_pos hsl_, if_neg c_182]; rfl
                exact zr_i hx hb hr hlocks hS (⟨by rw [htk_]; exact (congrArg Prod.fst hdo_).symm, _, _, _, by rw [htk_, if_pos rfl, hdo_]; exact hP⟩) dX8_order_220
              · refine lv_iconst (v := 1) hx hb dX8_order_185 (by decide +kernel) ?_
                refine lv_goto (tgt := 190) hx hb dX8_order_186 (by decide) ?_
                refine lv_iload_n hx hb dX8_order_190 rfl (lv_at hl 2 rfl) ?_
                refine lv_iconst (v := 1) hx hb dX8_order_191 (by decide +kernel) ?_
                refine lv_iload hx hb dX8_order_192 (lv_at hl 1 rfl) ?_
                refine lv_iadd hx hb dX8_order_194 ?_
                refine zt_i (z_add (a := 1) (b := 0) (by first | rfl | omega)) ?_
                refine zc_i (va_runV (As := [.int 1, .int ((mNum pd n (a + 1)).1), .int 1]) (rest := []) ⟨hx, hb, hml, hown, hts⟩ (c_X8_comes l V g w pa be av sl sv pd cd st (nI n) (nI (mNum pd n (a + 1)).2) pl wy  m_ 1 ((mNum pd n (a + 1)).1) 1 hJ hn (by omega)) (cwV 3 hts (zgV_ wsM_all uM_85 uM_111 uM_112 uM_113 uM_21) rfl rfl rfl (by decide +kernel) ⟨Nat.le_of_ble_eq_true rfl, Nat.le_of_ble_eq_true rfl⟩) (zPreV (B := fun H => va_P V.1 vwCl (zmW V g w pa be av sl sv pd cd st (nI n) (nI (mNum pd n (a + 1)).2) pl wy) H) hP hE (va_recv hE.1 hP (ci := 8) (q0 := 0) (q := (RX8, TX8, 13)) rfl (zm_c0 V g w pa be av sl sv pd cd st (nI n) (nI (mNum pd n (a + 1)).2) pl wy))) rfl rfl hl.1 rfl (lv_room (Nat.le_of_ble_eq_true rfl)) dX8_order_195 ⟨Nat.le_of_ble_eq_true rfl, Nat.le_of_ble_eq_true rfl⟩) hS (fun _ h => h) (fun _ h => h) (fun r_ H locs hQ_ _ _ hS => ?_)
                obtain ⟨hr_, hP⟩ := hQ_
                subst hr_
                refine lv_goto (tgt := 220) hx hb dX8_order_198 (by decide) ?_
                have htk_ : mTok pd n a = (true, (mNum pd n (a + 1)).2, mSg pd n a, (mNum pd n (a + 1)).1, 0) := by rw [mTok, if_pos hsg4, if_pos c_70, if_neg (fun h => c_116 h.2)]
                have hdo_ : mDo w m_ (true, (mNum pd n (a + 1)).2, mSg pd n a, (mNum pd n (a + 1)).1, 0) = mComes w m_ 1 ((mNum pd n (a + 1)).1) 1 := by unfold mDo; dsimp only; rw [← hsg, if_pos hsl_, if_pos c_182]; rfl
                exact zr_i hx hb hr hlocks hS (⟨by rw [htk_]; exact (congrArg Prod.fst hdo_).symm, _, _, _, by rw [htk_, if_pos rfl, hdo_]; exact hP⟩) dX8_order_220
            · refine lv_aload_n hx hb dX8_order_119 rfl (lv_at hl 4 rfl) ?_
              refine lv_dup hx hb dX8_order_120 rfl ?_
              refine zm_get 9 (.int (nI ((mNum pd n (a + 1)).2))) hx hb hts (fun x h => List.mem_cons_of_mem _ (hU_X8 x h)) hown hE hP (by decide) rfl (hts _ (List.mem_cons_of_mem _ uM_143)) (fun _ h9 => h9) dX8_order_121 ?_
              refine lv_iconst (v := 1) hx hb dX8_order_124 (by decide +kernel) ?_
              refine lv_iadd hx hb dX8_order_125 ?_
              refine zt_i (z_add (a := (mNum pd n (a + 1)).2) (b := 1) (by first | rfl | omega)) ?_
              refine zm_put (st' := st) (le' := (nI n)) (ap' := nI (((mNum pd n (a + 1)).2) + 1)) (pl' := pl) (wy' := wy) 9 (nI (((mNum pd n (a + 1)).2) + 1)) hx hb hts (fun x h => List.mem_cons_of_mem _ (hU_X8 x h)) hown hE hP hJ hS (by decide) rfl rfl (by decide +kernel) (hts _ (List.mem_cons_of_mem _ uM_143)) (fun _ h9 => h9) dX8_order_126 (fun H locs hP hS => ?_)
              refine lv_aload_n hx hb dX8_order_129 rfl (lv_at hl 4 rfl) ?_
              refine lv_bipush (v := 48) hx hb dX8_order_130 (by decide +kernel) ?_
              refine lv_bipush (v := 57) hx hb dX8_order_132 (by decide +kernel) ?_
              refine zc_se (va_runV (As := [.int 48, .int 57]) (rest := []) ⟨hx, hb, hml, hown, hts⟩ (c_X8_sees l V g w pa be av sl sv pd cd st (nI n) (nI (((mNum pd n (a + 1)).2) + 1)) pl wy (((mNum pd n (a + 1)).2) + 1) n 48 57 rfl rfl (by omega) (by omega)) (cwV 2 hts (zgV_ wsM_all uM_142 uM_145 uM_146 uM_147 uM_21) rfl rfl rfl (by decide +kernel) ⟨Nat.le_of_ble_eq_true rfl, Nat.le_of_ble_eq_true rfl⟩) (zPreV (B := fun H => va_P V.1 vwCl (zmW V g w pa be av sl sv pd cd st (nI n) (nI (((mNum pd n (a + 1)).2) + 1)) pl wy) H) hP hE (va_recv hE.1 hP (ci := 8) (q0 := 0) (q := (RX8, TX8, 13)) rfl (zm_c0 V g w pa be av sl sv pd cd st (nI n) (nI (((mNum pd n (a + 1)).2) + 1)) pl wy))) rfl rfl hl.1 rfl (lv_room (Nat.le_of_ble_eq_true rfl)) dX8_order_134 ⟨Nat.le_of_ble_eq_true rfl, Nat.le_of_ble_eq_true rfl⟩) ?_
              refine zbp_ne (P := (((mNum pd n (a + 1)).2) + 1) < n ∧ (48 ≤ pd (((mNum pd n (a + 1)).2) + 1) ∧ pd (((mNum pd n (a + 1)).2) + 1) ≤ 57)) (tgt := 143) hx hb dX8_order_137 (by decide) (fun c_137 => ?_) (fun c_137 => ?_)
              · refine lv_aload_n hx hb dX8_order_143 rfl (lv_at hl 4 rfl) ?_
                refine zm_get 7 (.ref (g 7)) hx hb hts (fun x h => List.mem_cons_of_mem _ (hU_X8 x h)) hown hE hP (by decide) rfl (hts _ (List.mem_cons_of_mem _ uM_12)) (fun _ h9 => h9) dX8_order_144 ?_
                refine lv_aload_n hx hb dX8_order_147 rfl (lv_at hl 4 rfl) ?_
                refine zm_get 9 (.int (nI (((mNum pd n (a + 1)).2) + 1))) hx hb hts (fun x h => List.mem_cons_of_mem _ (hU_X8 x h)) hown hE hP (by decide) rfl (hts _ (List.mem_cons_of_mem _ uM_143)) (fun _ h9 => h9) dX8_order_148 ?_
                refine z_iald (k := ((mNum pd n (a + 1)).2) + 1) hx hb hE hP 7 (zm_c7 V g w pa be av sl sv pd cd st (nI n) (nI (((mNum pd n (a + 1)).2) + 1)) pl wy) (by omega) (by decide) dX8_order_151 ?_
                refine lv_bipush (v := 48) hx hb dX8_order_152 (by decide +kernel) ?_
                refine lv_isub hx hb dX8_order_154 ?_
                refine lv_istore (lv' := [(4, .int ((pd (((mNum pd n (a + 1)).2) + 1)) - 48)), (5, .int 1), (3, .int ((mNum pd n (a + 1)).1)), (2, .int sg), (0, .ref (g 0)), (1, .int 1)]) hx hb dX8_order_155 hl (by decide) rfl (fun ls hl => ?_)
                refine lv_aload_n hx hb dX8_order_157 rfl (lv_at hl 4 rfl) ?_
                refine lv_dup hx hb dX8_order_158 rfl ?_
                refine zm_get 9 (.int (nI (((mNum pd n (a + 1)).2) + 1))) hx hb hts (fun x h => List.mem_cons_of_mem _ (hU_X8 x h)) hown hE hP (by decide) rfl (hts _ (List.mem_cons_of_mem _ uM_143)) (fun _ h9 => h9) dX8_order_159 ?_
                refine lv_iconst (v := 1) hx hb dX8_order_162 (by decide +kernel) ?_
                refine lv_iadd hx hb dX8_order_163 ?_
                refine zt_i (z_add (a := ((mNum pd n (a + 1)).2) + 1) (b := 1) (by first | rfl | omega)) ?_
                refine zm_put (st' := st) (le' := (nI n)) (ap' := nI (((mNum pd n (a + 1)).2) + 2)) (pl' := pl) (wy' := wy) 9 (nI (((mNum pd n (a + 1)).2) + 2)) hx hb hts (fun x h => List.mem_cons_of_mem _ (hU_X8 x h)) hown hE hP hJ hS (by decide) rfl rfl (by decide +kernel) (hts _ (List.mem_cons_of_mem _ uM_143)) (fun _ h9 => h9) dX8_order_164 (fun H locs hP hS => ?_)
                refine lv_iload_n hx hb dX8_order_167 rfl (lv_at hl 5 rfl) ?_
                refine lv_if_ne (tgt := 173) hx hb dX8_order_168 (by decide) (fun c_168 => ?_) (fun c_168 => ?_)
                rotate_left
                · exact absurd c_168 (by decide +kernel)
                refine lv_iload hx hb dX8_order_173 (lv_at hl 1 rfl) ?_
                refine lv_if_eq (tgt := 201) hx hb dX8_order_175 (by decide) (fun c_175 => ?_) (fun c_175 => ?_)
                · exact absurd c_175 (by decide +kernel)
                refine lv_aload_n hx hb dX8_order_178 rfl (lv_at hl 4 rfl) ?_
                refine lv_iload_n hx hb dX8_order_179 rfl (lv_at hl 3 rfl) ?_
                refine lv_bipush (v := 119) hx hb dX8_order_180 (by decide +kernel) ?_
                refine lv_icmp_ne (tgt := 189) hx hb dX8_order_182 (by decide) (fun c_182 => ?_) (fun c_182 => ?_)
                · refine lv_iconst (v := 0) hx hb dX8_order_189 (by decide +kernel) ?_
                  refine lv_iload_n hx hb dX8_order_190 rfl (lv_at hl 2 rfl) ?_
                  refine lv_iconst (v := 1) hx hb dX8_order_191 (by decide +kernel) ?_
                  refine lv_iload hx hb dX8_order_192 (lv_at hl 0 rfl) ?_
                  refine lv_iadd hx hb dX8_order_194 ?_
                  refine zc_i (va_runV (As := [.int 0, .int ((mNum pd n (a + 1)).1), .int (1 + ((pd (((mNum pd n (a + 1)).2) + 1)) - 48))]) (rest := []) ⟨hx, hb, hml, hown, hts⟩ (c_X8_comes l V g w pa be av sl sv pd cd st (nI n) (nI (((mNum pd n (a + 1)).2) + 2)) pl wy  m_ 0 ((mNum pd n (a + 1)).1) (1 + ((pd (((mNum pd n (a + 1)).2) + 1)) - 48)) hJ hn (by omega)) (cwV 3 hts (zgV_ wsM_all uM_85 uM_111 uM_112 uM_113 uM_21) rfl rfl rfl (by decide +kernel) ⟨Nat.le_of_ble_eq_true rfl, Nat.le_of_ble_eq_true rfl⟩) (zPreV (B := fun H => va_P V.1 vwCl (zmW V g w pa be av sl sv pd cd st (nI n) (nI (((mNum pd n (a + 1)).2) + 2)) pl wy) H) hP hE (va_recv hE.1 hP (ci := 8) (q0 := 0) (q := (RX8, TX8, 13)) rfl (zm_c0 V g w pa be av sl sv pd cd st (nI n) (nI (((mNum pd n (a + 1)).2) + 2)) pl wy))) rfl rfl hl.1 rfl (lv_room (Nat.le_of_ble_eq_true rfl)) dX8_order_195 ⟨Nat.le_of_ble_eq_true rfl, Nat.le_of_ble_eq_true rfl⟩) hS (fun _ h => h) (fun _ h => h) (fun r_ H locs hQ_ _ _ hS => ?_)
                  obtain ⟨hr_, hP⟩ := hQ_
                  subst hr_
                  refine lv_goto (tgt := 220) hx hb dX8_order_198 (by decide) ?_
                  have htk_ : mTok pd n a = (true, (mNum pd n (a + 1)).2 + 2, mSg pd n a, (mNum pd n (a + 1)).1, pd ((mNum pd n (a + 1)).2 + 1) - 48) := by rw [mTok, if_pos hsg4, if_pos c_70, if_pos ⟨by rw [← hsg]; exact hsl_, c_116⟩, if_pos c_137]
                  have hdo_ : mDo w m_ (true, (mNum pd n (a + 1)).2 + 2, mSg pd n a, (mNum pd n (a + 1)).1, pd ((mNum pd n (a + 1)).2 + 1) - 48) = mComes w m_ 0 ((mNum pd n (a + 1)).1) (1 + ((pd (((mNum pd n (a + 1)).2) + 1)) - 48)) := by unfold mDo; dsimp only; rw [← hsg, if_pos hsl_, if_neg c_182]
                  exact zr_i hx hb hr hlocks hS (⟨by rw [htk_]; exact (congrArg Prod.fst hdo_).symm, _, _, _, by rw [htk_, if_pos rfl, hdo_]; exact hP⟩) dX8_order_220
                · refine lv_iconst (v := 1) hx hb dX8_order_185 (by decide +kernel) ?_
                  refine lv_goto (tgt := 190) hx hb dX8_order_186 (by decide) ?_
                  refine lv_iload_n hx hb dX8_order_190 rfl (lv_at hl 2 rfl) ?_
                  refine lv_iconst (v := 1) hx hb dX8_order_191 (by decide +kernel) ?_
                  refine lv_iload hx hb dX8_order_192 (lv_at hl 0 rfl) ?_
                  refine lv_iadd hx hb dX8_order_194 ?_
                  refine zc_i (va_runV (As := [.int 1, .int ((mNum pd n (a + 1)).1), .int (1 + ((pd (((mNum pd n (a + 1)).2) + 1)) - 48))]) (rest := []) ⟨hx, hb, hml, hown, hts⟩ (c_X8_comes l V g w pa be av sl sv pd cd st (nI n) (nI (((mNum pd n (a + 1)).2) + 2)) pl wy  m_ 1 ((mNum pd n (a + 1)).1) (1 + ((pd (((mNum pd n (a + 1)).2) + 1)) - 48)) hJ hn (by omega)) (cwV 3 hts (zgV_ wsM_all uM_85 uM_111 uM_112 uM_113 uM_21) rfl rfl rfl (by decide +kernel) ⟨Nat.le_of_ble_eq_true rfl, Nat.le_of_ble_eq_true rfl⟩) (zPreV (B := fun H => va_P V.1 vwCl (zmW V g w pa be av sl sv pd cd st (nI n) (nI (((mNum pd n (a + 1)).2) + 2)) pl wy) H) hP hE (va_recv hE.1 hP (ci := 8) (q0 := 0) (q := (RX8, TX8, 13)) rfl (zm_c0 V g w pa be av sl sv pd cd st (nI n) (nI (((mNum pd n (a + 1)).2) + 2)) pl wy))) rfl rfl hl.1 rfl (lv_room (Nat.le_of_ble_eq_true rfl)) dX8_order_195 ⟨Nat.le_of_ble_eq_true rfl, Nat.le_of_ble_eq_true rfl⟩) hS (fun _ h => h) (fun _ h => h) (fun r_ H locs hQ_ _ _ hS => ?_)
                  obtain ⟨hr_, hP⟩ := hQ_
                  subst hr_
                  refine lv_goto (tgt := 220) hx hb dX8_order_198 (by decide) ?_
                  have htk_ : mTok pd n a = (true, (mNum pd n (a + 1)).2 + 2, mSg pd n a, (mNum pd n (a + 1)).1, pd ((mNum pd n (a + 1)).2 + 1) - 48) := by rw [mTok, if_pos hsg4, if_pos c_70, if_pos ⟨by rw [← hsg]; exact hsl_, c_116⟩, if_pos c_137]
                  have hdo_ : mDo w m_ (true, (mNum pd n (a + 1)).2 + 2, mSg pd n a, (mNum pd n (a + 1)).1, pd ((mNum pd n (a + 1)).2 + 1) - 48) = mComes w m_ 1 ((mNum pd n (a + 1)).1) (1 + ((pd (((mNum pd n (a + 1)).2) + 1)) - 48)) := by unfold mDo; dsimp only; rw [← hsg, if_pos hsl_, if_pos c_182]
                  exact zr_i hx hb hr hlocks hS (⟨by rw [htk_]; exact (congrArg Prod.fst hdo_).symm, _, _, _, by rw [htk_, if_pos rfl, hdo_]; exact hP⟩) dX8_order_220
              · refine lv_bipush (v := (-3)) hx hb dX8_order_140 (by decide +kernel) ?_
                have htk_ : mTok pd n a = (false, (mNum pd n (a + 1)).2 + 1, mSg pd n a, 0, 0) := by rw [mTok, if_pos hsg4, if_pos c_70, if_pos ⟨by rw [← hsg]; exact hsl_, c_116⟩, if_neg c_137]
                exact zr_i hx hb hr hlocks hS (⟨by rw [htk_]; rfl, _, _, _, by rw [htk_]; exact hP⟩) dX8_order_142
          · refine lv_iload hx hb dX8_order_103 (lv_at hl 0 rfl) ?_
            refine lv_if_eq (tgt := 167) hx hb dX8_order_105 (by decide) (fun c_105 => ?_) (fun c_105 => ?_)
            rotate_left
            · exact absurd c_105 (by decide +kernel)
            refine lv_iload_n hx hb dX8_order_167 rfl (lv_at hl 5 rfl) ?_
            refine lv_if_ne (tgt := 173) hx hb dX8_order_168 (by decide) (fun c_168 => ?_) (fun c_168 => ?_)
            rotate_left
            · exact absurd c_168 (by decide +kernel)
            refine lv_iload hx hb dX8_order_173 (lv_at hl 0 rfl) ?_
            refine lv_if_eq (tgt := 201) hx hb dX8_order_175 (by decide) (fun c_175 => ?_) (fun c_175 => ?_)
            rotate_left
            · exact absurd c_175 (by decide +kernel)
            refine lv_iload_n hx hb dX8_order_201 rfl (lv_at hl 3 rfl) ?_
            refine lv_bipush (v := 115) hx hb dX8_order_202 (by decide +kernel) ?_
            refine lv_icmp_ne (tgt := 215) hx hb dX8_order_204 (by decide) (fun c_204 => ?_) (fun c_204 => ?_)
            · refine lv_aload_n hx hb dX8_order_215 rfl (lv_at hl 4 rfl) ?_
              refine lv_iload_n hx hb dX8_order_216 rfl (lv_at hl 2 rfl) ?_
              refine zc_i (va_runV (As := [.int ((mNum pd n (a + 1)).1)]) (rest := []) ⟨hx, hb, hml, hown, hts⟩ (c_X8_waits l V g w pa be av sl sv pd cd st (nI n) (nI (mNum pd n (a + 1)).2) pl wy  ((mNum pd n (a + 1)).1) hJ) (cwV 1 hts (zgV_ wsM_all uM_102 uM_123 uM_124 uM_125 uM_21) rfl rfl rfl (by decide +kernel) ⟨Nat.le_of_ble_eq_true rfl, Nat.le_of_ble_eq_true rfl⟩) (zPreV (B := fun H => va_P V.1 vwCl (zmW V g w pa be av sl sv pd cd st (nI n) (nI (mNum pd n (a + 1)).2) pl wy) H) hP hE (va_recv hE.1 hP (ci := 8) (q0 := 0) (q := (RX8, TX8, 13)) rfl (zm_c0 V g w pa be av sl sv pd cd st (nI n) (nI (mNum pd n (a + 1)).2) pl wy))) rfl rfl hl.1 rfl (lv_room (Nat.le_of_ble_eq_true rfl)) dX8_order_217 ⟨Nat.le_of_ble_eq_true rfl, Nat.le_of_ble_eq_true rfl⟩) hS (fun _ h => h) (fun _ h => h) (fun r_ H locs hQ_ _ _ hS => ?_)
              obtain ⟨hr_, hP⟩ := hQ_
              subst hr_
              have htk_ : mTok pd n a = (true, (mNum pd n (a + 1)).2, mSg pd n a, (mNum pd n (a + 1)).1, 0) := by rw [mTok, if_pos hsg4, if_pos c_70, if_neg (fun h => hsl_ (by rw [hsg]; exact h.1))]
              have hdo_ : mDo w m_ (true, (mNum pd n (a + 1)).2, mSg pd n a, (mNum pd n (a + 1)).1, 0) = mWaits w ((mNum pd n (a + 1)).1) := by unfold mDo; dsimp only; rw [← hsg, if_neg hsl_, if_neg c_204]
              exact zr_i hx hb hr hlocks hS (⟨by rw [htk_]; exact (congrArg Prod.fst hdo_).symm, _, _, _, by rw [htk_, if_pos rfl, hdo_]; exact hP⟩) dX8_order_220
            · refine lv_aload_n hx hb dX8_order_207 rfl (lv_at hl 4 rfl) ?_
              refine lv_iload_n hx hb dX8_order_208 rfl (lv_at hl 2 rfl) ?_
              refine zc_i (va_runV (As := [.int ((mNum pd n (a + 1)).1)]) (rest := []) ⟨hx, hb, hml, hown, hts⟩ (c_X8_serves l V g w pa be av sl sv pd cd st (nI n) (nI (mNum pd n (a + 1)).2) pl wy  m_ ((mNum pd n (a + 1)).1) hJ hok0) (cwV 1 hts (zgV_ wsM_all uM_91 uM_119 uM_120 uM_121 uM_21) rfl rfl rfl (by decide +kernel) ⟨Nat.le_of_ble_eq_true rfl, Nat.le_of_ble_eq_true rfl⟩) (zPreV (B := fun H => va_P V.1 vwCl (zmW V g w pa be av sl sv pd cd st (nI n) (nI (mNum pd n (a + 1)).2) pl wy) H) hP hE (va_recv hE.1 hP (ci := 8) (q0 := 0) (q := (RX8, TX8, 13)) rfl (zm_c0 V g w pa be av sl sv pd cd st (nI n) (nI (mNum pd n (a + 1)).2) pl wy))) rfl rfl hl.1 rfl (lv_room (Nat.le_of_ble_eq_true rfl)) dX8_order_209 ⟨Nat.le_of_ble_eq_true rfl, Nat.le_of_ble_eq_true rfl⟩) hS (fun _ h => h) (fun _ h => h) (fun r_ H locs hQ_ _ _ hS => ?_)
              obtain ⟨hr_, av'_1, pl'_2, wy'_3, hP⟩ := hQ_
              subst hr_
              refine lv_goto (tgt := 220) hx hb dX8_order_212 (by decide) ?_
              have htk_ : mTok pd n a = (true, (mNum pd n (a + 1)).2, mSg pd n a, (mNum pd n (a + 1)).1, 0) := by rw [mTok, if_pos hsg4, if_pos c_70, if_neg (fun h => hsl_ (by rw [hsg]; exact h.1))]
              have hdo_ : mDo w m_ (true, (mNum pd n (a + 1)).2, mSg pd n a, (mNum pd n (a + 1)).1, 0) = mServes w m_ ((mNum pd n (a + 1)).1) := by unfold mDo; dsimp only; rw [← hsg, if_neg hsl_, if_pos c_204]
              exact zr_i hx hb hr hlocks hS (⟨by rw [htk_]; exact (congrArg Prod.fst hdo_).symm, _, _, _, by rw [htk_, if_pos rfl, hdo_]; exact hP⟩) dX8_order_220
        refine lv_iload_n hx hb dX8_order_84 rfl (lv_at hl 2 rfl) ?_
        refine lv_bipush (v := 114) hx hb dX8_order_85 (by decide +kernel) ?_
        refine lv_icmp_eq (tgt := 96) hx hb dX8_order_87 (by decide) (fun c_87 => ?_) (fun c_87 => ?_)
        · refine lv_iconst (v := 1) hx hb dX8_order_96 (by decide +kernel) ?_
          refine lv_goto (tgt := 101) hx hb dX8_order_97 (by decide) ?_
          refine lv_istore (lv' := [(5, .int 1), (4, .int 0), (3, .int ((mNum pd n (a + 1)).1)), (2, .int sg), (0, .ref (g 0)), (1, .int 1)]) hx hb dX8_order_101 hl (by decide) rfl (fun ls hl => ?_)
          exact J_103 _ H locs ls trivial (by first | exact Or.inl ⟨rfl, Or.inl c_87⟩ | exact Or.inl ⟨rfl, Or.inr c_93⟩ | exact Or.inr ⟨rfl, fun h => h.elim c_87 c_93⟩) hP hS (lv_sub hl [0, 1, 2, 3, 4, 5] rfl)
        · refine lv_iload_n hx hb dX8_order_90 rfl (lv_at hl 2 rfl) ?_
          refine lv_bipush (v := 119) hx hb dX8_order_91 (by decide +kernel) ?_
          refine lv_icmp_ne (tgt := 100) hx hb dX8_order_93 (by decide) (fun c_93 => ?_) (fun c_93 => ?_)
          · refine lv_iconst (v := 0) hx hb dX8_order_100 (by decide +kernel) ?_
            refine lv_istore (lv' := [(5, .int 0), (4, .int 0), (3, .int ((mNum pd n (a + 1)).1)), (2, .int sg), (0, .ref (g 0)), (1, .int 1)]) hx hb dX8_order_101 hl (by decide) rfl (fun ls hl => ?_)
            exact J_103 _ H locs ls trivial (by first | exact Or.inl ⟨rfl, Or.inl c_87⟩ | exact Or.inl ⟨rfl, Or.inr c_93⟩ | exact Or.inr ⟨rfl, fun h => h.elim c_87 c_93⟩) hP hS (lv_sub hl [0, 1, 2, 3, 4, 5] rfl)
          · refine lv_iconst (v := 1) hx hb dX8_order_96 (by decide +kernel) ?_
            refine lv_goto (tgt := 101) hx hb dX8_order_97 (by decide) ?_
            refine lv_istore (lv' := [(5, .int 1), (4, .int 0), (3, .int ((mNum pd n (a + 1)).1)), (2, .int sg), (0, .ref (g 0)), (1, .int 1)]) hx hb dX8_order_101 hl (by decide) rfl (fun ls hl => ?_)
            exact J_103 _ H locs ls trivial (by first | exact Or.inl ⟨rfl, Or.inl c_87⟩ | exact Or.inl ⟨rfl, Or.inr c_93⟩ | exact Or.inr ⟨rfl, fun h => h.elim c_87 c_93⟩) hP hS (lv_sub hl [0, 1, 2, 3, 4, 5] rfl)
      · refine lv_bipush (v := (-3)) hx hb dX8_order_73 (by decide +kernel) ?_
        have htk_ : mTok pd n a = (false, a + 1, mSg pd n a, 0, 0) := by rw [mTok, if_pos hsg4, if_neg c_70]
        exact zr_i hx hb hr hlocks hS (⟨by rw [htk_]; rfl, _, _, _, by rw [htk_]; exact hP⟩) dX8_order_75
    refine lv_iload_n hx hb dX8_order_25 rfl (lv_at hl 0 rfl) ?_
    refine lv_bipush (v := 114) hx hb dX8_order_26 (by decide +kernel) ?_
    refine lv_icmp_eq (tgt := 52) hx hb dX8_order_28 (by decide) (fun c_28 => ?_) (fun c_28 => ?_)
    · exact J_52 ls trivial (by rw [← hsg]; first | exact Or.inl c_28 | exact Or.inr (Or.inl c_34) | exact Or.inr (Or.inr (Or.inl c_40)) | exact Or.inr (Or.inr (Or.inr c_46))) (lv_sub hl [0, 1, 2] rfl)
    · refine lv_iload_n hx hb dX8_order_31 rfl (lv_at hl 0 rfl) ?_
      refine lv_bipush (v := 119) hx hb dX8_order_32 (by decide +kernel) ?_
      refine lv_icmp_eq (tgt := 52) hx hb dX8_order_34 (by decide) (fun c_34 => ?_) (fun c_34 => ?_)
      · exact J_52 ls trivial (by rw [← hsg]; first | exact Or.inl c_28 | exact Or.inr (Or.inl c_34) | exact Or.inr (Or.inr (Or.inl c_40)) | exact Or.inr (Or.inr (Or.inr c_46))) (lv_sub hl [0, 1, 2] rfl)
      · refine lv_iload_n hx hb dX8_order_37 rfl (lv_at hl 0 rfl) ?_
        refine lv_bipush (v := 115) hx hb dX8_order_38 (by decide +kernel) ?_
        refine lv_icmp_eq (tgt := 52) hx hb dX8_order_40 (by decide) (fun c_40 => ?_) (fun c_40 => ?_)
        · exact J_52 ls trivial (by rw [← hsg]; first | exact Or.inl c_28 | exact Or.inr (Or.inl c_34) | exact Or.inr (Or.inr (Or.inl c_40)) | exact Or.inr (Or.inr (Or.inr c_46))) (lv_sub hl [0, 1, 2] rfl)
        · refine lv_iload_n hx hb dX8_order_43 rfl (lv_at hl 0 rfl) ?_
          refine lv_bipush (v := 116) hx hb dX8_order_44 (by decide +kernel) ?_
          refine lv_icmp_eq (tgt := 52) hx hb dX8_order_46 (by decide) (fun c_46 => ?_) (fun c_46 => ?_)
          · exact J_52 ls trivial (by rw [← hsg]; first | exact Or.inl c_28 | exact Or.inr (Or.inl c_34) | exact Or.inr (Or.inr (Or.inl c_40)) | exact Or.inr (Or.inr (Or.inr c_46))) (lv_sub hl [0, 1, 2] rfl)
          · refine lv_bipush (v := (-3)) hx hb dX8_order_49 (by decide +kernel) ?_
            have htk_ : mTok pd n a = (false, a, mSg pd n a, 0, 0) := by rw [mTok, if_neg (fun h => by rw [← hsg] at h; exact h.elim c_28 (fun h => h.elim c_34 (fun h => h.elim c_40 c_46)))]
            exact zr_i hx hb hr hlocks hS (⟨by rw [htk_]; rfl, _, _, _, by rw [htk_]; exact hP⟩) dX8_order_51
  refine lv_aload_n hx hb dX8_order_0 rfl (lv_at hl 0 rfl) ?_
  refine zm_get 9 (.int (nI a)) hx hb hts (fun x h => List.mem_cons_of_mem _ (hU_X8 x h)) hown hE hP (by decide) rfl (hts _ (List.mem_cons_of_mem _ uM_143)) (fun _ h9 => h9) dX8_order_1 ?_
  refine lv_aload_n hx hb dX8_order_4 rfl (lv_at hl 0 rfl) ?_
  refine zm_get 8 (.int (nI n)) hx hb hts (fun x h => List.mem_cons_of_mem _ (hU_X8 x h)) hown hE hP (by decide) rfl (hts _ (List.mem_cons_of_mem _ uM_134)) (fun _ h9 => h9) dX8_order_5 ?_
  refine zb_ge (x := a) (y := n) (tgt := 23) hx hb dX8_order_8 (by decide) (by omega) (by omega) (fun c_8 => ?_) (fun c_8 => ?_)
  · refine lv_iconst (v := 0) hx hb dX8_order_23 (by decide +kernel) ?_
    exact J_24 _ ls trivial (by unfold mSg; first | rw [if_pos (by omega)] | rw [if_neg (by omega)]) (lv_sub hl [0, 1] rfl)
  · refine lv_aload_n hx hb dX8_order_11 rfl (lv_at hl 0 rfl) ?_
    refine zm_get 7 (.ref (g 7)) hx hb hts (fun x h => List.mem_cons_of_mem _ (hU_X8 x h)) hown hE hP (by decide) rfl (hts _ (List.mem_cons_of_mem _ uM_12)) (fun _ h9 => h9) dX8_order_12 ?_
    refine lv_aload_n hx hb dX8_order_15 rfl (lv_at hl 0 rfl) ?_
    refine zm_get 9 (.int (nI a)) hx hb hts (fun x h => List.mem_cons_of_mem _ (hU_X8 x h)) hown hE hP (by decide) rfl (hts _ (List.mem_cons_of_mem _ uM_143)) (fun _ h9 => h9) dX8_order_16 ?_
    refine z_iald (k := a) hx hb hE hP 7 (zm_c7 V g w pa be av sl sv pd cd st (nI n) (nI a) pl wy) (by omega) (by decide) dX8_order_19 ?_
    refine lv_goto (tgt := 24) hx hb dX8_order_20 (by decide) ?_
    exact J_24 _ ls trivial (by unfold mSg; first | rw [if_pos (by omega)] | rw [if_neg (by omega)]) (lv_sub hl [0, 1] rfl)
set_option maxHeartbeats 4000000 in
set_option maxRecDepth 100000 in
theorem c_X8_isWell (l : Launch) (V : zV) (g : Nat → Nat) (w pa be av sl sv pd cd : Nat → Int32) (st le ap pl wy : Int32) (n : Nat) (hJ : zInj 9 g) (hle : le = nI n) (h80 : n ≤ 80) : Met l yX8_isWell wsX8_isWell (zR 7 0 0) (zPc V [.ref (g 0)] (fun H => va_P V.1 vwCl (zmW V g w pa be av sl sv pd cd st le ap pl wy) H)) (zQi (fun r H => r = (if (mWell pd n).1 = true then 1 else 0) ∧ va_P V.1 vwCl (zmW V g w pa be av sl sv pd cd st le (nI (mWell pd n).2) pl wy) H) (zIn 9 g)) 0 0 (zIn 9 g) := by
  refine Met.ofW (cc := cX8_isWell) (maxL := 2) (ret := (some .boolean)) (by decide) rfl ?_
  intro p e s m args below meth c s₁ B hml hv
  obtain ⟨rfl, hP, hE⟩ := hv
  have hx := B.exec
  have hb := B.bytes
  have hr := B.returns
  have hts := atoms_spec (ws := wsX8_isWell) B.pre
  have hown : s.vm.findClass RX8 = some m.cls := findClass_of_methodNamed B.named
  have hlocks := B.notSynchronized
  have hl := lv_entry ([.ref (g 0)]) (n := 2) (Nat.le_of_ble_eq_true rfl)
  rw [lg_entry_eq]
  generalize (lg_sl ([.ref (g 0)]) ++ List.replicate (2 - (lg_sl ([.ref (g 0)])).length) Slot.unset).toArray = ls at hl ⊢
  have hl : lv_has ls 2 [(0, .ref (g 0))] := hl
  have hS : va_S (zIn 9 g) s.heap s.heap [] := va_S.rf
  subst hle
  refine lv_aload_n hx hb dX8_isWell_0 rfl (lv_at hl 0 rfl) ?_
  refine lv_iconst (v := 0) hx hb dX8_isWell_1 (by decide +kernel) ?_
  refine zm_put (st' := st) (le' := (nI n)) (ap' := 0) (pl' := pl) (wy' := wy) 9 0 hx hb hts (fun x h => List.mem_cons_of_mem _ (hU_X8 x h)) hown hE hP hJ hS (by decide) rfl rfl (by decide +kernel) (hts _ (List.mem_cons_of_mem _ uM_143)) (fun _ h9 => h9) dX8_isWell_2 (fun H locs hP hS => ?_)
  refine lv_aload_n hx hb dX8_isWell_5 rfl (lv_at hl 0 rfl) ?_
  refine lv_iconst (v := 0) hx hb dX8_isWell_6 (by decide +kernel) ?_
  refine zc_i (va_runV (As := [.int 0]) (rest := []) ⟨hx, hb, hml, hown, hts⟩ (c_X8_order l V g w pa be av sl sv pd cd st (nI n) 0 pl wy  n 0 hJ rfl rfl (by omega) (by omega)) (cwV 1 hts (zgV_ wsM_all uM_148 uM_153 uM_154 uM_155 uM_21) rfl rfl rfl (by decide +kernel) ⟨Nat.le_of_ble_eq_true rfl, Nat.le_of_ble_eq_true rfl⟩) (zPreV (B := fun H => va_P V.1 vwCl (zmW V g w pa be av sl sv pd cd st (nI n) 0 pl wy) H) hP hE (va_recv hE.1 hP (ci := 8) (q0 := 0) (q := (RX8, TX8, 13)) rfl (zm_c0 V g w pa be av sl sv pd cd st (nI n) 0 pl wy))) rfl rfl hl.1 rfl (lv_room (Nat.le_of_ble_eq_true rfl)) dX8_isWell_7 ⟨Nat.le_of_ble_eq_true rfl, Nat.le_of_ble_eq_true rfl⟩) hS (fun _ h => h) (fun _ h => h) (fun r_ H locs hQ_ _ _ hS => ?_)
  obtain ⟨hr_, hP⟩ := hQ_
  subst hr_
  refine zbz_ne (P := (mTok pd n 0).1 = true) (tgt := 17) hx hb dX8_isWell_10 (by decide) (fun c_10 => ?_) (fun c_10 => ?_)
  · refine lv_iconst (v := 0) hx hb dX8_isWell_17 (by decide +kernel) ?_
    refine lv_istore_n (lv' := [(1, .int 0), (0, .ref (g 0))]) hx hb dX8_isWell_18 rfl hl (by decide) rfl (fun ls hl => ?_)
    have L_19 : ∀ (n_ i : Nat) (b : Bool) (a : Nat) (H : Heap) (locs : List Loc) (ls : Array Slot), i ≤ (n + 1) → (n + 1) + 1 ≤ i + n_ → (mWl pd n (n + 1 - i) (b, a) = mWell pd n) → (b = true → i ≤ a) → (i ≤ a + 1) → (a ≤ n) → va_P V.1 vwCl (zmW V g w pa be av sl sv pd cd st (nI n) (nI a) pl wy) H → va_S (zIn 9 g) s.heap H locs → lv_has ls 2 [(1, .int (if b = true then 1 else 0)), (0, .ref (g 0))] → W p l e (headSpec wsX8_isWell (zR 7 0 0)).room s m (List.toArray [.ref (g 0)]) below meth c H locs 0 0 (MQ below (zQi (fun r H => r = (if (mWell pd n).1 = true then 1 else 0) ∧ va_P V.1 vwCl (zmW V g w pa be av sl sv pd cd st (nI n) (nI (mWell pd n).2) pl wy) H) (zIn 9 g)) (List.toArray [.ref (g 0)]) s 0 0 (zIn 9 g)) (F0 m 19 ls []) := by
      intro n_
      induction n_ with
      | zero => intro i b a H locs ls hi_ hn_; exact absurd hn_ (by omega)
      | succ n_ ih =>
        intro i b a H locs ls hi_ hn_ hwl hia hia2 han hP hS hl
        refine lv_iload_n hx hb dX8_isWell_19 rfl (lv_at hl 0 rfl) ?_
        refine zbp_eq (P := b = true) (tgt := 82) hx hb dX8_isWell_20 (by decide) (fun c_20 => ?_) (fun c_20 => ?_)
        · have hst_ : mWell pd n = (b, a) := by rw [← hwl]; exact mWl_stop pd n (s := (b, a)) (by first | exact fun h => c_20 h.1 | exact fun h => absurd (show a < n from h.2) (by omega)) _
          refine lv_iload_n hx hb dX8_isWell_82 rfl (lv_at hl 0 rfl) ?_
          exact zr_z hx hb hr hlocks hS (by first | exact Or.inl rfl | exact Or.inr rfl | exact z_ite01 | assumption) (⟨by rw [hst_], by rw [hst_]; exact hP⟩) dX8_isWell_83
        · have hia_ := hia c_20
          refine lv_aload_n hx hb dX8_isWell_23 rfl (lv_at hl 1 rfl) ?_
          refine zm_get 9 (.int (nI a)) hx hb hts (fun x h => List.mem_cons_of_mem _ (hU_X8 x h)) hown hE hP (by decide) rfl (hts _ (List.mem_cons_of_mem _ uM_143)) (fun _ h9 => h9) dX8_isWell_24 ?_
          refine lv_aload_n hx hb dX8_isWell_27 rfl (lv_at hl 1 rfl) ?_
          refine zm_get 8 (.int (nI n)) hx hb hts (fun x h => List.mem_cons_of_mem _ (hU_X8 x h)) hown hE hP (by decide) rfl (hts _ (List.mem_cons_of_mem _ uM_134)) (fun _ h9 => h9) dX8_isWell_28 ?_
          refine zb_ge (x := a) (y := n) (tgt := 82) hx hb dX8_isWell_31 (by decide) (by omega) (by omega) (fun c_31 => ?_) (fun c_31 => ?_)
          · have hst_ : mWell pd n = (b, a) := by rw [← hwl]; exact mWl_stop pd n (s := (b, a)) (by first | exact fun h => c_20 h.1 | exact fun h => absurd (show a < n from h.2) (by omega)) _
            refine lv_iload_n hx hb dX8_isWell_82 rfl (lv_at hl 0 rfl) ?_
            exact zr_z hx hb hr hlocks hS (by first | exact Or.inl rfl | exact Or.inr rfl | exact z_ite01 | assumption) (⟨by rw [hst_], by rw [hst_]; exact hP⟩) dX8_isWell_83
          · refine lv_aload_n hx hb dX8_isWell_34 rfl (lv_at hl 1 rfl) ?_
            refine lv_bipush (v := 59) hx hb dX8_isWell_35 (by decide +kernel) ?_
            refine lv_bipush (v := 59) hx hb dX8_isWell_37 (by decide +kernel) ?_
            refine zc_se (va_runV (As := [.int 59, .int 59]) (rest := []) ⟨hx, hb, hml, hown, hts⟩ (c_X8_sees l V g w pa be av sl sv pd cd st (nI n) (nI a) pl wy a n 59 59 rfl rfl (by omega) (by omega)) (cwV 2 hts (zgV_ wsM_all uM_142 uM_145 uM_146 uM_147 uM_21) rfl rfl rfl (by decide +kernel) ⟨Nat.le_of_ble_eq_true rfl, Nat.le_of_ble_eq_true rfl⟩) (zPreV (B := fun H => va_P V.1 vwCl (zmW V g w pa be av sl sv pd cd st (nI n) (nI a) pl wy) H) hP hE (va_recv hE.1 hP (ci := 8) (q0 := 0) (q := (RX8, TX8, 13)) rfl (zm_c0 V g w pa be av sl sv pd cd st (nI n) (nI a) pl wy))) rfl rfl hl.1 rfl (lv_room (Nat.le_of_ble_eq_true rfl)) dX8_isWell_39 ⟨Nat.le_of_ble_eq_true rfl, Nat.le_of_ble_eq_true rfl⟩) ?_
            refine lv_istore_n (lv' := [(1, .int (if a < n ∧ (59 ≤ pd a ∧ pd a ≤ 59) then 1 else 0)), (0, .ref (g 0))]) hx hb dX8_isWell_42 rfl hl (by decide) rfl (fun ls hl => ?_)
            refine lv_aload_n hx hb dX8_isWell_43 rfl (lv_at hl 1 rfl) ?_
            refine lv_dup hx hb dX8_isWell_44 rfl ?_
            refine zm_get 9 (.int (nI a)) hx hb hts (fun x h => List.mem_cons_of_mem _ (hU_X8 x h)) hown hE hP (by decide) rfl (hts _ (List.mem_cons_of_mem _ uM_143)) (fun _ h9 => h9) dX8_isWell_45 ?_
            refine lv_iload_n hx hb dX8_isWell_48 rfl (lv_at hl 0 rfl) ?_
            refine zbp_eq (P := a < n ∧ (59 ≤ pd a ∧ pd a ≤ 59)) (tgt := 56) hx hb dX8_isWell_49 (by decide) (fun c_49 => ?_) (fun c_49 => ?_)
            · refine lv_iconst (v := 0) hx hb dX8_isWell_56 (by decide +kernel) ?_
              refine lv_iadd hx hb dX8_isWell_57 ?_
              refine zt_i (z_add (a := a) (b := 0) (by first | rfl | omega)) ?_
              refine zm_put (st' := st) (le' := (nI n)) (ap' := nI a) (pl' := pl) (wy' := wy) 9 (nI a) hx hb hts (fun x h => List.mem_cons_of_mem _ (hU_X8 x h)) hown hE hP hJ hS (by decide) rfl rfl (by decide +kernel) (hts _ (List.mem_cons_of_mem _ uM_143)) (fun _ h9 => h9) dX8_isWell_58 (fun H locs hP hS => ?_)
              refine lv_iload_n hx hb dX8_isWell_61 rfl (lv_at hl 0 rfl) ?_
              refine zbp_eq (P := a < n ∧ (59 ≤ pd a ∧ pd a ≤ 59)) (tgt := 77) hx hb dX8_isWell_62 (by decide) (fun c_62 => ?_) (fun c_62 => ?_)
              · refine lv_iconst (v := 0) hx hb dX8_isWell_77 (by decide +kernel) ?_
                refine lv_istore_n (lv' := [(1, .int 0), (0, .ref (g 0))]) hx hb dX8_isWell_78 rfl hl (by decide) rfl (fun ls hl => ?_)
                refine lv_goto (tgt := 19) hx hb dX8_isWell_79 (by decide) ?_
                have hw1_ : mWl pd n (n + 1 - (i + 1)) (false, a) = mWell pd n := by
                  rw [mWl_stop pd n (s := (false, a)) (fun h => by cases h.1), ← hwl, show n + 1 - i = (n + 1 - (i + 1)) + 1 by omega, c_20]
                  exact ((if_pos ⟨rfl, c_31⟩).trans (if_neg (fun h => c_49 ⟨c_31, h⟩))).symm
                exact ih (i + 1) false a H locs ls (by omega) (by omega) hw1_ (fun h => by cases h) (by omega) han hP hS (lv_sub hl [0, 1] rfl)
              · exact absurd c_62 c_49
            · refine lv_iconst (v := 1) hx hb dX8_isWell_52 (by decide +kernel) ?_
              refine lv_goto (tgt := 57) hx hb dX8_isWell_53 (by decide) ?_
              refine lv_iadd hx hb dX8_isWell_57 ?_
              refine zt_i (z_add (a := a) (b := 1) (by first | rfl | omega)) ?_
              refine zm_put (st' := st) (le' := (nI n)) (ap' := nI (a + 1)) (pl' := pl) (wy' := wy) 9 (nI (a + 1)) hx hb hts (fun x h => List.mem_cons_of_mem _ (hU_X8 x h)) hown hE hP hJ hS (by decide) rfl rfl (by decide +kernel) (hts _ (List.mem_cons_of_mem _ uM_143)) (fun _ h9 => h9) dX8_isWell_58 (fun H locs hP hS => ?_)
              refine lv_iload_n hx hb dX8_isWell_61 rfl (lv_at hl 0 rfl) ?_
              refine zbp_eq (P := a < n ∧ (59 ≤ pd a ∧ pd a ≤ 59)) (tgt := 77) hx hb dX8_isWell_62 (by decide) (fun c_62 => ?_) (fun c_62 => ?_)
              · exact absurd c_49 c_62
              · refine lv_aload_n hx hb dX8_isWell_65 rfl (lv_at hl 1 rfl) ?_
                refine lv_iconst (v := 0) hx hb dX8_isWell_66 (by decide +kernel) ?_
                refine zc_i (va_runV (As := [.int 0]) (rest := []) ⟨hx, hb, hml, hown, hts⟩ (c_X8_order l V g w pa be av sl sv pd cd st (nI n) (nI (a + 1)) pl wy  n (a + 1) hJ rfl rfl (by omega) (by omega)) (cwV 1 hts (zgV_ wsM_all uM_148 uM_153 uM_154 uM_155 uM_21) rfl rfl rfl (by decide +kernel) ⟨Nat.le_of_ble_eq_true rfl, Nat.le_of_ble_eq_true rfl⟩) (zPreV (B := fun H => va_P V.1 vwCl (zmW V g w pa be av sl sv pd cd st (nI n) (nI (a + 1)) pl wy) H) hP hE (va_recv hE.1 hP (ci := 8) (q0 := 0) (q := (RX8, TX8, 13)) rfl (zm_c0 V g w pa be av sl sv pd cd st (nI n) (nI (a + 1)) pl wy))) rfl rfl hl.1 rfl (lv_room (Nat.le_of_ble_eq_true rfl)) dX8_isWell_67 ⟨Nat.le_of_ble_eq_true rfl, Nat.le_of_ble_eq_true rfl⟩) hS (fun _ h => h) (fun _ h => h) (fun r_ H locs hQ_ _ _ hS => ?_)
                obtain ⟨hr_, hP⟩ := hQ_
                subst hr_
                refine zbz_ne (P := (mTok pd n (a + 1)).1 = true) (tgt := 77) hx hb dX8_isWell_70 (by decide) (fun c_70 => ?_) (fun c_70 => ?_)
                · refine lv_iconst (v := 0) hx hb dX8_isWell_77 (by decide +kernel) ?_
                  refine lv_istore_n (lv' := [(1, .int 0), (0, .ref (g 0))]) hx hb dX8_isWell_78 rfl hl (by decide) rfl (fun ls hl => ?_)
                  refine lv_goto (tgt := 19) hx hb dX8_isWell_79 (by decide) ?_
                  have hle1_ := mTok_le pd (n := n) (a := a + 1) (by omega)
                  have hw1_ : mWl pd n (n + 1 - (i + 1)) (false, (mTok pd n (a + 1)).2.1) = mWell pd n := by
                    rw [← hwl, show n + 1 - i = (n + 1 - (i + 1)) + 1 by omega, c_20]
                    refine Eq.trans ?_ ((if_pos ⟨rfl, c_31⟩).trans (if_pos c_49.2)).symm
                    show mWl pd n _ _ = mWl pd n _ ((mTok pd n (a + 1)).1, (mTok pd n (a + 1)).2.1)
                    rw [Bool.eq_false_iff.mpr c_70]
                  exact ih (i + 1) false ((mTok pd n (a + 1)).2.1) H locs ls (by omega) (by omega) hw1_ (fun _ => by omega) (by omega) hle1_.2.1 hP hS (lv_sub hl [0, 1] rfl)
                · refine lv_iconst (v := 1) hx hb dX8_isWell_73 (by decide +kernel) ?_
                  refine lv_goto (tgt := 78) hx hb dX8_isWell_74 (by decide) ?_
                  refine lv_istore_n (lv' := [(1, .int 1), (0, .ref (g 0))]) hx hb dX8_isWell_78 rfl hl (by decide) rfl (fun ls hl => ?_)
                  refine lv_goto (tgt := 19) hx hb dX8_isWell_79 (by decide) ?_
                  have hle1_ := mTok_le pd (n := n) (a := a + 1) (by omega)
                  have hw1_ : mWl pd n (n + 1 - (i + 1)) (true, (mTok pd n (a + 1)).2.1) = mWell pd n := by
                    rw [← hwl, show n + 1 - i = (n + 1 - (i + 1)) + 1 by omega, c_20]
                    refine Eq.trans ?_ ((if_pos ⟨rfl, c_31⟩).trans (if_pos c_49.2)).symm
                    show mWl pd n _ _ = mWl pd n _ ((mTok pd n (a + 1)).1, (mTok pd n (a + 1)).2.1)
                    rw [c_70]
                  exact ih (i + 1) true ((mTok pd n (a + 1)).2.1) H locs ls (by omega) (by omega) hw1_ (fun _ => by omega) (by omega) hle1_.2.1 hP hS (lv_sub hl [0, 1] rfl)
    have hw0_ : mWl pd n (n + 1 - 0) (false, (mTok pd n 0).2.1) = mWell pd n := by rw [mWell, show n + 1 - 0 = n + 1 by omega, Bool.eq_false_iff.mpr c_10]
    have hle0_ := mTok_le pd (n := n) (a := 0) (Nat.zero_le n)
    exact L_19 ((n + 1) + 1) 0 false ((mTok pd n 0).2.1) H locs ls (by omega) (by omega) hw0_ (fun _ => Nat.zero_le _) (Nat.zero_le _) hle0_.2.1 hP hS (lv_sub hl [0, 1] rfl)
  · refine lv_iconst (v := 1) hx hb dX8_isWell_13 (by decide +kernel) ?_
    refine lv_goto (tgt := 18) hx hb dX8_isWell_14 (by decide) ?_
    refine lv_istore_n (lv' := [(1, .int 1), (0, .ref (g 0))]) hx hb dX8_isWell_18 rfl hl (by decide) rfl (fun ls hl => ?_)
    have L_19 : ∀ (n_ i : Nat) (b : Bool) (a : Nat) (H : Heap) (locs : List Loc) (ls : Array Slot), i ≤ (n + 1) → (n + 1) + 1 ≤ i + n_ → (mWl pd n (n + 1 - i) (b, a) = mWell pd n) → (b = true → i ≤ a) → (i ≤ a + 1) → (a ≤ n) → va_P V.1 vwCl (zmW V g w pa be av sl sv pd cd st (nI n) (nI a) pl wy) H → va_S (zIn 9 g) s.heap H locs → lv_has ls 2 [(1, .int (if b = true then 1 else 0)), (0, .ref (g 0))] → W p l e (headSpec wsX8_isWell (zR 7 0 0)).room s m (List.toArray [.ref (g 0)]) below meth c H locs 0 0 (MQ below (zQi (fun r H => r = (if (mWell pd n).1 = true then 1 else 0) ∧ va_P V.1 vwCl (zmW V g w pa be av sl sv pd cd st (nI n) (nI (mWell pd n).2) pl wy) H) (zIn 9 g)) (List.toArray [.ref (g 0)]) s 0 0 (zIn 9 g)) (F0 m 19 ls []) := by
      intro n_
      induction n_ with
      | zero => intro i b a H locs ls hi_ hn_; exact absurd hn_ (by omega)
      | succ n_ ih =>
        intro i b a H locs ls hi_ hn_ hwl hia hia2 han hP hS hl
        refine lv_iload_n hx hb dX8_isWell_19 rfl (lv_at hl 0 rfl) ?_
        refine zbp_eq (P := b = true) (tgt := 82) hx hb dX8_isWell_20 (by decide) (fun c_20 => ?_) (fun c_20 => ?_)
        · have hst_ : mWell pd n = (b, a) := by rw [← hwl]; exact mWl_stop pd n (s := (b, a)) (by first | exact fun h => c_20 h.1 | exact fun h => absurd (show a < n from h.2) (by omega)) _
          refine lv_iload_n hx hb dX8_isWell_82 rfl (lv_at hl 0 rfl) ?_
          exact zr_z hx hb hr hlocks hS (by first | exact Or.inl rfl | exact Or.inr rfl | exact z_ite01 | assumption) (⟨by rw [hst_], by rw [hst_]; exact hP⟩) dX8_isWell_83
        · have hia_ := hia c_20
          refine lv_aload_n hx hb dX8_isWell_23 rfl (lv_at hl 1 rfl) ?_
          refine zm_get 9 (.int (nI a)) hx hb hts (fun x h => List.mem_cons_of_mem _ (hU_X8 x h)) hown hE hP (by decide) rfl (hts _ (List.mem_cons_of_mem _ uM_143)) (fun _ h9 => h9) dX8_isWell_24 ?_
          refine lv_aload_n hx hb dX8_isWell_27 rfl (lv_at hl 1 rfl) ?_
          refine zm_get 8 (.int (nI n)) hx hb hts (fun x h => List.mem_cons_of_mem _ (hU_X8 x h)) hown hE hP (by decide) rfl (hts _ (List.mem_cons_of_mem _ uM_134)) (fun _ h9 => h9) dX8_isWell_28 ?_
          refine zb_ge (x := a) (y := n) (tgt := 82) hx hb dX8_isWell_31 (by decide) (by omega) (by omega) (fun c_31 => ?_) (fun c_31 => ?_)
          · have hst_ : mWell pd n = (b, a) := by rw [← hwl]; exact mWl_stop pd n (s := (b, a)) (by first | exact fun h => c_20 h.1 | exact fun h => absurd (show a < n from h.2) (by omega)) _
            refine lv_iload_n hx hb dX8_isWell_82 rfl (lv_at hl 0 rfl) ?_
            exact zr_z hx hb hr hlocks hS (by first | exact Or.inl rfl | exact Or.inr rfl | exact z_ite01 | assumption) (⟨by rw [hst_], by rw [hst_]; exact hP⟩) dX8_isWell_83
          · refine lv_aload_n hx hb dX8_isWell_34 rfl (lv_at hl 1 rfl) ?_
            refine lv_bipush (v := 59) hx hb dX8_isWell_35 (by decide +kernel) ?_
            refine lv_bipush (v := 59) hx hb dX8_isWell_37 (by decide +kernel) ?_
            refine zc_se (va_runV (As := [.int 59, .int 59]) (rest := []) ⟨hx, hb, hml, hown, hts⟩ (c_X8_sees l V g w pa be av sl sv pd cd st (nI n) (nI a) pl wy a n 59 59 rfl rfl (by omega) (by omega)) (cwV 2 hts (zgV_ wsM_all uM_142 uM_145 uM_146 uM_147 uM_21) rfl rfl rfl (by decide +kernel) ⟨Nat.le_of_ble_eq_true rfl, Nat.le_of_ble_eq_true rfl⟩) (zPreV (B := fun H => va_P V.1 vwCl (zmW V g w pa be av sl sv pd cd st (nI n) (nI a) pl wy) H) hP hE (va_recv hE.1 hP (ci := 8) (q0 := 0) (q := (RX8, TX8, 13)) rfl (zm_c0 V g w pa be av sl sv pd cd st (nI n) (nI a) pl wy))) rfl rfl hl.1 rfl (lv_room (Nat.le_of_ble_eq_true rfl)) dX8_isWell_39 ⟨Nat.le_of_ble_eq_true rfl, Nat.le_of_ble_eq_true rfl⟩) ?_
            refine lv_istore_n (lv' := [(1, .int (if a < n ∧ (59 ≤ pd a ∧ pd a ≤ 59) then 1 else 0)), (0, .ref (g 0))]) hx hb dX8_isWell_42 rfl hl (by decide) rfl (fun ls hl => ?_)
            refine lv_aload_n hx hb dX8_isWell_43 rfl (lv_at hl 1 rfl) ?_
            refine lv_dup hx hb dX8_isWell_44 rfl ?_
            refine zm_get 9 (.int (nI a)) hx hb hts (fun x h => List.mem_cons_of_mem _ (hU_X8 x h)) hown hE hP (by decide) rfl (hts _ (List.mem_cons_of_mem _ uM_143)) (fun _ h9 => h9) dX8_isWell_45 ?_
            refine lv_iload_n hx hb dX8_isWell_48 rfl (lv_at hl 0 rfl) ?_
            refine zbp_eq (P := a < n ∧ (59 ≤ pd a ∧ pd a ≤ 59)) (tgt := 56) hx hb dX8_isWell_49 (by decide) (fun c_49 => ?_) (fun c_49 => ?_)
            · refine lv_iconst (v := 0) hx hb dX8_isWell_56 (by decide +kernel) ?_
              refine lv_iadd hx hb dX8_isWell_57 ?_
              refine zt_i (z_add (a := a) (b := 0) (by first | rfl | omega)) ?_
              refine zm_put (st' := st) (le' := (nI n)) (ap' := nI a) (pl' := pl) (wy' := wy) 9 (nI a) hx hb hts (fun x h => List.mem_cons_of_mem _ (hU_X8 x h)) hown hE hP hJ hS (by decide) rfl rfl (by decide +kernel) (hts _ (List.mem_cons_of_mem _ uM_143)) (fun _ h9 => h9) dX8_isWell_58 (fun H locs hP hS => ?_)
              refine lv_iload_n hx hb dX8_isWell_61 rfl (lv_at hl 0 rfl) ?_
              refine zbp_eq (P := a < n ∧ (59 ≤ pd a ∧ pd a ≤ 59)) (tgt := 77) hx hb dX8_isWell_62 (by decide) (fun c_62 => ?_) (fun c_62 => ?_)
              · refine lv_iconst (v := 0) hx hb dX8_isWell_77 (by decide +kernel) ?_
                refine lv_istore_n (lv' := [(1, .int 0), (0, .ref (g 0))]) hx hb dX8_isWell_78 rfl hl (by decide) rfl (fun ls hl => ?_)
                refine lv_goto (tgt := 19) hx hb dX8_isWell_79 (by decide) ?_
                have hw1_ : mWl pd n (n + 1 - (i + 1)) (false, a) = mWell pd n := by
                  rw [mWl_stop pd n (s := (false, a)) (fun h => by cases h.1), ← hwl, show n + 1 - i = (n + 1 - (i + 1)) + 1 by omega, c_20]
                  exact ((if_pos ⟨rfl, c_31⟩).trans (if_neg (fun h => c_49 ⟨c_31, h⟩))).symm
                exact ih (i + 1) false a H locs ls (by omega) (by omega) hw1_ (fun h => by cases h) (by omega) han hP hS (lv_sub hl [0, 1] rfl)
              · exact absurd c_62 c_49
            · refine lv_iconst (v := 1) hx hb dX8_isWell_52 (by decide +kernel) ?_
              refine lv_goto (tgt := 57) hx hb dX8_isWell_53 (by decide) ?_
              refine lv_iadd hx hb dX8_isWell_57 ?_
              refine zt_i (z_add (a := a) (b := 1) (by first | rfl | omega)) ?_
              refine zm_put (st' := st) (le' := (nI n)) (ap' := nI (a + 1)) (pl' := pl) (wy' := wy) 9 (nI (a + 1)) hx hb hts (fun x h => List.mem_cons_of_mem _ (hU_X8 x h)) hown hE hP hJ hS (by decide) rfl rfl (by decide +kernel) (hts _ (List.mem_cons_of_mem _ uM_143)) (fun _ h9 => h9) dX8_isWell_58 (fun H locs hP hS => ?_)
              refine lv_iload_n hx hb dX8_isWell_61 rfl (lv_at hl 0 rfl) ?_
              refine zbp_eq (P := a < n ∧ (59 ≤ pd a ∧ pd a ≤ 59)) (tgt := 77) hx hb dX8_isWell_62 (by decide) (fun c_62 => ?_) (fun c_62 => ?_)
              · exact absurd c_49 c_62
              · refine lv_aload_n hx hb dX8_isWell_65 rfl (lv_at hl 1 rfl) ?_
                refine lv_iconst (v := 0) hx hb dX8_isWell_66 (by decide +kernel) ?_
                refine zc_i (va_runV (As := [.int 0]) (rest := []) ⟨hx, hb, hml, hown, hts⟩ (c_X8_order l V g w pa be av sl sv pd cd st (nI n) (nI (a + 1)) pl wy  n (a + 1) hJ rfl rfl (by omega) (by omega)) (cwV 1 hts (zgV_ wsM_all uM_148 uM_153 uM_154 uM_155 uM_21) rfl rfl rfl (by decide +kernel) ⟨Nat.le_of_ble_eq_true rfl, Nat.le_of_ble_eq_true rfl⟩) (zPreV (B := fun H => va_P V.1 vwCl (zmW V g w pa be av sl sv pd cd st (nI n) (nI (a + 1)) pl wy) H) hP hE (va_recv hE.1 hP (ci := 8) (q0 := 0) (q := (RX8, TX8, 13)) rfl (zm_c0 V g w pa be av sl sv pd cd st (nI n) (nI (a + 1)) pl wy))) rfl rfl hl.1 rfl (lv_room (Nat.le_of_ble_eq_true rfl)) dX8_isWell_67 ⟨Nat.le_of_ble_eq_true rfl, Nat.le_of_ble_eq_true rfl⟩) hS (fun _ h => h) (fun _ h => h) (fun r_ H locs hQ_ _ _ hS => ?_)
                obtain ⟨hr_, hP⟩ := hQ_
                subst hr_
                refine zbz_ne (P := (mTok pd n (a + 1)).1 = true) (tgt := 77) hx hb dX8_isWell_70 (by decide) (fun c_70 => ?_) (fun c_70 => ?_)
                · refine lv_iconst (v := 0) hx hb dX8_isWell_77 (by decide +kernel) ?_
                  refine lv_istore_n (lv' := [(1, .int 0), (0, .ref (g 0))]) hx hb dX8_isWell_78 rfl hl (by decide) rfl (fun ls hl => ?_)
                  refine lv_goto (tgt := 19) hx hb dX8_isWell_79 (by decide) ?_
                  have hle1_ := mTok_le pd (n := n) (a := a + 1) (by omega)
                  have hw1_ : mWl pd n (n + 1 - (i + 1)) (false, (mTok pd n (a + 1)).2.1) = mWell pd n := by
                    rw [← hwl, show n + 1 - i = (n + 1 - (i + 1)) + 1 by omega, c_20]
                    refine Eq.trans ?_ ((if_pos ⟨rfl, c_31⟩).trans (if_pos c_49.2)).symm
                    show mWl pd n _ _ = mWl pd n _ ((mTok pd n (a + 1)).1, (mTok pd n (a + 1)).2.1)
                    rw [Bool.eq_false_iff.mpr c_70]
                  exact ih (i + 1) false ((mTok pd n (a + 1)).2.1) H locs ls (by omega) (by omega) hw1_ (fun _ => by omega) (by omega) hle1_.2.1 hP hS (lv_sub hl [0, 1] rfl)
                · refine lv_iconst (v := 1) hx hb dX8_isWell_73 (by decide +kernel) ?_
                  refine lv_goto (tgt := 78) hx hb dX8_isWell_74 (by decide) ?_
                  refine lv_istore_n (lv' := [(1, .int 1), (0, .ref (g 0))]) hx hb dX8_isWell_78 rfl hl (by decide) rfl (fun ls hl => ?_)
                  refine lv_goto (tgt := 19) hx hb dX8_isWell_79 (by decide) ?_
                  have hle1_ := mTok_le pd (n := n) (a := a + 1) (by omega)
                  have hw1_ : mWl pd n (n + 1 - (i + 1)) (true, (mTok pd n (a + 1)).2.1) = mWell pd n := by
                    rw [← hwl, show n + 1 - i = (n + 1 - (i + 1)) + 1 by omega, c_20]
                    refine Eq.trans ?_ ((if_pos ⟨rfl, c_31⟩).trans (if_pos c_49.2)).symm
                    show mWl pd n _ _ = mWl pd n _ ((mTok pd n (a + 1)).1, (mTok pd n (a + 1)).2.1)
                    rw [c_70]
                  exact ih (i + 1) true ((mTok pd n (a + 1)).2.1) H locs ls (by omega) (by omega) hw1_ (fun _ => by omega) (by omega) hle1_.2.1 hP hS (lv_sub hl [0, 1] rfl)
    have hw0_ : mWl pd n (n + 1 - 0) (true, (mTok pd n 0).2.1) = mWell pd n := by rw [mWell, show n + 1 - 0 = n + 1 by omega, c_10]
    have hle0_ := mTok_le pd (n := n) (a := 0) (Nat.zero_le n)
    exact L_19 ((n + 1) + 1) 0 true ((mTok pd n 0).2.1) H locs ls (by omega) (by omega) hw0_ (fun _ => Nat.zero_le _) (Nat.zero_le _) hle0_.2.1 hP hS (lv_sub hl [0, 1] rfl)
set_option maxHeartbeats 4000000 in
set_option maxRecDepth 100000 in
theorem c_X8_fault (l : Launch) (V : zV) (g : Nat → Nat) (w pa be av sl sv pd cd : Nat → Int32) (st le ap pl wy : Int32) (n : Nat) (hJ : zInj 9 g) (hle : le = nI n) (h80 : n ≤ 80) : Met l yX8_fault wsX8_fault (zR 8 0 0) (zPc V [.ref (g 0)] (fun H => va_P V.1 vwCl (zmW V g w pa be av sl sv pd cd st le ap pl wy) H)) (zQi (fun r H => r = (if (mWell pd n).1 = true then -6 else nI (mWell pd n).2) ∧ (∃ ap' : Int32, va_P V.1 vwCl (zmW V g w pa be av sl sv pd cd st le ap' pl wy) H)) (zIn 9 g)) 0 0 (zIn 9 g) := by
  refine Met.ofW (cc := cX8_fault) (maxL := 1) (ret := (some .int)) (by decide) rfl ?_
  intro p e s m args below meth c s₁ B hml hv
  obtain ⟨rfl, hP, hE⟩ := hv
  have hx := B.exec
  have hb := B.bytes
  have hr := B.returns
  have hts := atoms_spec (ws := wsX8_fault) B.pre
  have hown : s.vm.findClass RX8 = some m.cls := findClass_of_methodNamed B.named
  have hlocks := B.notSynchronized
  have hl := lv_entry ([.ref (g 0)]) (n := 1) (Nat.le_of_ble_eq_true rfl)
  rw [lg_entry_eq]
  generalize (lg_sl ([.ref (g 0)]) ++ List.replicate (1 - (lg_sl ([.ref (g 0)])).length) Slot.unset).toArray = ls at hl ⊢
  have hl : lv_has ls 1 [(0, .ref (g 0))] := hl
  have hS : va_S (zIn 9 g) s.heap s.heap [] := va_S.rf
  subst hle
  refine lv_aload_n hx hb dX8_fault_0 rfl (lv_at hl 0 rfl) ?_
  refine zc_i (va_runV (As := []) (rest := []) ⟨hx, hb, hml, hown, hts⟩ (c_X8_isWell l V g w pa be av sl sv pd cd st (nI n) ap pl wy  n hJ rfl (by omega)) (cwV 0 hts (zgV_ wsM_all uM_152 uM_157 uM_158 uM_159 uM_21) rfl rfl rfl (by decide +kernel) ⟨Nat.le_of_ble_eq_true rfl, Nat.le_of_ble_eq_true rfl⟩) (zPreV (B := fun H => va_P V.1 vwCl (zmW V g w pa be av sl sv pd cd st (nI n) ap pl wy) H) hP hE (va_recv hE.1 hP (ci := 8) (q0 := 0) (q := (RX8, TX8, 13)) rfl (zm_c0 V g w pa be av sl sv pd cd st (nI n) ap pl wy))) rfl rfl hl.1 rfl (lv_room (Nat.le_of_ble_eq_true rfl)) dX8_fault_1 ⟨Nat.le_of_ble_eq_true rfl, Nat.le_of_ble_eq_true rfl⟩) hS (fun _ h => h) (fun _ h => h) (fun r_ H locs hQ_ _ _ hS => ?_)
  obtain ⟨hr_, hP⟩ := hQ_
  subst hr_
  refine zbp_eq (P := (mWell pd n).1 = true) (tgt := 12) hx hb dX8_fault_4 (by decide) (fun c_4 => ?_) (fun c_4 => ?_)
  · refine lv_aload_n hx hb dX8_fault_12 rfl (lv_at hl 0 rfl) ?_
    refine zm_get 9 (.int (nI ((mWell pd n).2))) hx hb hts (fun x h => List.mem_cons_of_mem _ (hU_X8 x h)) hown hE hP (by decide) rfl (hts _ (List.mem_cons_of_mem _ uM_143)) (fun _ h9 => h9) dX8_fault_13 ?_
    exact zr_i hx hb hr hlocks hS (⟨(if_neg c_4).symm, _, hP⟩) dX8_fault_16
  · refine lv_bipush (v := (-6)) hx hb dX8_fault_7 (by decide +kernel) ?_
    refine lv_goto (tgt := 16) hx hb dX8_fault_9 (by decide) ?_
    exact zr_i hx hb hr hlocks hS (⟨(if_pos c_4).symm, _, hP⟩) dX8_fault_16
set_option maxHeartbeats 4000000 in
set_option maxRecDepth 100000 in
theorem c_X8_carryOut (l : Launch) (V : zV) (g : Nat → Nat) (w pa be av sl sv pd cd : Nat → Int32) (st le ap pl wy : Int32) (n k m_ : Nat) (hJ : zInj 9 g) (hle : le = nI n) (h80 : n ≤ 80) (hok : mOK w m_) (hst : st = nI k) (hk6 : k ≤ 6) : Met l yX8_carryOut wsX8_carryOut (zR 8 0 0) (zPc V [.ref (g 0)] (fun H => va_P V.1 vwCl (zmW V g w pa be av sl sv pd cd st le ap pl wy) H)) (zQi (fun r H => r = (if (mWell pd n).1 = true then nI (mCO pd n (n + 2) (true, 0, w, 0)).2 else -3) ∧ (∃ be' : Nat → Int32, ∃ av' : Nat → Int32, ∃ ap' : Int32, ∃ pl' : Int32, ∃ wy' : Int32, va_P V.1 vwCl (zmW V g (if (mWell pd n).1 = true then (mCO pd n (n + 2) (true, 0, w, 0)).1 else w) (if (mWell pd n).1 = true then mRP pa w k (nI (mCO pd n (n + 2) (true, 0, w, 0)).2) else pa) be' av' sl sv pd cd (if (mWell pd n).1 = true then nI (mRK k (nI (mCO pd n (n + 2) (true, 0, w, 0)).2)) else nI k) (if (mWell pd n).1 = true then 0 else nI n) ap' pl' wy') H)) (zIn 9 g)) 0 0 (zIn 9 g) := by
  refine Met.ofW (cc := cX8_carryOut) (maxL := 3) (ret := (some .int)) (by decide) rfl ?_
  intro p e s m args below meth c s₁ B hml hv
  obtain ⟨rfl, hP, hE⟩ := hv
  have hx := B.exec
  have hb := B.bytes
  have hr := B.returns
  have hts := atoms_spec (ws := wsX8_carryOut) B.pre
  have hown : s.vm.findClass RX8 = some m.cls := findClass_of_methodNamed B.named
  have hlocks := B.notSynchronized
  have hl := lv_entry ([.ref (g 0)]) (n := 3) (Nat.le_of_ble_eq_true rfl)
  rw [lg_entry_eq]
  generalize (lg_sl ([.ref (g 0)]) ++ List.replicate (3 - (lg_sl ([.ref (g 0)])).length) Slot.unset).toArray = ls at hl ⊢
  have hl : lv_has ls 3 [(0, .ref (g 0))] := hl
  have hS : va_S (zIn 9 g) s.heap s.heap [] := va_S.rf
  subst hle
  subst hst
  have hok0 : mOK w m_ := hok
  obtain ⟨hn, h30, hwr, hfd⟩ := hok
  refine lv_aload_n hx hb dX8_carryOut_0 rfl (lv_at hl 0 rfl) ?_
  refine zc_i (va_runV (As := []) (rest := []) ⟨hx, hb, hml, hown, hts⟩ (c_X8_isWell l V g w pa be av sl sv pd cd (nI k) (nI n) ap pl wy  n hJ rfl (by omega)) (cwV 0 hts (zgV_ wsM_all uM_152 uM_157 uM_158 uM_159 uM_21) rfl rfl rfl (by decide +kernel) ⟨Nat.le_of_ble_eq_true rfl, Nat.le_of_ble_eq_true rfl⟩) (zPreV (B := fun H => va_P V.1 vwCl (zmW V g w pa be av sl sv pd cd (nI k) (nI n) ap pl wy) H) hP hE (va_recv hE.1 hP (ci := 8) (q0 := 0) (q := (RX8, TX8, 13)) rfl (zm_c0 V g w pa be av sl sv pd cd (nI k) (nI n) ap pl wy))) rfl rfl hl.1 rfl (lv_room (Nat.le_of_ble_eq_true rfl)) dX8_carryOut_1 ⟨Nat.le_of_ble_eq_true rfl, Nat.le_of_ble_eq_true rfl⟩) hS (fun _ h => h) (fun _ h => h) (fun r_ H locs hQ_ _ _ hS => ?_)
  obtain ⟨hr_, hP⟩ := hQ_
  subst hr_
  refine zbp_ne (P := (mWell pd n).1 = true) (tgt := 10) hx hb dX8_carryOut_4 (by decide) (fun c_4 => ?_) (fun c_4 => ?_)
  · refine lv_aload_n hx hb dX8_carryOut_10 rfl (lv_at hl 0 rfl) ?_
    refine zc_v (va_runV (As := []) (rest := []) ⟨hx, hb, hml, hown, hts⟩ (c_X8_remember l V g w pa be av sl sv pd cd (nI k) (nI n) (nI (mWell pd n).2) pl wy  hJ) (cwV 0 hts (zgV_ wsM_all uM_24 uM_32 uM_33 uM_34 uM_21) rfl rfl rfl (by decide +kernel) ⟨Nat.le_of_ble_eq_true rfl, Nat.le_of_ble_eq_true rfl⟩) (zPreV (B := fun H => va_P V.1 vwCl (zmW V g w pa be av sl sv pd cd (nI k) (nI n) (nI (mWell pd n).2) pl wy) H) hP hE (va_recv hE.1 hP (ci := 8) (q0 := 0) (q := (RX8, TX8, 13)) rfl (zm_c0 V g w pa be av sl sv pd cd (nI k) (nI n) (nI (mWell pd n).2) pl wy))) rfl rfl hl.1 rfl (lv_room (Nat.le_of_ble_eq_true rfl)) dX8_carryOut_11 ⟨Nat.le_of_ble_eq_true rfl, Nat.le_of_ble_eq_true rfl⟩) hS (fun _ h => h) (fun _ h => h) (fun H locs hQ_ _ _ hS => ?_)
    have hP := hQ_
    refine lv_aload_n hx hb dX8_carryOut_14 rfl (lv_at hl 0 rfl) ?_
    refine lv_iconst (v := 0) hx hb dX8_carryOut_15 (by decide +kernel) ?_
    refine zm_put (st' := (nI k)) (le' := (nI n)) (ap' := 0) (pl' := pl) (wy' := wy) 9 0 hx hb hts (fun x h => List.mem_cons_of_mem _ (hU_X8 x h)) hown hE hP hJ hS (by decide) rfl rfl (by decide +kernel) (hts _ (List.mem_cons_of_mem _ uM_143)) (fun _ h9 => h9) dX8_carryOut_16 (fun H locs hP hS => ?_)
    refine lv_iconst (v := 0) hx hb dX8_carryOut_19 (by decide +kernel) ?_
    refine lv_istore_n (lv' := [(1, .int 0), (0, .ref (g 0))]) hx hb dX8_carryOut_20 rfl hl (by decide) rfl (fun ls hl => ?_)
    refine lv_iconst (v := 1) hx hb dX8_carryOut_21 (by decide +kernel) ?_
    refine lv_istore_n (lv' := [(2, .int 1), (1, .int 0), (0, .ref (g 0))]) hx hb dX8_carryOut_22 rfl hl (by decide) rfl (fun ls hl => ?_)
    have L_23 : ∀ (n_ i : Nat) (b : Bool) (a : Nat) (w_ : Nat → Int32) (cnt : Nat) (q_ : Nat) (av_ : Nat → Int32) (pl_ : Int32) (wy_ : Int32) (H : Heap) (locs : List Loc) (ls : Array Slot), i ≤ (n + 1) → (n + 1) + 1 ≤ i + n_ → (mOK w_ q_) → (mCO pd n (n + 2 - i) (b, a, w_, cnt) = mCO pd n (n + 2) (true, 0, w, 0)) → (i ≤ a) → (a ≤ n + 1) → (cnt ≤ i) → va_P V.1 vwCl (zmW V g w_ pa w av_ sl sv pd cd (nI k) (nI n) (nI a) pl_ wy_) H → va_S (zIn 9 g) s.heap H locs → lv_has ls 3 [(1, .int (nI cnt)), (2, .int (if b = true then 1 else 0)), (0, .ref (g 0))] → W p l e (headSpec wsX8_carryOut (zR 8 0 0)).room s m (List.toArray [.ref (g 0)]) below meth c H locs 0 0 (MQ below (zQi (fun r H => r = (if (mWell pd n).1 = true then nI (mCO pd n (n + 2) (true, 0, w, 0)).2 else -3) ∧ (∃ be' : Nat → Int32, ∃ av' : Nat → Int32, ∃ ap' : Int32, ∃ pl' : Int32, ∃ wy' : Int32, va_P V.1 vwCl (zmW V g (if (mWell pd n).1 = true then (mCO pd n (n + 2) (true, 0, w, 0)).1 else w) (if (mWell pd n).1 = true then mRP pa w k (nI (mCO pd n (n + 2) (true, 0, w, 0)).2) else pa) be' av' sl sv pd cd (if (mWell pd n).1 = true then nI (mRK k (nI (mCO pd n (n + 2) (true, 0, w, 0)).2)) else nI k) (if (mWell pd n).1 = true then 0 else nI n) ap' pl' wy') H)) (zIn 9 g)) (List.toArray [.ref (g 0)]) s 0 0 (zIn 9 g)) (F0 m 23 ls []) := by
      intro n_
      induction n_ with
      | zero => intro i b a w_ cnt q_ av_ pl_ wy_ H locs ls hi_ hn_; exact absurd hn_ (by omega)
      | succ n_ ih =>
        intro i b a w_ cnt q_ av_ pl_ wy_ H locs ls hi_ hn_ hokq hfin hia han hcn hP hS hl
        refine lv_iload_n hx hb dX8_carryOut_23 rfl (lv_at hl 1 rfl) ?_
        refine zbp_eq (P := b = true) (tgt := 77) hx hb dX8_carryOut_24 (by decide) (fun c_24 => ?_) (fun c_24 => ?_)
        · have hst_ : mCO pd n (n + 2) (true, 0, w, 0) = (w_, cnt) := by rw [← hfin]; exact mCO_stop pd n (s := (b, a, w_, cnt)) (by first | exact fun h => c_24 h.1 | exact fun h => absurd (show a < n from h.2) (by omega)) _
          refine lv_aload_n hx hb dX8_carryOut_77 rfl (lv_at hl 2 rfl) ?_
          refine lv_iconst (v := 0) hx hb dX8_carryOut_78 (by decide +kernel) ?_
          refine zm_put (st' := (nI k)) (le' := 0) (ap' := (nI a)) (pl' := pl_) (wy' := wy_) 8 0 hx hb hts (fun x h => List.mem_cons_of_mem _ (hU_X8 x h)) hown hE hP hJ hS (by decide) rfl rfl (by decide +kernel) (hts _ (List.mem_cons_of_mem _ uM_134)) (fun _ h9 => h9) dX8_carryOut_79 (fun H locs hP hS => ?_)
          refine lv_aload_n hx hb dX8_carryOut_82 rfl (lv_at hl 2 rfl) ?_
          refine lv_iload_n hx hb dX8_carryOut_83 rfl (lv_at hl 0 rfl) ?_
          refine zc_i (va_runV (As := [.int (nI cnt)]) (rest := []) ⟨hx, hb, hml, hown, hts⟩ (c_X8_record l V g w_ pa w av_ sl sv pd cd (nI k) 0 (nI a) pl_ wy_  k (nI cnt) hJ rfl (by omega)) (cwV 1 hts (zgV_ wsM_all uM_25 uM_35 uM_36 uM_37 uM_21) rfl rfl rfl (by decide +kernel) ⟨Nat.le_of_ble_eq_true rfl, Nat.le_of_ble_eq_true rfl⟩) (zPreV (B := fun H => va_P V.1 vwCl (zmW V g w_ pa w av_ sl sv pd cd (nI k) 0 (nI a) pl_ wy_) H) hP hE (va_recv hE.1 hP (ci := 8) (q0 := 0) (q := (RX8, TX8, 13)) rfl (zm_c0 V g w_ pa w av_ sl sv pd cd (nI k) 0 (nI a) pl_ wy_))) rfl rfl hl.1 rfl (lv_room (Nat.le_of_ble_eq_true rfl)) dX8_carryOut_84 ⟨Nat.le_of_ble_eq_true rfl, Nat.le_of_ble_eq_true rfl⟩) hS (fun _ h => h) (fun _ h => h) (fun r_ H locs hQ_ _ _ hS => ?_)
          obtain ⟨hr_, hP⟩ := hQ_
          subst hr_
          exact zr_i hx hb hr hlocks hS (⟨by rw [if_pos c_4, hst_], _, _, _, _, _, by rw [if_pos c_4, if_pos c_4, if_pos c_4, if_pos c_4, hst_]; exact hP⟩) dX8_carryOut_87
        · refine lv_aload_n hx hb dX8_carryOut_27 rfl (lv_at hl 2 rfl) ?_
          refine zm_get 9 (.int (nI a)) hx hb hts (fun x h => List.mem_cons_of_mem _ (hU_X8 x h)) hown hE hP (by decide) rfl (hts _ (List.mem_cons_of_mem _ uM_143)) (fun _ h9 => h9) dX8_carryOut_28 ?_
          refine lv_aload_n hx hb dX8_carryOut_31 rfl (lv_at hl 2 rfl) ?_
          refine zm_get 8 (.int (nI n)) hx hb hts (fun x h => List.mem_cons_of_mem _ (hU_X8 x h)) hown hE hP (by decide) rfl (hts _ (List.mem_cons_of_mem _ uM_134)) (fun _ h9 => h9) dX8_carryOut_32 ?_
          refine zb_ge (x := a) (y := n) (tgt := 77) hx hb dX8_carryOut_35 (by decide) (by omega) (by omega) (fun c_35 => ?_) (fun c_35 => ?_)
          · have hst_ : mCO pd n (n + 2) (true, 0, w, 0) = (w_, cnt) := by rw [← hfin]; exact mCO_stop pd n (s := (b, a, w_, cnt)) (by first | exact fun h => c_24 h.1 | exact fun h => absurd (show a < n from h.2) (by omega)) _
            refine lv_aload_n hx hb dX8_carryOut_77 rfl (lv_at hl 2 rfl) ?_
            refine lv_iconst (v := 0) hx hb dX8_carryOut_78 (by decide +kernel) ?_
            refine zm_put (st' := (nI k)) (le' := 0) (ap' := (nI a)) (pl' := pl_) (wy' := wy_) 8 0 hx hb hts (fun x h => List.mem_cons_of_mem _ (hU_X8 x h)) hown hE hP hJ hS (by decide) rfl rfl (by decide +kernel) (hts _ (List.mem_cons_of_mem _ uM_134)) (fun _ h9 => h9) dX8_carryOut_79 (fun H locs hP hS => ?_)
            refine lv_aload_n hx hb dX8_carryOut_82 rfl (lv_at hl 2 rfl) ?_
            refine lv_iload_n hx hb dX8_carryOut_83 rfl (lv_at hl 0 rfl) ?_
            refine zc_i (va_runV (As := [.int (nI cnt)]) (rest := []) ⟨hx, hb, hml, hown, hts⟩ (c_X8_record l V g w_ pa w av_ sl sv pd cd (nI k) 0 (nI a) pl_ wy_  k (nI cnt) hJ rfl (by omega)) (cwV 1 hts (zgV_ wsM_all uM_25 uM_35 uM_36 uM_37 uM_21) rfl rfl rfl (by decide +kernel) ⟨Nat.le_of_ble_eq_true rfl, Nat.le_of_ble_eq_true rfl⟩) (zPreV (B := fun H => va_P V.1 vwCl (zmW V g w_ pa w av_ sl sv pd cd (nI k) 0 (nI a) pl_ wy_) H) hP hE (va_recv hE.1 hP (ci := 8) (q0 := 0) (q := (RX8, TX8, 13)) rfl (zm_c0 V g w_ pa w av_ sl sv pd cd (nI k) 0 (nI a) pl_ wy_))) rfl rfl hl.1 rfl (lv_room (Nat.le_of_ble_eq_true rfl)) dX8_carryOut_84 ⟨Nat.le_of_ble_eq_true rfl, Nat.le_of_ble_eq_true rfl⟩) hS (fun _ h => h) (fun _ h => h) (fun r_ H locs hQ_ _ _ hS => ?_)
            obtain ⟨hr_, hP⟩ := hQ_
            subst hr_
            exact zr_i hx hb hr hlocks hS (⟨by rw [if_pos c_4, hst_], _, _, _, _, _, by rw [if_pos c_4, if_pos c_4, if_pos c_4, if_pos c_4, hst_]; exact hP⟩) dX8_carryOut_87
          · refine lv_aload_n hx hb dX8_carryOut_38 rfl (lv_at hl 2 rfl) ?_
            refine lv_iconst (v := 1) hx hb dX8_carryOut_39 (by decide +kernel) ?_
            refine zc_i (va_runV (As := [.int 1]) (rest := []) ⟨hx, hb, hml, hown, hts⟩ (c_X8_order1 l V g w_ pa w av_ sl sv pd cd (nI k) (nI n) (nI a) pl_ wy_  n a q_ hJ rfl rfl (by omega) (by omega) hokq) (cwV 1 hts (zgV_ wsM_all uM_148 uM_153 uM_154 uM_155 uM_21) rfl rfl rfl (by decide +kernel) ⟨Nat.le_of_ble_eq_true rfl, Nat.le_of_ble_eq_true rfl⟩) (zPreV (B := fun H => va_P V.1 vwCl (zmW V g w_ pa w av_ sl sv pd cd (nI k) (nI n) (nI a) pl_ wy_) H) hP hE (va_recv hE.1 hP (ci := 8) (q0 := 0) (q := (RX8, TX8, 13)) rfl (zm_c0 V g w_ pa w av_ sl sv pd cd (nI k) (nI n) (nI a) pl_ wy_))) rfl rfl hl.1 rfl (lv_room (Nat.le_of_ble_eq_true rfl)) dX8_carryOut_40 ⟨Nat.le_of_ble_eq_true rfl, Nat.le_of_ble_eq_true rfl⟩) hS (fun _ h => h) (fun _ h => h) (fun r_ H locs hQ_ _ _ hS => ?_)
            obtain ⟨hr_, av'_1, pl'_2, wy'_3, hP⟩ := hQ_
            subst hr_
            refine lv_if_lt (tgt := 50) hx hb dX8_carryOut_43 (by decide) (fun c_43 => ?_) (fun c_43 => ?_)
            · refine lv_iconst (v := 0) hx hb dX8_carryOut_50 (by decide +kernel) ?_
              refine lv_istore_n (lv' := [(2, .int 0), (1, .int (nI cnt)), (0, .ref (g 0))]) hx hb dX8_carryOut_51 rfl hl (by decide) rfl (fun ls hl => ?_)
              refine lv_iload_n hx hb dX8_carryOut_52 rfl (lv_at hl 1 rfl) ?_
              refine lv_iload_n hx hb dX8_carryOut_53 rfl (lv_at hl 0 rfl) ?_
              refine lv_if_eq (tgt := 61) hx hb dX8_carryOut_54 (by decide) (fun c_54 => ?_) (fun c_54 => ?_)
              rotate_left
              · exact absurd c_54 (by decide +kernel)
              refine lv_iconst (v := 0) hx hb dX8_carryOut_61 (by decide +kernel) ?_
              refine lv_iadd hx hb dX8_carryOut_62 ?_
              refine zt_i (z_add (a := cnt) (b := 0) (by first | rfl | omega)) ?_
              refine lv_istore_n (lv' := [(1, .int (nI cnt)), (2, .int 0), (0, .ref (g 0))]) hx hb dX8_carryOut_63 rfl hl (by decide) rfl (fun ls hl => ?_)
              refine lv_aload_n hx hb dX8_carryOut_64 rfl (lv_at hl 2 rfl) ?_
              refine lv_dup hx hb dX8_carryOut_65 rfl ?_
              refine zm_get 9 (.int (nI ((mTok pd n a).2.1))) hx hb hts (fun x h => List.mem_cons_of_mem _ (hU_X8 x h)) hown hE hP (by decide) rfl (hts _ (List.mem_cons_of_mem _ uM_143)) (fun _ h9 => h9) dX8_carryOut_66 ?_
              refine lv_iconst (v := 1) hx hb dX8_carryOut_69 (by decide +kernel) ?_
              refine lv_iadd hx hb dX8_carryOut_70 ?_
              refine zt_i (z_add (a := (mTok pd n a).2.1) (b := 1) (by first | rfl | omega)) ?_
              refine zm_put (st' := (nI k)) (le' := (nI n)) (ap' := nI (((mTok pd n a).2.1) + 1)) (pl' := pl'_2) (wy' := wy'_3) 9 (nI (((mTok pd n a).2.1) + 1)) hx hb hts (fun x h => List.mem_cons_of_mem _ (hU_X8 x h)) hown hE hP hJ hS (by decide) rfl rfl (by decide +kernel) (hts _ (List.mem_cons_of_mem _ uM_143)) (fun _ h9 => h9) dX8_carryOut_71 (fun H locs hP hS => ?_)
              refine lv_goto (tgt := 23) hx hb dX8_carryOut_74 (by decide) ?_
              have hle1_ := mTok_le pd (n := n) (a := a) (by omega)
              obtain ⟨q2_, hq2_⟩ := mDo_ok hokq (mTok pd n a)
              have hok2_ : ∃ q, mOK (if (mTok pd n a).1 = true then (mDo w_ q_ (mTok pd n a)).2 else w_) q := by
                by_cases h : (mTok pd n a).1 = true
                · rw [if_pos h]; exact ⟨q2_, hq2_⟩
                · rw [if_neg h]; exact ⟨q_, hokq⟩
              obtain ⟨q3_, hq3_⟩ := hok2_
              have hf1_ : mCO pd n (n + 2 - (i + 1)) (false, (mTok pd n a).2.1 + 1, (if (mTok pd n a).1 = true then (mDo w_ q_ (mTok pd n a)).2 else w_), cnt) = mCO pd n (n + 2) (true, 0, w, 0) := by
                rw [← hfin, show n + 2 - i = (n + 2 - (i + 1)) + 1 by omega, c_24]
                refine Eq.trans ?_ (if_pos ⟨rfl, c_35⟩).symm
                dsimp only
                rw [nOf_ok hokq]
                rw [mCO_stop pd n (fun h => by cases h.1)]
                by_cases h : (mTok pd n a).1 = true
                · rw [if_pos h] at c_43 ⊢; rw [if_neg (fun q => z_lt' c_43 q.2)]; first | done | rfl
                · rw [if_neg h, if_neg (fun q => h q.1)]; first | done | rfl
              exact ih (i + 1) false ((mTok pd n a).2.1 + 1) (if (mTok pd n a).1 = true then (mDo w_ q_ (mTok pd n a)).2 else w_) cnt q3_ av'_1 pl'_2 wy'_3 H locs ls (by omega) (by omega) hq3_ hf1_ (by omega) (by omega) (by omega) hP hS (lv_sub hl [0, 1, 2] rfl)
            · refine lv_iconst (v := 1) hx hb dX8_carryOut_46 (by decide +kernel) ?_
              refine lv_goto (tgt := 51) hx hb dX8_carryOut_47 (by decide) ?_
              refine lv_istore_n (lv' := [(2, .int 1), (1, .int (nI cnt)), (0, .ref (g 0))]) hx hb dX8_carryOut_51 rfl hl (by decide) rfl (fun ls hl => ?_)
              refine lv_iload_n hx hb dX8_carryOut_52 rfl (lv_at hl 1 rfl) ?_
              refine lv_iload_n hx hb dX8_carryOut_53 rfl (lv_at hl 0 rfl) ?_
              refine lv_if_eq (tgt := 61) hx hb dX8_carryOut_54 (by decide) (fun c_54 => ?_) (fun c_54 => ?_)
              · exact absurd c_54 (by decide +kernel)
              refine lv_iconst (v := 1) hx hb dX8_carryOut_57 (by decide +kernel) ?_
              refine lv_goto (tgt := 62) hx hb dX8_carryOut_58 (by decide) ?_
              refine lv_iadd hx hb dX8_carryOut_62 ?_
              refine zt_i (z_add (a := cnt) (b := 1) (by first | rfl | omega)) ?_
              refine lv_istore_n (lv' := [(1, .int (nI (cnt + 1))), (2, .int 1), (0, .ref (g 0))]) hx hb dX8_carryOut_63 rfl hl (by decide) rfl (fun ls hl => ?_)
              refine lv_aload_n hx hb dX8_carryOut_64 rfl (lv_at hl 2 rfl) ?_
              refine lv_dup hx hb dX8_carryOut_65 rfl ?_
              refine zm_get 9 (.int (nI ((mTok pd n a).2.1))) hx hb hts (fun x h => List.mem_cons_of_mem _ (hU_X8 x h)) hown hE hP (by decide) rfl (hts _ (List.mem_cons_of_mem _ uM_143)) (fun _ h9 => h9) dX8_carryOut_66 ?_
              refine lv_iconst (v := 1) hx hb dX8_carryOut_69 (by decide +kernel) ?_
              refine lv_iadd hx hb dX8_carryOut_70 ?_
              refine zt_i (z_add (a := (mTok pd n a).2.1) (b := 1) (by first | rfl | omega)) ?_
              refine zm_put (st' := (nI k)) (le' := (nI n)) (ap' := nI (((mTok pd n a).2.1) + 1)) (pl' := pl'_2) (wy' := wy'_3) 9 (nI (((mTok pd n a).2.1) + 1)) hx hb hts (fun x h => List.mem_cons_of_mem _ (hU_X8 x h)) hown hE hP hJ hS (by decide) rfl rfl (by decide +kernel) (hts _ (List.mem_cons_of_mem _ uM_143)) (fun _ h9 => h9) dX8_carryOut_71 (fun H locs hP hS => ?_)
              refine lv_goto (tgt := 23) hx hb dX8_carryOut_74 (by decide) ?_
              have hle1_ := mTok_le pd (n := n) (a := a) (by omega)
              obtain ⟨q2_, hq2_⟩ := mDo_ok hokq (mTok pd n a)
              have hok2_ : ∃ q, mOK (if (mTok pd n a).1 = true then (mDo w_ q_ (mTok pd n a)).2 else w_) q := by
                by_cases h : (mTok pd n a).1 = true
                · rw [if_pos h]; exact ⟨q2_, hq2_⟩
                · rw [if_neg h]; exact ⟨q_, hokq⟩
              obtain ⟨q3_, hq3_⟩ := hok2_
              have hf1_ : mCO pd n (n + 2 - (i + 1)) (true, (mTok pd n a).2.1 + 1, (if (mTok pd n a).1 = true then (mDo w_ q_ (mTok pd n a)).2 else w_), cnt + 1) = mCO pd n (n + 2) (true, 0, w, 0) := by
                rw [← hfin, show n + 2 - i = (n + 2 - (i + 1)) + 1 by omega, c_24]
                refine Eq.trans ?_ (if_pos ⟨rfl, c_35⟩).symm
                dsimp only
                rw [nOf_ok hokq]
                have htk_ : (mTok pd n a).1 = true := by
                  by_cases h : (mTok pd n a).1 = true
                  · exact h
                  · rw [if_neg h] at c_43; exact absurd c_43 (by decide)
                rw [if_pos htk_] at c_43 ⊢
                rw [if_pos ⟨htk_, z_nlt c_43⟩]
              exact ih (i + 1) true ((mTok pd n a).2.1 + 1) (if (mTok pd n a).1 = true then (mDo w_ q_ (mTok pd n a)).2 else w_) (cnt + 1) q3_ av'_1 pl'_2 wy'_3 H locs ls (by omega) (by omega) hq3_ hf1_ (by omega) (by omega) (by omega) hP hS (lv_sub hl [0, 1, 2] rfl)
    exact L_23 ((n + 1) + 1) 0 true 0 w 0 m_ av pl wy H locs ls (by omega) (by omega) hok0 rfl (by omega) (by omega) (by omega) hP hS (lv_sub hl [1, 0, 2] rfl)
  · refine lv_bipush (v := (-3)) hx hb dX8_carryOut_7 (by decide +kernel) ?_
    exact zr_i hx hb hr hlocks hS (⟨(if_neg c_4).symm, _, _, _, _, _, by rw [if_neg c_4, if_neg c_4, if_neg c_4, if_neg c_4]; exact hP⟩) dX8_carryOut_9
end
section
/-! the class's cells: slips, the latest ones, an archive; rows that read and write them -/
def zRd (U : State) (H : Heap) (a n : Nat) (f : Nat → Int32) : Prop := ∃ cell : Cell, H[a]? = some cell ∧ U.isArrayOf cell .int ∧ cell.vm ≠ .unknown ∧ n ≤ cell.slots.size ∧ cell.slots.size.toInt32 = Int32.ofNat n ∧ ∀ j : Nat, j < n → cell.slots[j]? = some (.int (f j))
theorem zRd.moved {u U : State} {H : Heap} {a n : Nat} {f : Nat → Int32} (hvm : u.vm.Alike U.vm) (h : zRd u H a n f) : zRd U H a n f := by
  obtain ⟨cell, h1, h2, h3⟩ := h
  exact ⟨cell, h1, State.isArrayOf_alike hvm h2, h3⟩
theorem zRd.kept {U : State} {H H1 : Heap} {a n : Nat} {f : Nat → Int32} (h : zRd U H a n f) (hq : H1[a]? = H[a]?) : zRd U H1 a n f := by
  obtain ⟨cell, h1, h2⟩ := h
  exact ⟨cell, by rw [hq]; exact h1, h2⟩
theorem zRd.lt {U : State} {H : Heap} {a n : Nat} {f : Nat → Int32} (h : zRd U H a n f) : a < H.size := by
  obtain ⟨cell, h1, -⟩ := h
  exact (Array.getElem?_eq_some_iff.mp h1).1
theorem zRd_of {V : zV} {U : State} {H : Heap} {a n : Nat} {f : Nat → Int32} (hE : zE V U) (h : va_at V.1 vwCl (a, .inl (V.2.1, n, .inl f)) H) : zRd U H a n f := by
  have h0 : H[a]? = some (vp_cell V.2.1 (n, .inl f)) := h
  have h1 := (hE.1.2 0 (V.2.1, .int) rfl).1 n (fun j => .int (f j))
  refine ⟨_, h0, h1, (fun q => by cases q), ?_, ?_, fun j hj => ?_⟩
  · rw [vp_cell_i, arrV_size]; exact Nat.le_refl n
  · rw [vp_cell_i, arrV_size]
  · rw [vp_cell_i, arrV_read _ _ hj]
-- a start that speaks of the state: what it says must not look at the frames
def zPs (V : zV) (av : List Value) (B : State → Prop) : Array Value → State → Prop := va_Pc av (fun U => B U ∧ zE V U)
theorem zPs_blind {V : zV} {av : List Value} {B : State → Prop} (hB : ∀ (a : Array Value) (U : State) (g : JFrame) (mk : MethodId), B U → B (U.calling g mk a)) : FrameBlind (zPs V av B) := fun a U g mk q => ⟨q.1, hB a U g mk q.2.1, q.2.2.calling⟩
theorem zPsS {V : zV} {s : State} {H : Heap} {As : List Value} {B : State → Prop} (hb : ∀ (a : Array Value) (U : State) (g : JFrame) (mk : MethodId), B U → B (U.calling g mk a)) (hB : ∀ U : State, U.heap = H → s.vm.Alike U.vm → B U) (hE : zE V s) : PreS s H (zPs V As B) As :=
  ⟨zPs_blind hb, fun U hU hW => ⟨rfl, hB U hU hW.alike, hE.moved hW⟩⟩
theorem zRd_calling {U : State} {g : JFrame} {mk : MethodId} {v : Array Value} {a n : Nat} {f : Nat → Int32} (h : zRd U U.heap a n f) : zRd (U.calling g mk v) (U.calling g mk v).heap a n f := zRd.moved (u := U) (U := U.calling g mk v) (Vm.Alike.refl U.vm) h
theorem zD1 {A : Nat → Prop} {a : Nat} {x : va_E} (h : A a) : va_D A [(a, x)] := by
  refine ⟨fun i j p q hi hj _ => ?_, fun k q hk => ?_⟩
  · have h1 := (List.getElem?_eq_some_iff.mp hi).1
    have h2 := (List.getElem?_eq_some_iff.mp hj).1
    simp at h1 h2
    omega
  · match k, hk with
    | 0, hk => cases hk; exact h
    | k + 1, hk => simp at hk
theorem zP1 {D : va_G} {cl : List vw_C} {a : Nat} {x : va_E} {H : Heap} (h : va_at D cl (a, x) H) : va_P D cl [(a, x)] H := by
  intro k q hk
  match k, hk with
  | 0, hk => cases hk; exact h
  | k + 1, hk => simp at hk
theorem zP1_at {D : va_G} {cl : List vw_C} {a : Nat} {x : va_E} {H : Heap} (h : va_P D cl [(a, x)] H) : va_at D cl (a, x) H := h 0 _ rfl
section ZO
variable {p : Program} {l : Launch} {e : Env} {R : Room} {s : State} {m : MethodId} {args : Array Value} {below : List Frame} {meth : Method} {c : Code} {H : Heap} {locs : List Loc} {cells slots : Nat} {Q : State → Prop}
variable {pc : Nat} {ls : Array Slot} {rest : List Value} {cc : ByteArray} {A : Nat → Prop} {H0 : Heap}
theorem zt_v {x y : Value} (h : x = y) (k : W p l e R s m args below meth c H locs cells slots Q (F0 m pc ls (y :: rest))) : W p l e R s m args below meth c H locs cells slots Q (F0 m pc ls (x :: rest)) := by rw [h]; exact k
theorem zo_get {V : zV} {a ci N : Nat} {C : String} {T : u_T} {fs : List Value} (k : Nat) (v : Value) {own ref : String} {index : Nat} {Ts : List Cond} (hx : p.tables.exec = Jvm.exec) (hb : c.code = cc) (hts : ∀ w ∈ Ts, w.before args s = true) (hin : ∀ w ∈ u_ws C T N, w ∈ Ts) (hown : s.vm.findClass own = some m.cls) (hE : zE V s) (hat : va_at V.1 vwCl (a, .inr (ci, fs)) H) (hc : vwCl[ci]? = some (C, T, N)) (hk : k < N) (hv : fs[k]? = some v) (hlink : (Cond.fieldLink own index ref (T k).2.1 (T k).2.2.1).before args s = true) (hsame : ∀ x, s.fieldFound? (T k).1 (T k).2.1 (T k).2.2.1 = some x → s.fieldFound? ref (T k).2.1 (T k).2.2.1 = some x) (hdg : decode cc pc = .ok (.getfield index, 3))
    (kk : W p l e R s m args below meth c H locs cells slots Q (F0 m (pc + 3) ls (v :: rest))) : W p l e R s m args below meth c H locs cells slots Q (F0 m pc ls (.ref a :: rest)) :=
  va_get (D := V.1) hx hb hts hin hown hE.1 (zP1 hat) 0 rfl hc k hk hlink hsame hv hdg kk
theorem zo_getN {V : zV} {a ci N : Nat} {C : String} {T : u_T} {fs : List Value} (k : Nat) (v : Value) {own ref host : String} {index : Nat} {Ts : List Cond} (hx : p.tables.exec = Jvm.exec) (hb : c.code = cc) (hts : ∀ w ∈ Ts, w.before args s = true) (hin : ∀ w ∈ u_ws C T N, w ∈ Ts) (hown : s.vm.findClass own = some m.cls) (hE : zE V s) (hat : va_at V.1 vwCl (a, .inr (ci, fs)) H) (hc : vwCl[ci]? = some (C, T, N)) (hk : k < N) (hv : fs[k]? = some v) (hlink : Cond.fieldLinkNest own index ref (T k).2.1 (T k).2.2.1 host ∈ zNW) (hsame : ∀ x, s.fieldFound? (T k).1 (T k).2.1 (T k).2.2.1 = some x → s.fieldFound? ref (T k).2.1 (T k).2.2.1 = some x) (hdg : decode cc pc = .ok (.getfield index, 3))
    (kk : W p l e R s m args below meth c H locs cells slots Q (F0 m (pc + 3) ls (v :: rest))) : W p l e R s m args below meth c H locs cells slots Q (F0 m pc ls (.ref a :: rest)) :=
  va_getN (D := V.1) hx hb hts hin hown hE.1 (zP1 hat) 0 rfl hc k hk (va_Nw.use rfl (hE.2 _ hlink)) hsame hv hdg kk
theorem zo_put {V : zV} {a ci N p0 : Nat} {C : String} {T : u_T} {ws : va_W} {fs : List Value} (k : Nat) (v : Value) (ty : FieldType) {own ref : String} {index : Nat} {Ts : List Cond} (hx : p.tables.exec = Jvm.exec) (hb : c.code = cc) (hts : ∀ w ∈ Ts, w.before args s = true) (hin : ∀ w ∈ u_ws C T N, w ∈ Ts) (ty0 : Nat → FieldType) (hty : ∀ k, k < N → parseFieldDescriptor (T k).2.2.1 = some (ty0 k)) (hnm : ∀ a, a < N → ∀ b, b < N → a ≠ b → (T a).2.1 ≠ (T b).2.1) (hown : s.vm.findClass own = some m.cls) (hE : zE V s) (hP : va_P V.1 vwCl ws H) (hD : va_D A ws) (hS : va_S A H0 H locs) (he : ws[p0]? = some (a, .inr (ci, fs))) (hc : vwCl[ci]? = some (C, T, N)) (hk : k < N) (hl : k < fs.length) (hfin : (T k).2.2.2 = false) (hd : parseFieldDescriptor (T k).2.2.1 = some ty) (hn : narrow ty v = v) (hfit : fits ty v = true) (hlink : (Cond.fieldLink own index ref (T k).2.1 (T k).2.2.1).before args s = true) (hsame : ∀ x, s.fieldFound? (T k).1 (T k).2.1 (T k).2.2.1 = some x → s.fieldFound? ref (T k).2.1 (T k).2.2.1 = some x) (hdg : decode cc pc = .ok (.putfield index, 3))
    (kk : ∀ (H1 : Heap) (locs1 : List Loc), va_P V.1 vwCl (ws.set p0 (a, .inr (ci, fs.set k v))) H1 → va_S A H0 H1 locs1 → W p l e R s m args below meth c H1 locs1 cells slots Q (F0 m (pc + 3) ls rest)) : W p l e R s m args below meth c H locs cells slots Q (F0 m pc ls (v :: .ref a :: rest)) :=
  va_put (D := V.1) hx hb hts hin ty0 hty hnm hown hE.1 hP hD hS p0 he hc k hk hlink hsame hfin hd hn hfit hl hdg (fun H1 locs1 h1 _ h3 => kk H1 locs1 h1 h3)
theorem zo_putN {V : zV} {a ci N p0 : Nat} {C : String} {T : u_T} {ws : va_W} {fs : List Value} (k : Nat) (v : Value) (ty : FieldType) {own ref host : String} {index : Nat} {Ts : List Cond} (hx : p.tables.exec = Jvm.exec) (hb : c.code = cc) (hts : ∀ w ∈ Ts, w.before args s = true) (hin : ∀ w ∈ u_ws C T N, w ∈ Ts) (ty0 : Nat → FieldType) (hty : ∀ k, k < N → parseFieldDescriptor (T k).2.2.1 = some (ty0 k)) (hnm : ∀ a, a < N → ∀ b, b < N → a ≠ b → (T a).2.1 ≠ (T b).2.1) (hown : s.vm.findClass own = some m.cls) (hE : zE V s) (hP : va_P V.1 vwCl ws H) (hD : va_D A ws) (hS : va_S A H0 H locs) (he : ws[p0]? = some (a, .inr (ci, fs))) (hc : vwCl[ci]? = some (C, T, N)) (hk : k < N) (hl : k < fs.length) (hfin : (T k).2.2.2 = false) (hd : parseFieldDescriptor (T k).2.2.1 = some ty) (hn : narrow ty v = v) (hfit : fits ty v = true) (hlink : Cond.fieldLinkNest own index ref (T k).2.1 (T k).2.2.1 host ∈ zNW) (hsame : ∀ x, s.fieldFound? (T k).1 (T k).2.1 (T k).2.2.1 = some x → s.fieldFound? ref (T k).2.1 (T k).2.2.1 = some x) (hdg : decode cc pc = .ok (.putfield index, 3))
    (kk : ∀ (H1 : Heap) (locs1 : List Loc), va_P V.1 vwCl (ws.set p0 (a, .inr (ci, fs.set k v))) H1 → va_S A H0 H1 locs1 → W p l e R s m args below meth c H1 locs1 cells slots Q (F0 m (pc + 3) ls rest)) : W p l e R s m args below meth c H locs cells slots Q (F0 m pc ls (v :: .ref a :: rest)) :=
  va_putN (D := V.1) hx hb hts hin ty0 hty hnm hown hE.1 hP hD hS p0 he hc k hk (va_Nw.use rfl (hE.2 _ hlink)) hsame hfin hd hn hfit hl hdg (fun H1 locs1 h1 _ h3 => kk H1 locs1 h1 h3)
theorem zo_iald {V : zV} {a n k : Nat} {f : Nat → Int32} (hx : p.tables.exec = Jvm.exec) (hb : c.code = cc) (hE : zE V s) (hat : va_at V.1 vwCl (a, .inl (V.2.1, n, .inl f)) H) (hk : k < n) (hn : n < 2 ^ 31) (hdg : decode cc pc = .ok (.iaload, 1))
    (kk : W p l e R s m args below meth c H locs cells slots Q (F0 m (pc + 1) ls (.int (f k) :: rest))) : W p l e R s m args below meth c H locs cells slots Q (F0 m pc ls (.int (nI k) :: .ref a :: rest)) :=
  z_iald hx hb hE (zP1 hat) 0 rfl hk hn hdg kk
theorem zo_len {a n : Nat} {f : Nat → Int32} (hx : p.tables.exec = Jvm.exec) (hb : c.code = cc) (hR : zRd s H a n f) (hdg : decode cc pc = .ok (.arraylength, 1))
    (kk : W p l e R s m args below meth c H locs cells slots Q (F0 m (pc + 1) ls (.int (nI n) :: rest))) : W p l e R s m args below meth c H locs cells slots Q (F0 m pc ls (.ref a :: rest)) := by
  obtain ⟨cell, h1, h2, h3, h4, h5, h6⟩ := hR
  exact W.alen hx hb h1 h2 h5 rfl rfl hdg kk
theorem zo_rald {a n k : Nat} {f : Nat → Int32} (hx : p.tables.exec = Jvm.exec) (hb : c.code = cc) (hR : zRd s H a n f) (hk : k < n) (hn : n < 2 ^ 31) (hdg : decode cc pc = .ok (.iaload, 1))
    (kk : W p l e R s m args below meth c H locs cells slots Q (F0 m (pc + 1) ls (.int (f k) :: rest))) : W p l e R s m args below meth c H locs cells slots Q (F0 m pc ls (.int (nI k) :: .ref a :: rest)) := by
  obtain ⟨cell, h1, h2, h3, h4, h5, h6⟩ := hR
  have hkc : (nI k).toNatClampNeg = k := nI_clamp (Nat.lt_trans hk hn)
  refine W.iald (v := .int (f k)) hx hb h1 h2 h3 ?_ ?_ rfl rfl hdg kk
  · rw [hkc]
    exact fun q => q.elim (nI_pos (Nat.lt_trans hk hn)) (fun q => by omega)
  · rw [hkc]
    exact h6 k hk
-- references that may be null
theorem zo_aload_n {k : Fin 4} {i : Nat} {r : Option Nat} (hx : p.tables.exec = Jvm.exec) (hb : c.code = cc) (hdg : decode cc pc = .ok (.aload_n k, 1)) (hi : (k : Nat) = i) (hl : ls[i]? = some (.val (va_rf r)))
    (kk : W p l e R s m args below meth c H locs cells slots Q (F0 m (pc + 1) ls (va_rf r :: rest))) : W p l e R s m args below meth c H locs cells slots Q (F0 m pc ls rest) := by
  cases r with
  | none => exact lv_aload_nN hx hb hdg hi hl kk
  | some a => exact lv_aload_n hx hb hdg hi hl kk
theorem zo_aload {i : Nat} {r : Option Nat} (hx : p.tables.exec = Jvm.exec) (hb : c.code = cc) (hdg : decode cc pc = .ok (.aload i, 2)) (hl : ls[i]? = some (.val (va_rf r)))
    (kk : W p l e R s m args below meth c H locs cells slots Q (F0 m (pc + 2) ls (va_rf r :: rest))) : W p l e R s m args below meth c H locs cells slots Q (F0 m pc ls rest) := by
  cases r with
  | none => exact lv_aloadN hx hb hdg hl kk
  | some a => exact lv_aload hx hb hdg hl kk
theorem zo_astore_n {k : Fin 4} {i nL : Nat} {r : Option Nat} {lv lv' : List (Nat × Value)} (hx : p.tables.exec = Jvm.exec) (hb : c.code = cc) (hdg : decode cc pc = .ok (.astore_n k, 1)) (hi : (k : Nat) = i) (h : lv_has ls nL lv) (hn : i < nL) (hl : (i, va_rf r) :: lv.filter (fun q => !(q.1 == i) && !(q.1 + 1 == i && q.2.category == 2)) = lv')
    (kk : ∀ ls' : Array Slot, lv_has ls' nL lv' → W p l e R s m args below meth c H locs cells slots Q (F0 m (pc + 1) ls' rest)) : W p l e R s m args below meth c H locs cells slots Q (F0 m pc ls (va_rf r :: rest)) := by
  cases r with
  | none => exact lv_astore_nN hx hb hdg hi h hn hl kk
  | some a => exact lv_astore_n hx hb hdg hi h hn hl kk
theorem zo_astore {i nL : Nat} {r : Option Nat} {lv lv' : List (Nat × Value)} (hx : p.tables.exec = Jvm.exec) (hb : c.code = cc) (hdg : decode cc pc = .ok (.astore i, 2)) (h : lv_has ls nL lv) (hn : i < nL) (hl : (i, va_rf r) :: lv.filter (fun q => !(q.1 == i) && !(q.1 + 1 == i && q.2.category == 2)) = lv')
    (kk : ∀ ls' : Array Slot, lv_has ls' nL lv' → W p l e R s m args below meth c H locs cells slots Q (F0 m (pc + 2) ls' rest)) : W p l e R s m args below meth c H locs cells slots Q (F0 m pc ls (va_rf r :: rest)) := by
  cases r with
  | none => exact lv_astoreN hx hb hdg h hn hl kk
  | some a => exact lv_astore hx hb hdg h hn hl kk
end ZO
-- slips
def zsO (nx : Option Nat) (f : Nat → Int32) : List Value := [va_rf nx, .int (f 1), .int (f 2), .int (f 3), .int (f 4), .int (f 5), .int (f 6), .int (f 7)]
-- an archive's 36 cells: its object, the settings, the latest ones and their three rows, thirty slips in a chain
def zch (h : Nat → Nat) (i : Nat) : Option Nat := if i < 30 then some (h (i + 6)) else none
def zad (h : Nat → Nat) (r : Option Nat) : Option Nat := r.map (fun p => h (p + 6))
def zaO (h : Nat → Nat) (F : Nat → Int32) : List Value := [.ref (h 1), .ref (h 6), .ref (h 2), .int (F 3), .int (F 4), .int (F 5), .int (F 6), .int (F 7), .int (F 8), .int (F 9), .int (F 10), .int (F 11), .int (F 12), .int (F 13)]
def zlO (h : Nat → Nat) (lv : Int32) : List Value := [.ref (h 3), .ref (h 4), .ref (h 5), .int lv]
def zaE (V : zV) (h : Nat → Nat) (F T : Nat → Int32) (lv : Int32) (Ga Gb Gc : Nat → Int32) (P : Nat → Nat → Int32) : Nat → va_E
  | 0 => .inr (0, zaO h F)
  | 1 => .inl (V.2.1, 6, .inl T)
  | 2 => .inr (2, zlO h lv)
  | 3 => .inl (V.2.1, 20, .inl Ga)
  | 4 => .inl (V.2.1, 20, .inl Gb)
  | 5 => .inl (V.2.1, 20, .inl Gc)
  | i + 6 => .inr (5, zsO (zch h (i + 1)) (P i))
def zaW (V : zV) (h : Nat → Nat) (F T : Nat → Int32) (lv : Int32) (Ga Gb Gc : Nat → Int32) (P : Nat → Nat → Int32) : va_W := zWd 36 h (zaE V h F T lv Ga Gb Gc P)
theorem zch_lt {h : Nat → Nat} {i : Nat} (hi : i < 30) : zch h i = some (h (i + 6)) := if_pos hi
theorem zch_end {h : Nat → Nat} {i : Nat} (hi : 30 ≤ i) : zch h i = none := if_neg (Nat.not_lt.mpr hi)
theorem za_c (V : zV) (h : Nat → Nat) (F T : Nat → Int32) (lv : Int32) (Ga Gb Gc : Nat → Int32) (P : Nat → Nat → Int32) {i : Nat} (hi : i < 36) : (zaW V h F T lv Ga Gb Gc P)[i]? = some (h i, zaE V h F T lv Ga Gb Gc P i) := zWd_at hi
theorem za_at {V : zV} {h : Nat → Nat} {F T : Nat → Int32} {lv : Int32} {Ga Gb Gc : Nat → Int32} {P : Nat → Nat → Int32} {H : Heap} (hP : va_P V.1 vwCl (zaW V h F T lv Ga Gb Gc P) H) {i : Nat} (hi : i < 36) : va_at V.1 vwCl (h i, zaE V h F T lv Ga Gb Gc P i) H := zP_at hP hi
theorem za_slip {V : zV} {h : Nat → Nat} {F T : Nat → Int32} {lv : Int32} {Ga Gb Gc : Nat → Int32} {P : Nat → Nat → Int32} {H : Heap} (hP : va_P V.1 vwCl (zaW V h F T lv Ga Gb Gc P) H) {i : Nat} (hi : i < 30) : va_at V.1 vwCl (h (i + 6), .inr (5, zsO (zch h (i + 1)) (P i))) H := zP_at hP (p := i + 6) (by omega)
theorem za_s0 (V : zV) (h : Nat → Nat) (F T : Nat → Int32) (lv : Int32) (Ga Gb Gc : Nat → Int32) (P : Nat → Nat → Int32) (F' : Nat → Int32) : (zaW V h F T lv Ga Gb Gc P).set 0 (h 0, .inr (0, zaO h F')) = zaW V h F' T lv Ga Gb Gc P :=
  zWd_set (by decide) rfl (fun q _ hne => by
    match q, hne with
    | 0, h => exact absurd rfl h
    | 1, _ => rfl
    | 2, _ => rfl
    | 3, _ => rfl
    | 4, _ => rfl
    | 5, _ => rfl
    | q + 6, _ => rfl)
theorem za_s1 (V : zV) (h : Nat → Nat) (F T : Nat → Int32) (lv : Int32) (Ga Gb Gc : Nat → Int32) (P : Nat → Nat → Int32) (T' : Nat → Int32) : (zaW V h F T lv Ga Gb Gc P).set 1 (h 1, .inl (V.2.1, 6, .inl T')) = zaW V h F T' lv Ga Gb Gc P :=
  zWd_set (by decide) rfl (fun q _ hne => by
    match q, hne with
    | 0, _ => rfl
    | 1, h => exact absurd rfl h
    | 2, _ => rfl
    | 3, _ => rfl
    | 4, _ => rfl
    | 5, _ => rfl
    | q + 6, _ => rfl)
theorem za_ss (V : zV) (h : Nat → Nat) (F T : Nat → Int32) (lv : Int32) (Ga Gb Gc : Nat → Int32) (P : Nat → Nat → Int32) {i : Nat} (hi : i < 30) (f : Nat → Int32) : (zaW V h F T lv Ga Gb Gc P).set (i + 6) (h (i + 6), .inr (5, zsO (zch h (i + 1)) f)) = zaW V h F T lv Ga Gb Gc (va_up P i f) :=
  zWd_set (by omega) (by show (Sum.inr (5, zsO (zch h (i + 1)) (va_up P i f i)) : va_E) = _; rw [zUp_s]) (fun q _ hne => by
    match q, hne with
    | 0, _ => rfl
    | 1, _ => rfl
    | 2, _ => rfl
    | 3, _ => rfl
    | 4, _ => rfl
    | 5, _ => rfl
    | q + 6, hne =>
      show (Sum.inr (5, zsO (zch h (q + 1)) (va_up P i f q)) : va_E) = Sum.inr (5, zsO (zch h (q + 1)) (P q))
      rw [zUp_n _ _ (show q ≠ i by omega)])
end
section
theorem z_sl {d mm : Int32} (h1 : 0 ≤ d ∧ d ≤ 99) (h2 : 1 ≤ mm ∧ mm ≤ 9) : d + mm - 1 ≤ 99 ↔ d + mm ≤ 100 := by
  obtain ⟨j, rfl, -, hj⟩ := z_ix (na := 0) (nb := 99) rfl rfl (by decide) (by decide) h1
  obtain ⟨q, rfl, hq1, hq⟩ := z_ix (na := 1) (nb := 9) rfl rfl (by decide) (by decide) h2
  rw [nI_add, show nI (j + q) - 1 = nI (j + q) - nI 1 from rfl, pk_sub (by omega), show (99 : Int32) = nI 99 from rfl, show (100 : Int32) = nI 100 from rfl, nI_leI (by omega) (by omega), nI_leI (by omega) (by omega)]
  omega
theorem z_vat {f : Nat → Int32} {k n : Nat} (hk : k < n) (hn : n < 2 ^ 31) : (if 0 ≤ nI k ∧ nI k < nI n then f (nI k).toNatClampNeg else 0) = f k := by
  rw [if_pos ⟨nI_pos' (by omega), nI_lt hk hn⟩, nI_clamp (by omega)]
theorem z_gap {x : Int32} {n : Nat} (hn : n < 2 ^ 31) (h1 : ¬ x < 0) (h2 : ¬ nI n ≤ x) : ∃ j : Nat, x = nI j ∧ j < n := by
  obtain ⟨j, hj, rfl⟩ := nI_of h1
  refine ⟨j, rfl, ?_⟩
  rcases Nat.lt_or_ge j n with q | q
  · exact q
  · exact absurd (nI_le q hj) h2
theorem z_sl0 {a : Int32} : (0 ≤ a ∧ a ≤ 1) ↔ (a = 0 ∨ a = 1) := by
  constructor
  · intro h
    obtain ⟨q, rfl, -, hq⟩ := z_ix (na := 0) (nb := 1) rfl rfl (by decide) (by decide) h
    rcases (show q = 0 ∨ q = 1 by omega) with rfl | rfl
    · exact Or.inl rfl
    · exact Or.inr rfl
  · intro h
    rcases h with rfl | rfl <;> decide
set_option maxHeartbeats 4000000 in
set_option maxRecDepth 100000 in
theorem c_X7_isIndexOf (l : Launch) (V : zV) (a n : Nat) (f : Nat → Int32) (x : Int32) (hn : n < 2 ^ 31) : Met l yX7_isIndexOf wsX7_isIndexOf (zR 0 0 0) (zPs V [.ref a, .int x] (fun U => zRd U U.heap a n f)) (vp_Si (fun r => r = (if 0 ≤ x ∧ x < nI n then 1 else 0))) 0 0 (fun _ => False) := by
  refine Met.ofW (cc := cX7_isIndexOf) (maxL := 2) (ret := (some .boolean)) (by decide) rfl ?_
  intro p e s m args below meth c s₁ B hml hv
  obtain ⟨rfl, hP, hE⟩ := hv
  have hx := B.exec
  have hb := B.bytes
  have hr := B.returns
  have hts := atoms_spec (ws := wsX7_isIndexOf) B.pre
  have hown : s.vm.findClass RX7 = some m.cls := findClass_of_methodNamed B.named
  have hlocks := B.notSynchronized
  have hl := lv_entry ([.ref a, .int x]) (n := 2) (Nat.le_of_ble_eq_true rfl)
  rw [lg_entry_eq]
  generalize (lg_sl ([.ref a, .int x]) ++ List.replicate (2 - (lg_sl ([.ref a, .int x])).length) Slot.unset).toArray = ls at hl ⊢
  have hl : lv_has ls 2 [(0, .ref a), (1, .int x)] := hl
  refine lv_iload_n hx hb dX7_isIndexOf_0 rfl (lv_at hl 1 rfl) ?_
  refine lv_if_lt (tgt := 14) hx hb dX7_isIndexOf_1 (by decide) (fun c_1 => ?_) (fun c_1 => ?_)
  · refine lv_iconst (v := 0) hx hb dX7_isIndexOf_14 (by decide +kernel) ?_
    exact zr_sz hx hb hr hlocks (by first | exact Or.inl rfl | exact Or.inr rfl | exact z_ite01 | assumption) ((if_neg (fun h => z_lt' c_1 h.1)).symm) dX7_isIndexOf_15
  · refine lv_iload_n hx hb dX7_isIndexOf_4 rfl (lv_at hl 1 rfl) ?_
    refine lv_aload_n hx hb dX7_isIndexOf_5 rfl (lv_at hl 0 rfl) ?_
    refine zo_len (n := n) hx hb hP dX7_isIndexOf_6 ?_
    refine lv_icmp_ge (tgt := 14) hx hb dX7_isIndexOf_7 (by decide) (fun c_7 => ?_) (fun c_7 => ?_)
    · refine lv_iconst (v := 0) hx hb dX7_isIndexOf_14 (by decide +kernel) ?_
      exact zr_sz hx hb hr hlocks (by first | exact Or.inl rfl | exact Or.inr rfl | exact z_ite01 | assumption) ((if_neg (fun h => z_lt' h.2 c_7)).symm) dX7_isIndexOf_15
    · refine lv_iconst (v := 1) hx hb dX7_isIndexOf_10 (by decide +kernel) ?_
      refine lv_goto (tgt := 15) hx hb dX7_isIndexOf_11 (by decide) ?_
      exact zr_sz hx hb hr hlocks (by first | exact Or.inl rfl | exact Or.inr rfl | exact z_ite01 | assumption) ((if_pos ⟨z_nlt c_1, z_nle c_7⟩).symm) dX7_isIndexOf_15
set_option maxHeartbeats 4000000 in
set_option maxRecDepth 100000 in
theorem c_X7_valueAt (l : Launch) (V : zV) (a n : Nat) (f : Nat → Int32) (x : Int32) (hn : n < 2 ^ 31) : Met l yX7_valueAt wsX7_valueAt (zR 0 0 0) (zPs V [.ref a, .int x] (fun U => zRd U U.heap a n f)) (vp_Si (fun r => r = (if 0 ≤ x ∧ x < nI n then f x.toNatClampNeg else 0))) 0 0 (fun _ => False) := by
  refine Met.ofW (cc := cX7_valueAt) (maxL := 2) (ret := (some .int)) (by decide) rfl ?_
  intro p e s m args below meth c s₁ B hml hv
  obtain ⟨rfl, hP, hE⟩ := hv
  have hx := B.exec
  have hb := B.bytes
  have hr := B.returns
  have hts := atoms_spec (ws := wsX7_valueAt) B.pre
  have hown : s.vm.findClass RX7 = some m.cls := findClass_of_methodNamed B.named
  have hlocks := B.notSynchronized
  have hl := lv_entry ([.ref a, .int x]) (n := 2) (Nat.le_of_ble_eq_true rfl)
  rw [lg_entry_eq]
  generalize (lg_sl ([.ref a, .int x]) ++ List.replicate (2 - (lg_sl ([.ref a, .int x])).length) Slot.unset).toArray = ls at hl ⊢
  have hl : lv_has ls 2 [(0, .ref a), (1, .int x)] := hl
  refine lv_iload_n hx hb dX7_valueAt_0 rfl (lv_at hl 1 rfl) ?_
  refine lv_if_lt (tgt := 16) hx hb dX7_valueAt_1 (by decide) (fun c_1 => ?_) (fun c_1 => ?_)
  · refine lv_iconst (v := 0) hx hb dX7_valueAt_16 (by decide +kernel) ?_
    exact zr_si hx hb hr hlocks ((if_neg (fun h => z_lt' c_1 h.1)).symm) dX7_valueAt_17
  · refine lv_iload_n hx hb dX7_valueAt_4 rfl (lv_at hl 1 rfl) ?_
    refine lv_aload_n hx hb dX7_valueAt_5 rfl (lv_at hl 0 rfl) ?_
    refine zo_len (n := n) hx hb hP dX7_valueAt_6 ?_
    refine lv_icmp_ge (tgt := 16) hx hb dX7_valueAt_7 (by decide) (fun c_7 => ?_) (fun c_7 => ?_)
    · refine lv_iconst (v := 0) hx hb dX7_valueAt_16 (by decide +kernel) ?_
      exact zr_si hx hb hr hlocks ((if_neg (fun h => z_lt' h.2 c_7)).symm) dX7_valueAt_17
    · obtain ⟨j, rfl, hj⟩ := z_gap hn c_1 c_7
      refine lv_aload_n hx hb dX7_valueAt_10 rfl (lv_at hl 0 rfl) ?_
      refine lv_iload_n hx hb dX7_valueAt_11 rfl (lv_at hl 1 rfl) ?_
      refine zo_rald (k := j) hx hb hP (by omega) (by first | decide | omega) dX7_valueAt_12 ?_
      refine lv_goto (tgt := 17) hx hb dX7_valueAt_13 (by decide) ?_
      exact zr_si hx hb hr hlocks (by rw [if_pos ⟨by first | exact nI_pos' (by omega) | exact z_nlt c_1, nI_lt hj hn⟩, nI_clamp (by omega)]) dX7_valueAt_17
set_option maxHeartbeats 4000000 in
set_option maxRecDepth 100000 in
theorem c_X7_isSlip (l : Launch) (V : zV) (a_ d mm : Int32) : Met l yX7_isSlip wsX7_isSlip (zR 0 0 0) (zPc V [.int a_, .int d, .int mm] (fun H => True)) (vp_Si (fun r => r = (if mSlip a_ d mm then 1 else 0))) 0 0 (fun _ => False) := by
  refine Met.ofW (cc := cX7_isSlip) (maxL := 3) (ret := (some .boolean)) (by decide) rfl ?_
  intro p e s m args below meth c s₁ B hml hv
  obtain ⟨rfl, hP, hE⟩ := hv
  have hx := B.exec
  have hb := B.bytes
  have hr := B.returns
  have hts := atoms_spec (ws := wsX7_isSlip) B.pre
  have hown : s.vm.findClass RX7 = some m.cls := findClass_of_methodNamed B.named
  have hlocks := B.notSynchronized
  have hl := lv_entry ([.int a_, .int d, .int mm]) (n := 3) (Nat.le_of_ble_eq_true rfl)
  rw [lg_entry_eq]
  generalize (lg_sl ([.int a_, .int d, .int mm]) ++ List.replicate (3 - (lg_sl ([.int a_, .int d, .int mm])).length) Slot.unset).toArray = ls at hl ⊢
  have hl : lv_has ls 3 [(0, .int a_), (1, .int d), (2, .int mm)] := hl
  refine lv_iload_n hx hb dX7_isSlip_0 rfl (lv_at hl 0 rfl) ?_
  refine lv_if_eq (tgt := 9) hx hb dX7_isSlip_1 (by decide) (fun c_1 => ?_) (fun c_1 => ?_)
  · refine lv_iload_n hx hb dX7_isSlip_9 rfl (lv_at hl 1 rfl) ?_
    refine lv_if_lt (tgt := 44) hx hb dX7_isSlip_10 (by decide) (fun c_10 => ?_) (fun c_10 => ?_)
    · refine lv_iconst (v := 0) hx hb dX7_isSlip_44 (by decide +kernel) ?_
      exact zr_sz hx hb hr hlocks (by first | exact Or.inl rfl | exact Or.inr rfl | exact z_ite01 | assumption) ((if_neg (fun h => z_lt' c_10 h.2.1.1)).symm) dX7_isSlip_45
    · refine lv_iload_n hx hb dX7_isSlip_13 rfl (lv_at hl 1 rfl) ?_
      refine lv_bipush (v := 99) hx hb dX7_isSlip_14 (by decide +kernel) ?_
      refine lv_icmp_gt (tgt := 44) hx hb dX7_isSlip_16 (by decide) (fun c_16 => ?_) (fun c_16 => ?_)
      · refine lv_iconst (v := 0) hx hb dX7_isSlip_44 (by decide +kernel) ?_
        exact zr_sz hx hb hr hlocks (by first | exact Or.inl rfl | exact Or.inr rfl | exact z_ite01 | assumption) ((if_neg (fun h => z_lt' c_16 h.2.1.2)).symm) dX7_isSlip_45
      · refine lv_iload_n hx hb dX7_isSlip_19 rfl (lv_at hl 2 rfl) ?_
        refine lv_iconst (v := 1) hx hb dX7_isSlip_20 (by decide +kernel) ?_
        refine lv_icmp_lt (tgt := 44) hx hb dX7_isSlip_21 (by decide) (fun c_21 => ?_) (fun c_21 => ?_)
        · refine lv_iconst (v := 0) hx hb dX7_isSlip_44 (by decide +kernel) ?_
          exact zr_sz hx hb hr hlocks (by first | exact Or.inl rfl | exact Or.inr rfl | exact z_ite01 | assumption) ((if_neg (fun h => z_lt' c_21 h.2.2.1.1)).symm) dX7_isSlip_45
        · refine lv_iload_n hx hb dX7_isSlip_24 rfl (lv_at hl 2 rfl) ?_
          refine lv_bipush (v := 9) hx hb dX7_isSlip_25 (by decide +kernel) ?_
          refine lv_icmp_gt (tgt := 44) hx hb dX7_isSlip_27 (by decide) (fun c_27 => ?_) (fun c_27 => ?_)
          · refine lv_iconst (v := 0) hx hb dX7_isSlip_44 (by decide +kernel) ?_
            exact zr_sz hx hb hr hlocks (by first | exact Or.inl rfl | exact Or.inr rfl | exact z_ite01 | assumption) ((if_neg (fun h => z_lt' c_27 h.2.2.1.2)).symm) dX7_isSlip_45
          · refine lv_iload_n hx hb dX7_isSlip_30 rfl (lv_at hl 1 rfl) ?_
            refine lv_iload_n hx hb dX7_isSlip_31 rfl (lv_at hl 2 rfl) ?_
            refine lv_iadd hx hb dX7_isSlip_32 ?_
            refine lv_iconst (v := 1) hx hb dX7_isSlip_33 (by decide +kernel) ?_
            refine lv_isub hx hb dX7_isSlip_34 ?_
            refine lv_bipush (v := 99) hx hb dX7_isSlip_35 (by decide +kernel) ?_
            refine lv_icmp_gt (tgt := 44) hx hb dX7_isSlip_37 (by decide) (fun c_37 => ?_) (fun c_37 => ?_)
            · refine lv_iconst (v := 0) hx hb dX7_isSlip_44 (by decide +kernel) ?_
              exact zr_sz hx hb hr hlocks (by first | exact Or.inl rfl | exact Or.inr rfl | exact z_ite01 | assumption) ((if_neg (fun h => z_lt' c_37 ((z_sl h.2.1 h.2.2.1).mpr h.2.2.2))).symm) dX7_isSlip_45
            · refine lv_iconst (v := 1) hx hb dX7_isSlip_40 (by decide +kernel) ?_
              refine lv_goto (tgt := 45) hx hb dX7_isSlip_41 (by decide) ?_
              exact zr_sz hx hb hr hlocks (by first | exact Or.inl rfl | exact Or.inr rfl | exact z_ite01 | assumption) ((if_pos ⟨(z_sl0.mpr (Or.inl c_1)), ⟨z_nlt c_10, z_nlt c_16⟩, ⟨z_nlt c_21, z_nlt c_27⟩, (z_sl ⟨z_nlt c_10, z_nlt c_16⟩ ⟨z_nlt c_21, z_nlt c_27⟩).mp (z_nlt c_37)⟩).symm) dX7_isSlip_45
  · refine lv_iload_n hx hb dX7_isSlip_4 rfl (lv_at hl 0 rfl) ?_
    refine lv_iconst (v := 1) hx hb dX7_isSlip_5 (by decide +kernel) ?_
    refine lv_icmp_ne (tgt := 44) hx hb dX7_isSlip_6 (by decide) (fun c_6 => ?_) (fun c_6 => ?_)
    · refine lv_iconst (v := 0) hx hb dX7_isSlip_44 (by decide +kernel) ?_
      exact zr_sz hx hb hr hlocks (by first | exact Or.inl rfl | exact Or.inr rfl | exact z_ite01 | assumption) ((if_neg (fun h => (z_sl0.mp h.1).elim c_1 c_6)).symm) dX7_isSlip_45
    · refine lv_iload_n hx hb dX7_isSlip_9 rfl (lv_at hl 1 rfl) ?_
      refine lv_if_lt (tgt := 44) hx hb dX7_isSlip_10 (by decide) (fun c_10 => ?_) (fun c_10 => ?_)
      · refine lv_iconst (v := 0) hx hb dX7_isSlip_44 (by decide +kernel) ?_
        exact zr_sz hx hb hr hlocks (by first | exact Or.inl rfl | exact Or.inr rfl | exact z_ite01 | assumption) ((if_neg (fun h => z_lt' c_10 h.2.1.1)).symm) dX7_isSlip_45
      · refine lv_iload_n hx hb dX7_isSlip_13 rfl (lv_at hl 1 rfl) ?_
        refine lv_bipush (v := 99) hx hb dX7_isSlip_14 (by decide +kernel) ?_
        refine lv_icmp_gt (tgt := 44) hx hb dX7_isSlip_16 (by decide) (fun c_16 => ?_) (fun c_16 => ?_)
        · refine lv_iconst (v := 0) hx hb dX7_isSlip_44 (by decide +kernel) ?_
          exact zr_sz hx hb hr hlocks (by first | exact Or.inl rfl | exact Or.inr rfl | exact z_ite01 | assumption) ((if_neg (fun h => z_lt' c_16 h.2.1.2)).symm) dX7_isSlip_45
        · refine lv_iload_n hx hb dX7_isSlip_19 rfl (lv_at hl 2 rfl) ?_
          refine lv_iconst (v := 1) hx hb dX7_isSlip_20 (by decide +kernel) ?_
          refine lv_icmp_lt (tgt := 44) hx hb dX7_isSlip_21 (by decide) (fun c_21 => ?_) (fun c_21 => ?_)
          · refine lv_iconst (v := 0) hx hb dX7_isSlip_44 (by decide +kernel) ?_
            exact zr_sz hx hb hr hlocks (by first | exact Or.inl rfl | exact Or.inr rfl | exact z_ite01 | assumption) ((if_neg (fun h => z_lt' c_21 h.2.2.1.1)).symm) dX7_isSlip_45
          · refine lv_iload_n hx hb dX7_isSlip_24 rfl (lv_at hl 2 rfl) ?_
            refine lv_bipush (v := 9) hx hb dX7_isSlip_25 (by decide +kernel) ?_
            refine lv_icmp_gt (tgt := 44) hx hb dX7_isSlip_27 (by decide) (fun c_27 => ?_) (fun c_27 => ?_)
            · refine lv_iconst (v := 0) hx hb dX7_isSlip_44 (by decide +kernel) ?_
              exact zr_sz hx hb hr hlocks (by first | exact Or.inl rfl | exact Or.inr rfl | exact z_ite01 | assumption) ((if_neg (fun h => z_lt' c_27 h.2.2.1.2)).symm) dX7_isSlip_45
            · refine lv_iload_n hx hb dX7_isSlip_30 rfl (lv_at hl 1 rfl) ?_
              refine lv_iload_n hx hb dX7_isSlip_31 rfl (lv_at hl 2 rfl) ?_
              refine lv_iadd hx hb dX7_isSlip_32 ?_
              refine lv_iconst (v := 1) hx hb dX7_isSlip_33 (by decide +kernel) ?_
              refine lv_isub hx hb dX7_isSlip_34 ?_
              refine lv_bipush (v := 99) hx hb dX7_isSlip_35 (by decide +kernel) ?_
              refine lv_icmp_gt (tgt := 44) hx hb dX7_isSlip_37 (by decide) (fun c_37 => ?_) (fun c_37 => ?_)
              · refine lv_iconst (v := 0) hx hb dX7_isSlip_44 (by decide +kernel) ?_
                exact zr_sz hx hb hr hlocks (by first | exact Or.inl rfl | exact Or.inr rfl | exact z_ite01 | assumption) ((if_neg (fun h => z_lt' c_37 ((z_sl h.2.1 h.2.2.1).mpr h.2.2.2))).symm) dX7_isSlip_45
              · refine lv_iconst (v := 1) hx hb dX7_isSlip_40 (by decide +kernel) ?_
                refine lv_goto (tgt := 45) hx hb dX7_isSlip_41 (by decide) ?_
                exact zr_sz hx hb hr hlocks (by first | exact Or.inl rfl | exact Or.inr rfl | exact z_ite01 | assumption) ((if_pos ⟨(z_sl0.mpr (Or.inr c_6)), ⟨z_nlt c_10, z_nlt c_16⟩, ⟨z_nlt c_21, z_nlt c_27⟩, (z_sl ⟨z_nlt c_10, z_nlt c_16⟩ ⟨z_nlt c_21, z_nlt c_27⟩).mp (z_nlt c_37)⟩).symm) dX7_isSlip_45
set_option maxHeartbeats 4000000 in
set_option maxRecDepth 100000 in
theorem c_X7_copyRow (l : Launch) (V : zV) (a b n k : Nat) (f g_ : Nat → Int32) (hn : n < 2 ^ 31) (hk : k < 2 ^ 31) (hab : a ≠ b) : Met l yX7_copyRow wsX7_copyRow (zR 0 0 0) (zPs V [.ref a, .ref b] (fun U => zRd U U.heap a n f ∧ va_P V.1 vwCl [(b, .inl (V.2.1, k, .inl g_))] U.heap)) (zQv (fun H => va_P V.1 vwCl [(b, .inl (V.2.1, k, .inl (fun j => if j < n ∧ j < k then f j else g_ j)))] H) (fun q => q = b)) 0 0 (fun q => q = b) := by
  refine Met.ofW (cc := cX7_copyRow) (maxL := 3) (ret := none) (by decide) rfl ?_
  intro p e s m args below meth c s₁ B hml hv
  obtain ⟨rfl, hP, hE⟩ := hv
  have hx := B.exec
  have hb := B.bytes
  have hr := B.returns
  have hts := atoms_spec (ws := wsX7_copyRow) B.pre
  have hown : s.vm.findClass RX7 = some m.cls := findClass_of_methodNamed B.named
  have hlocks := B.notSynchronized
  have hl := lv_entry ([.ref a, .ref b]) (n := 3) (Nat.le_of_ble_eq_true rfl)
  rw [lg_entry_eq]
  generalize (lg_sl ([.ref a, .ref b]) ++ List.replicate (3 - (lg_sl ([.ref a, .ref b])).length) Slot.unset).toArray = ls at hl ⊢
  have hl : lv_has ls 3 [(0, .ref a), (1, .ref b)] := hl
  obtain ⟨hR0, hP⟩ := hP
  have hS : va_S (fun q => q = b) s.heap s.heap [] := va_S.rf
  refine lv_iconst (v := 0) hx hb dX7_copyRow_0 (by decide +kernel) ?_
  refine lv_istore_n (lv' := [(2, .int 0), (0, .ref a), (1, .ref b)]) hx hb dX7_copyRow_1 rfl hl (by decide) rfl (fun ls hl => ?_)
  have L_2 : ∀ (n_ i : Nat) (q_ : Nat → Int32) (H : Heap) (locs : List Loc) (ls : Array Slot), i ≤ (min n k) → (min n k) + 1 ≤ i + n_ → (q_ = fun j => if j < i then f j else g_ j) → va_P V.1 vwCl ([(b, .inl (V.2.1, k, .inl q_))]) H → va_S (fun q => q = b) s.heap H locs → lv_has ls 3 [(2, .int (nI i)), (0, .ref a), (1, .ref b)] → W p l e (headSpec wsX7_copyRow (zR 0 0 0)).room s m (List.toArray [.ref a, .ref b]) below meth c H locs 0 0 (MQ below (zQv (fun H => va_P V.1 vwCl [(b, .inl (V.2.1, k, .inl (fun j => if j < n ∧ j < k then f j else g_ j)))] H) (fun q => q = b)) (List.toArray [.ref a, .ref b]) s 0 0 (fun q => q = b)) (F0 m 2 ls []) := by
    intro n_
    induction n_ with
    | zero => intro i q_ H locs ls hi_ hn_; exact absurd hn_ (by omega)
    | succ n_ ih =>
      intro i q_ H locs ls hi_ hn_ eq_ hP hS hl
      refine lv_iload_n hx hb dX7_copyRow_2 rfl (lv_at hl 0 rfl) ?_
      refine lv_aload_n hx hb dX7_copyRow_3 rfl (lv_at hl 1 rfl) ?_
      refine zo_len (n := n) hx hb (hR0.kept (hS.2.1 a hR0.lt hab)) dX7_copyRow_4 ?_
      refine zb_ge (x := i) (y := n) (tgt := 26) hx hb dX7_copyRow_5 (by decide) (by omega) (by omega) (fun c_5 => ?_) (fun c_5 => ?_)
      · have hq_ : (fun j => if j < n ∧ j < k then f j else g_ j) = q_ := by
          rw [eq_]; funext j; by_cases h : j < i
          · rw [if_pos h, if_pos (by omega)]
          · rw [if_neg h, if_neg (by omega)]
        exact zr_v hx hb hr hlocks hS (by rw [hq_]; exact hP) dX7_copyRow_26
      · refine lv_iload_n hx hb dX7_copyRow_8 rfl (lv_at hl 0 rfl) ?_
        refine lv_aload_n hx hb dX7_copyRow_9 rfl (lv_at hl 2 rfl) ?_
        refine zo_len (n := k) hx hb (zRd_of hE (zP1_at hP)) dX7_copyRow_10 ?_
        refine zb_ge (x := i) (y := k) (tgt := 26) hx hb dX7_copyRow_11 (by decide) (by omega) (by omega) (fun c_11 => ?_) (fun c_11 => ?_)
        · have hq_ : (fun j => if j < n ∧ j < k then f j else g_ j) = q_ := by
            rw [eq_]; funext j; by_cases h : j < i
            · rw [if_pos h, if_pos (by omega)]
            · rw [if_neg h, if_neg (by omega)]
          exact zr_v hx hb hr hlocks hS (by rw [hq_]; exact hP) dX7_copyRow_26
        · refine lv_aload_n hx hb dX7_copyRow_14 rfl (lv_at hl 2 rfl) ?_
          refine lv_iload_n hx hb dX7_copyRow_15 rfl (lv_at hl 0 rfl) ?_
          refine lv_aload_n hx hb dX7_copyRow_16 rfl (lv_at hl 1 rfl) ?_
          refine lv_iload_n hx hb dX7_copyRow_17 rfl (lv_at hl 0 rfl) ?_
          refine zo_rald (k := i) hx hb (hR0.kept (hS.2.1 a hR0.lt hab)) (by omega) (by first | decide | omega) dX7_copyRow_18 ?_
          refine z_iast (k := i) hx hb hE hP (zD1 (by exact rfl)) hS 0 rfl (by omega) (by omega) dX7_copyRow_19 (fun H locs hP hS => ?_)
          obtain ⟨q2_, eq2_⟩ : ∃ z, z = upd q_ i (f i) := ⟨_, rfl⟩
          have hP : va_P V.1 vwCl [(b, .inl (V.2.1, k, .inl q2_))] H := by rw [eq2_]; exact hP
          have e_ : q2_ = fun j => if j < i + 1 then f j else g_ j := by
            rw [eq2_, eq_]; funext j; simp only [upd]; by_cases h1 : j = i
            · subst h1; rw [if_pos rfl, if_pos (by omega)]
            · rw [if_neg h1]; by_cases h2 : j < i
              · rw [if_pos h2, if_pos (by omega)]
              · rw [if_neg h2, if_neg (by omega)]
          refine lv_iinc (v := nI (i + 1)) (lv' := [(2, .int (nI (i + 1))), (0, .ref a), (1, .ref b)]) hx hb dX7_copyRow_20 hl (k := 0) rfl (z_inc1 i) (by decide) rfl (fun ls hl => ?_)
          refine lv_goto (tgt := 2) hx hb dX7_copyRow_23 (by decide) ?_
          exact ih (i + 1) q2_ H locs ls (by omega) (by omega) e_ hP hS (lv_sub hl [0, 1, 2] rfl)
  exact L_2 ((min n k) + 1) 0 g_ s.heap [] ls (by omega) (by omega) (by funext j; rw [if_neg (by omega)]) hP hS (lv_sub hl [0, 1, 2] rfl)
set_option maxHeartbeats 4000000 in
set_option maxRecDepth 100000 in
theorem c_X5_last (l : Launch) (V : zV) (a : Nat) (nx : Option Nat) (f : Nat → Int32) : Met l yX5_last wsX5_last (zR 0 0 0) (zPc V [.ref a] (fun H => va_at V.1 vwCl (a, .inr (5, zsO nx f)) H)) (vp_Si (fun r => r = (f 4 + f 5 - 1))) 0 0 (fun _ => False) := by
  refine Met.ofW (cc := cX5_last) (maxL := 1) (ret := (some .int)) (by decide) rfl ?_
  intro p e s m args below meth c s₁ B hml hv
  obtain ⟨rfl, hP, hE⟩ := hv
  have hx := B.exec
  have hb := B.bytes
  have hr := B.returns
  have hts := atoms_spec (ws := wsX5_last) B.pre
  have hown : s.vm.findClass RX5 = some m.cls := findClass_of_methodNamed B.named
  have hlocks := B.notSynchronized
  have hl := lv_entry ([.ref a]) (n := 1) (Nat.le_of_ble_eq_true rfl)
  rw [lg_entry_eq]
  generalize (lg_sl ([.ref a]) ++ List.replicate (1 - (lg_sl ([.ref a])).length) Slot.unset).toArray = ls at hl ⊢
  have hl : lv_has ls 1 [(0, .ref a)] := hl
  refine lv_aload_n hx hb dX5_last_0 rfl (lv_at hl 0 rfl) ?_
  refine zo_get 4 (.int (f 4)) hx hb hts (fun x h => List.mem_cons_of_mem _ (hU_X5 x h)) hown hE hP (show vwCl[5]? = some (RX5, TX5, 8) from rfl) (by decide) rfl (hts _ (List.mem_cons_of_mem _ uC_31)) (fun _ h9 => h9) dX5_last_1 ?_
  refine lv_aload_n hx hb dX5_last_4 rfl (lv_at hl 0 rfl) ?_
  refine zo_get 5 (.int (f 5)) hx hb hts (fun x h => List.mem_cons_of_mem _ (hU_X5 x h)) hown hE hP (show vwCl[5]? = some (RX5, TX5, 8) from rfl) (by decide) rfl (hts _ (List.mem_cons_of_mem _ uC_32)) (fun _ h9 => h9) dX5_last_5 ?_
  refine lv_iadd hx hb dX5_last_8 ?_
  refine lv_iconst (v := 1) hx hb dX5_last_9 (by decide +kernel) ?_
  refine lv_isub hx hb dX5_last_10 ?_
  exact zr_si hx hb hr hlocks rfl dX5_last_11
set_option maxHeartbeats 4000000 in
set_option maxRecDepth 100000 in
theorem c_X5_isOfSort (l : Launch) (V : zV) (a : Nat) (nx : Option Nat) (f : Nat → Int32) (x : Int32) : Met l yX5_isOfSort wsX5_isOfSort (zR 0 0 0) (zPc V [.ref a, .int x] (fun H => va_at V.1 vwCl (a, .inr (5, zsO nx f)) H)) (vp_Si (fun r => r = (if ¬ f 1 = 0 ∧ f 3 = x then 1 else 0))) 0 0 (fun _ => False) := by
  refine Met.ofW (cc := cX5_isOfSort) (maxL := 2) (ret := (some .boolean)) (by decide) rfl ?_
  intro p e s m args below meth c s₁ B hml hv
  obtain ⟨rfl, hP, hE⟩ := hv
  have hx := B.exec
  have hb := B.bytes
  have hr := B.returns
  have hts := atoms_spec (ws := wsX5_isOfSort) B.pre
  have hown : s.vm.findClass RX5 = some m.cls := findClass_of_methodNamed B.named
  have hlocks := B.notSynchronized
  have hl := lv_entry ([.ref a, .int x]) (n := 2) (Nat.le_of_ble_eq_true rfl)
  rw [lg_entry_eq]
  generalize (lg_sl ([.ref a, .int x]) ++ List.replicate (2 - (lg_sl ([.ref a, .int x])).length) Slot.unset).toArray = ls at hl ⊢
  have hl : lv_has ls 2 [(0, .ref a), (1, .int x)] := hl
  refine lv_aload_n hx hb dX5_isOfSort_0 rfl (lv_at hl 0 rfl) ?_
  refine zo_get 1 (.int (f 1)) hx hb hts (fun x h => List.mem_cons_of_mem _ (hU_X5 x h)) hown hE hP (show vwCl[5]? = some (RX5, TX5, 8) from rfl) (by decide) rfl (hts _ (List.mem_cons_of_mem _ uC_28)) (fun _ h9 => h9) dX5_isOfSort_1 ?_
  refine lv_if_eq (tgt := 19) hx hb dX5_isOfSort_4 (by decide) (fun c_4 => ?_) (fun c_4 => ?_)
  · refine lv_iconst (v := 0) hx hb dX5_isOfSort_19 (by decide +kernel) ?_
    exact zr_sz hx hb hr hlocks (by first | exact Or.inl rfl | exact Or.inr rfl | exact z_ite01 | assumption) ((if_neg (fun h => h.1 c_4)).symm) dX5_isOfSort_20
  · refine lv_aload_n hx hb dX5_isOfSort_7 rfl (lv_at hl 0 rfl) ?_
    refine zo_get 3 (.int (f 3)) hx hb hts (fun x h => List.mem_cons_of_mem _ (hU_X5 x h)) hown hE hP (show vwCl[5]? = some (RX5, TX5, 8) from rfl) (by decide) rfl (hts _ (List.mem_cons_of_mem _ uC_30)) (fun _ h9 => h9) dX5_isOfSort_8 ?_
    refine lv_iload_n hx hb dX5_isOfSort_11 rfl (lv_at hl 1 rfl) ?_
    refine lv_icmp_ne (tgt := 19) hx hb dX5_isOfSort_12 (by decide) (fun c_12 => ?_) (fun c_12 => ?_)
    · refine lv_iconst (v := 0) hx hb dX5_isOfSort_19 (by decide +kernel) ?_
      exact zr_sz hx hb hr hlocks (by first | exact Or.inl rfl | exact Or.inr rfl | exact z_ite01 | assumption) ((if_neg (fun h => c_12 h.2)).symm) dX5_isOfSort_20
    · refine lv_iconst (v := 1) hx hb dX5_isOfSort_15 (by decide +kernel) ?_
      refine lv_goto (tgt := 20) hx hb dX5_isOfSort_16 (by decide) ?_
      exact zr_sz hx hb hr hlocks (by first | exact Or.inl rfl | exact Or.inr rfl | exact z_ite01 | assumption) ((if_pos ⟨c_4, c_12⟩).symm) dX5_isOfSort_20
set_option maxHeartbeats 4000000 in
set_option maxRecDepth 100000 in
theorem c_X5_isAheadOf (l : Launch) (V : zV) (a b : Nat) (nx nx2 : Option Nat) (f f2 : Nat → Int32) : Met l yX5_isAheadOf wsX5_isAheadOf (zR 0 0 0) (zPc V [.ref a, .ref b] (fun H => va_at V.1 vwCl (a, .inr (5, zsO nx f)) H ∧ va_at V.1 vwCl (b, .inr (5, zsO nx2 f2)) H)) (vp_Si (fun r => r = (if f 4 < f2 4 ∨ (f 4 = f2 4 ∧ f 2 < f2 2) then 1 else 0))) 0 0 (fun _ => False) := by
  refine Met.ofW (cc := cX5_isAheadOf) (maxL := 2) (ret := (some .boolean)) (by decide) rfl ?_
  intro p e s m args below meth c s₁ B hml hv
  obtain ⟨rfl, hP, hE⟩ := hv
  have hx := B.exec
  have hb := B.bytes
  have hr := B.returns
  have hts := atoms_spec (ws := wsX5_isAheadOf) B.pre
  have hown : s.vm.findClass RX5 = some m.cls := findClass_of_methodNamed B.named
  have hlocks := B.notSynchronized
  have hl := lv_entry ([.ref a, .ref b]) (n := 2) (Nat.le_of_ble_eq_true rfl)
  rw [lg_entry_eq]
  generalize (lg_sl ([.ref a, .ref b]) ++ List.replicate (2 - (lg_sl ([.ref a, .ref b])).length) Slot.unset).toArray = ls at hl ⊢
  have hl : lv_has ls 2 [(0, .ref a), (1, .ref b)] := hl
  refine lv_aload_n hx hb dX5_isAheadOf_0 rfl (lv_at hl 0 rfl) ?_
  refine zo_get 4 (.int (f 4)) hx hb hts (fun x h => List.mem_cons_of_mem _ (hU_X5 x h)) hown hE hP.1 (show vwCl[5]? = some (RX5, TX5, 8) from rfl) (by decide) rfl (hts _ (List.mem_cons_of_mem _ uC_31)) (fun _ h9 => h9) dX5_isAheadOf_1 ?_
  refine lv_aload_n hx hb dX5_isAheadOf_4 rfl (lv_at hl 1 rfl) ?_
  refine zo_get 4 (.int (f2 4)) hx hb hts (fun x h => List.mem_cons_of_mem _ (hU_X5 x h)) hown hE hP.2 (show vwCl[5]? = some (RX5, TX5, 8) from rfl) (by decide) rfl (hts _ (List.mem_cons_of_mem _ uC_31)) (fun _ h9 => h9) dX5_isAheadOf_5 ?_
  refine lv_icmp_lt (tgt := 33) hx hb dX5_isAheadOf_8 (by decide) (fun c_8 => ?_) (fun c_8 => ?_)
  · refine lv_iconst (v := 1) hx hb dX5_isAheadOf_33 (by decide +kernel) ?_
    refine lv_goto (tgt := 38) hx hb dX5_isAheadOf_34 (by decide) ?_
    exact zr_sz hx hb hr hlocks (by first | exact Or.inl rfl | exact Or.inr rfl | exact z_ite01 | assumption) ((if_pos (Or.inl c_8)).symm) dX5_isAheadOf_38
  · refine lv_aload_n hx hb dX5_isAheadOf_11 rfl (lv_at hl 0 rfl) ?_
    refine zo_get 4 (.int (f 4)) hx hb hts (fun x h => List.mem_cons_of_mem _ (hU_X5 x h)) hown hE hP.1 (show vwCl[5]? = some (RX5, TX5, 8) from rfl) (by decide) rfl (hts _ (List.mem_cons_of_mem _ uC_31)) (fun _ h9 => h9) dX5_isAheadOf_12 ?_
    refine lv_aload_n hx hb dX5_isAheadOf_15 rfl (lv_at hl 1 rfl) ?_
    refine zo_get 4 (.int (f2 4)) hx hb hts (fun x h => List.mem_cons_of_mem _ (hU_X5 x h)) hown hE hP.2 (show vwCl[5]? = some (RX5, TX5, 8) from rfl) (by decide) rfl (hts _ (List.mem_cons_of_mem _ uC_31)) (fun _ h9 => h9) dX5_isAheadOf_16 ?_
    refine lv_icmp_ne (tgt := 37) hx hb dX5_isAheadOf_19 (by decide) (fun c_19 => ?_) (fun c_19 => ?_)
    · refine lv_iconst (v := 0) hx hb dX5_isAheadOf_37 (by decide +kernel) ?_
      exact zr_sz hx hb hr hlocks (by first | exact Or.inl rfl | exact Or.inr rfl | exact z_ite01 | assumption) ((if_neg (fun h => h.elim c_8 (fun q => c_19 q.1))).symm) dX5_isAheadOf_38
    · refine lv_aload_n hx hb dX5_isAheadOf_22 rfl (lv_at hl 0 rfl) ?_
      refine zo_get 2 (.int (f 2)) hx hb hts (fun x h => List.mem_cons_of_mem _ (hU_X5 x h)) hown hE hP.1 (show vwCl[5]? = some (RX5, TX5, 8) from rfl) (by decide) rfl (hts _ (List.mem_cons_of_mem _ uC_29)) (fun _ h9 => h9) dX5_isAheadOf_23 ?_
      refine lv_aload_n hx hb dX5_isAheadOf_26 rfl (lv_at hl 1 rfl) ?_
      refine zo_get 2 (.int (f2 2)) hx hb hts (fun x h => List.mem_cons_of_mem _ (hU_X5 x h)) hown hE hP.2 (show vwCl[5]? = some (RX5, TX5, 8) from rfl) (by decide) rfl (hts _ (List.mem_cons_of_mem _ uC_29)) (fun _ h9 => h9) dX5_isAheadOf_27 ?_
      refine lv_icmp_ge (tgt := 37) hx hb dX5_isAheadOf_30 (by decide) (fun c_30 => ?_) (fun c_30 => ?_)
      · refine lv_iconst (v := 0) hx hb dX5_isAheadOf_37 (by decide +kernel) ?_
        exact zr_sz hx hb hr hlocks (by first | exact Or.inl rfl | exact Or.inr rfl | exact z_ite01 | assumption) ((if_neg (fun h => h.elim c_8 (fun q => z_lt' q.2 c_30))).symm) dX5_isAheadOf_38
      · refine lv_iconst (v := 1) hx hb dX5_isAheadOf_33 (by decide +kernel) ?_
        refine lv_goto (tgt := 38) hx hb dX5_isAheadOf_34 (by decide) ?_
        exact zr_sz hx hb hr hlocks (by first | exact Or.inl rfl | exact Or.inr rfl | exact z_ite01 | assumption) ((if_pos (Or.inr ⟨c_19, z_nle c_30⟩)).symm) dX5_isAheadOf_38
end
