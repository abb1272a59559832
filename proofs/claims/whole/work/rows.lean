section
-- ===== PART A: goes FIRST, ahead of the names: the tables' words, and 'selects' of the private methods out of them =====
/-- a private method of a class that the tables say can be made, by its rows of tables_1 -/
def lw_okq (q : MethodName × Nat) : Prop := (q.1.cls ≠ "java/lang/invoke/MethodHandle" ∧ q.1.cls ≠ "java/lang/invoke/VarHandle") ∧ Cond.instantiable q.1.cls q.2 ∈ tables_1 ∧ Cond.privateMethod q.1 ∈ tables_1 ∧ Cond.instanceMethod q.1 ∈ tables_1
theorem lw_p0 : lw_okq (⟨"ReedBench", "remember", "()V"⟩, 4) := ⟨⟨by decide +kernel, by decide +kernel⟩, List.mem_of_getElem? (i := 15) (by decide +kernel), List.mem_of_getElem? (i := 223) (by decide +kernel), List.mem_of_getElem? (i := 224) (by decide +kernel)⟩
theorem lw_p1 : lw_okq (⟨"ReedBench$History", "keep", "(LReedBench$State;)V"⟩, 3) := ⟨⟨by decide +kernel, by decide +kernel⟩, List.mem_of_getElem? (i := 116) (by decide +kernel), List.mem_of_getElem? (i := 227) (by decide +kernel), List.mem_of_getElem? (i := 228) (by decide +kernel)⟩
theorem lw_p2 : lw_okq (⟨"ReedBench$State", "copyFrom", "(LReedBench$State;)V"⟩, 8) := ⟨⟨by decide +kernel, by decide +kernel⟩, List.mem_of_getElem? (i := 23) (by decide +kernel), List.mem_of_getElem? (i := 231) (by decide +kernel), List.mem_of_getElem? (i := 232) (by decide +kernel)⟩
theorem lw_p3 : lw_okq (⟨"ReedBench$Reed", "copyFrom", "(LReedBench$Reed;)V"⟩, 7) := ⟨⟨by decide +kernel, by decide +kernel⟩, List.mem_of_getElem? (i := 30) (by decide +kernel), List.mem_of_getElem? (i := 235) (by decide +kernel), List.mem_of_getElem? (i := 236) (by decide +kernel)⟩
theorem lw_p4 : lw_okq (⟨"ReedBench$Plan", "forget", "()V"⟩, 9) := ⟨⟨by decide +kernel, by decide +kernel⟩, List.mem_of_getElem? (i := 153) (by decide +kernel), List.mem_of_getElem? (i := 245) (by decide +kernel), List.mem_of_getElem? (i := 246) (by decide +kernel)⟩
theorem lw_p5 : lw_okq (⟨"ReedBench$Reed", "begin", "(III)V"⟩, 7) := ⟨⟨by decide +kernel, by decide +kernel⟩, List.mem_of_getElem? (i := 30) (by decide +kernel), List.mem_of_getElem? (i := 249) (by decide +kernel), List.mem_of_getElem? (i := 250) (by decide +kernel)⟩
theorem lw_p6 : lw_okq (⟨"ReedBench$State", "isFree", "(I)Z"⟩, 8) := ⟨⟨by decide +kernel, by decide +kernel⟩, List.mem_of_getElem? (i := 23) (by decide +kernel), List.mem_of_getElem? (i := 257) (by decide +kernel), List.mem_of_getElem? (i := 258) (by decide +kernel)⟩
theorem lw_p7 : lw_okq (⟨"ReedBench$State", "hasReed", "(I)Z"⟩, 8) := ⟨⟨by decide +kernel, by decide +kernel⟩, List.mem_of_getElem? (i := 23) (by decide +kernel), List.mem_of_getElem? (i := 261) (by decide +kernel), List.mem_of_getElem? (i := 262) (by decide +kernel)⟩
theorem lw_p8 : lw_okq (⟨"ReedBench$Reed", "bears", "(II)Z"⟩, 7) := ⟨⟨by decide +kernel, by decide +kernel⟩, List.mem_of_getElem? (i := 30) (by decide +kernel), List.mem_of_getElem? (i := 287) (by decide +kernel), List.mem_of_getElem? (i := 288) (by decide +kernel)⟩
theorem lw_p9 : lw_okq (⟨"ReedBench$Reed", "takeStrokes", "(III)V"⟩, 7) := ⟨⟨by decide +kernel, by decide +kernel⟩, List.mem_of_getElem? (i := 30) (by decide +kernel), List.mem_of_getElem? (i := 293) (by decide +kernel), List.mem_of_getElem? (i := 294) (by decide +kernel)⟩
theorem lw_p10 : lw_okq (⟨"ReedBench", "beatBound", "(I)I"⟩, 4) := ⟨⟨by decide +kernel, by decide +kernel⟩, List.mem_of_getElem? (i := 15) (by decide +kernel), List.mem_of_getElem? (i := 301) (by decide +kernel), List.mem_of_getElem? (i := 302) (by decide +kernel)⟩
theorem lw_p11 : lw_okq (⟨"ReedBench$State", "isBound", "(I)Z"⟩, 8) := ⟨⟨by decide +kernel, by decide +kernel⟩, List.mem_of_getElem? (i := 23) (by decide +kernel), List.mem_of_getElem? (i := 305) (by decide +kernel), List.mem_of_getElem? (i := 306) (by decide +kernel)⟩
theorem lw_p12 : lw_okq (⟨"ReedBench$State", "freeReeds", "()I"⟩, 8) := ⟨⟨by decide +kernel, by decide +kernel⟩, List.mem_of_getElem? (i := 23) (by decide +kernel), List.mem_of_getElem? (i := 309) (by decide +kernel), List.mem_of_getElem? (i := 310) (by decide +kernel)⟩
theorem lw_p13 : lw_okq (⟨"ReedBench$State", "wantedSlots", "()I"⟩, 8) := ⟨⟨by decide +kernel, by decide +kernel⟩, List.mem_of_getElem? (i := 23) (by decide +kernel), List.mem_of_getElem? (i := 320) (by decide +kernel), List.mem_of_getElem? (i := 321) (by decide +kernel)⟩
theorem lw_p14 : lw_okq (⟨"ReedBench$State", "isWanted", "(I)Z"⟩, 8) := ⟨⟨by decide +kernel, by decide +kernel⟩, List.mem_of_getElem? (i := 23) (by decide +kernel), List.mem_of_getElem? (i := 324) (by decide +kernel), List.mem_of_getElem? (i := 325) (by decide +kernel)⟩
theorem lw_p15 : lw_okq (⟨"ReedBench$Works", "slotKey", "(LReedBench$State;II)I"⟩, 3) := ⟨⟨by decide +kernel, by decide +kernel⟩, List.mem_of_getElem? (i := 135) (by decide +kernel), List.mem_of_getElem? (i := 338) (by decide +kernel), List.mem_of_getElem? (i := 339) (by decide +kernel)⟩
def lw_privs_1 : List (MethodName × Nat) := [(⟨"ReedBench", "remember", "()V"⟩, 4), (⟨"ReedBench$History", "keep", "(LReedBench$State;)V"⟩, 3), (⟨"ReedBench$State", "copyFrom", "(LReedBench$State;)V"⟩, 8), (⟨"ReedBench$Reed", "copyFrom", "(LReedBench$Reed;)V"⟩, 7), (⟨"ReedBench$Plan", "forget", "()V"⟩, 9), (⟨"ReedBench$Reed", "begin", "(III)V"⟩, 7), (⟨"ReedBench$State", "isFree", "(I)Z"⟩, 8), (⟨"ReedBench$State", "hasReed", "(I)Z"⟩, 8), (⟨"ReedBench$Reed", "bears", "(II)Z"⟩, 7), (⟨"ReedBench$Reed", "takeStrokes", "(III)V"⟩, 7), (⟨"ReedBench", "beatBound", "(I)I"⟩, 4), (⟨"ReedBench$State", "isBound", "(I)Z"⟩, 8), (⟨"ReedBench$State", "freeReeds", "()I"⟩, 8), (⟨"ReedBench$State", "wantedSlots", "()I"⟩, 8), (⟨"ReedBench$State", "isWanted", "(I)Z"⟩, 8), (⟨"ReedBench$Works", "slotKey", "(LReedBench$State;II)I"⟩, 3)]
theorem lw_r1 : ∀ q ∈ lw_privs_1, lw_okq q := List.forall_mem_cons.mpr ⟨lw_p0, List.forall_mem_cons.mpr ⟨lw_p1, List.forall_mem_cons.mpr ⟨lw_p2, List.forall_mem_cons.mpr ⟨lw_p3, List.forall_mem_cons.mpr ⟨lw_p4, List.forall_mem_cons.mpr ⟨lw_p5, List.forall_mem_cons.mpr ⟨lw_p6, List.forall_mem_cons.mpr ⟨lw_p7, List.forall_mem_cons.mpr ⟨lw_p8, List.forall_mem_cons.mpr ⟨lw_p9, List.forall_mem_cons.mpr ⟨lw_p10, List.forall_mem_cons.mpr ⟨lw_p11, List.forall_mem_cons.mpr ⟨lw_p12, List.forall_mem_cons.mpr ⟨lw_p13, List.forall_mem_cons.mpr ⟨lw_p14, List.forall_mem_cons.mpr ⟨lw_p15, fun _ h => absurd h List.not_mem_nil⟩⟩⟩⟩⟩⟩⟩⟩⟩⟩⟩⟩⟩⟩⟩⟩
theorem lw_p16 : lw_okq (⟨"ReedBench$State", "isWantedPair", "(I)Z"⟩, 8) := ⟨⟨by decide +kernel, by decide +kernel⟩, List.mem_of_getElem? (i := 23) (by decide +kernel), List.mem_of_getElem? (i := 366) (by decide +kernel), List.mem_of_getElem? (i := 367) (by decide +kernel)⟩
theorem lw_p17 : lw_okq (⟨"ReedBench$Works", "pairKey", "(LReedBench$State;III)I"⟩, 3) := ⟨⟨by decide +kernel, by decide +kernel⟩, List.mem_of_getElem? (i := 135) (by decide +kernel), List.mem_of_getElem? (i := 370) (by decide +kernel), List.mem_of_getElem? (i := 371) (by decide +kernel)⟩
theorem lw_p18 : lw_okq (⟨"ReedBench$Works", "fillFirst", "(LReedBench$State;II)V"⟩, 3) := ⟨⟨by decide +kernel, by decide +kernel⟩, List.mem_of_getElem? (i := 135) (by decide +kernel), List.mem_of_getElem? (i := 374) (by decide +kernel), List.mem_of_getElem? (i := 375) (by decide +kernel)⟩
theorem lw_p19 : lw_okq (⟨"ReedBench$Works", "fillPartner", "(LReedBench$State;II)V"⟩, 3) := ⟨⟨by decide +kernel, by decide +kernel⟩, List.mem_of_getElem? (i := 135) (by decide +kernel), List.mem_of_getElem? (i := 378) (by decide +kernel), List.mem_of_getElem? (i := 379) (by decide +kernel)⟩
theorem lw_p20 : lw_okq (⟨"ReedBench$Works", "joinWithPartner", "(LReedBench$State;I)I"⟩, 3) := ⟨⟨by decide +kernel, by decide +kernel⟩, List.mem_of_getElem? (i := 135) (by decide +kernel), List.mem_of_getElem? (i := 389) (by decide +kernel), List.mem_of_getElem? (i := 390) (by decide +kernel)⟩
theorem lw_p21 : lw_okq (⟨"ReedBench$Plan", "settle", "(LReedBench$State;LReedBench$Works;)V"⟩, 9) := ⟨⟨by decide +kernel, by decide +kernel⟩, List.mem_of_getElem? (i := 153) (by decide +kernel), List.mem_of_getElem? (i := 420) (by decide +kernel), List.mem_of_getElem? (i := 421) (by decide +kernel)⟩
theorem lw_p22 : lw_okq (⟨"ReedBench$Costs", "reckon", "(LReedBench$State;LReedBench$Works;)V"⟩, 2) := ⟨⟨by decide +kernel, by decide +kernel⟩, List.mem_of_getElem? (i := 159) (by decide +kernel), List.mem_of_getElem? (i := 424) (by decide +kernel), List.mem_of_getElem? (i := 425) (by decide +kernel)⟩
theorem lw_p23 : lw_okq (⟨"ReedBench$Costs", "reckonSlot", "(LReedBench$State;LReedBench$Works;I)V"⟩, 2) := ⟨⟨by decide +kernel, by decide +kernel⟩, List.mem_of_getElem? (i := 159) (by decide +kernel), List.mem_of_getElem? (i := 431) (by decide +kernel), List.mem_of_getElem? (i := 432) (by decide +kernel)⟩
theorem lw_p24 : lw_okq (⟨"ReedBench$State", "mustBeat", "(I)Z"⟩, 8) := ⟨⟨by decide +kernel, by decide +kernel⟩, List.mem_of_getElem? (i := 23) (by decide +kernel), List.mem_of_getElem? (i := 438) (by decide +kernel), List.mem_of_getElem? (i := 439) (by decide +kernel)⟩
theorem lw_p25 : lw_okq (⟨"ReedBench$Costs", "reckonPair", "(LReedBench$State;LReedBench$Works;I)V"⟩, 2) := ⟨⟨by decide +kernel, by decide +kernel⟩, List.mem_of_getElem? (i := 159) (by decide +kernel), List.mem_of_getElem? (i := 444) (by decide +kernel), List.mem_of_getElem? (i := 445) (by decide +kernel)⟩
theorem lw_p26 : lw_okq (⟨"ReedBench$Costs", "ofSlot", "(II)I"⟩, 2) := ⟨⟨by decide +kernel, by decide +kernel⟩, List.mem_of_getElem? (i := 159) (by decide +kernel), List.mem_of_getElem? (i := 448) (by decide +kernel), List.mem_of_getElem? (i := 449) (by decide +kernel)⟩
theorem lw_p27 : lw_okq (⟨"ReedBench$Costs", "reckonPartner", "(LReedBench$State;LReedBench$Works;II)V"⟩, 2) := ⟨⟨by decide +kernel, by decide +kernel⟩, List.mem_of_getElem? (i := 159) (by decide +kernel), List.mem_of_getElem? (i := 454) (by decide +kernel), List.mem_of_getElem? (i := 455) (by decide +kernel)⟩
theorem lw_p28 : lw_okq (⟨"ReedBench$Plan", "putInOrder", "(LReedBench$State;)V"⟩, 9) := ⟨⟨by decide +kernel, by decide +kernel⟩, List.mem_of_getElem? (i := 153) (by decide +kernel), List.mem_of_getElem? (i := 460) (by decide +kernel), List.mem_of_getElem? (i := 461) (by decide +kernel)⟩
theorem lw_p29 : lw_okq (⟨"ReedBench$Plan", "fillRows", "(LReedBench$State;)V"⟩, 9) := ⟨⟨by decide +kernel, by decide +kernel⟩, List.mem_of_getElem? (i := 153) (by decide +kernel), List.mem_of_getElem? (i := 465) (by decide +kernel), List.mem_of_getElem? (i := 466) (by decide +kernel)⟩
theorem lw_p30 : lw_okq (⟨"ReedBench$Plan", "fillNext", "(LReedBench$State;III)V"⟩, 9) := ⟨⟨by decide +kernel, by decide +kernel⟩, List.mem_of_getElem? (i := 153) (by decide +kernel), List.mem_of_getElem? (i := 472) (by decide +kernel), List.mem_of_getElem? (i := 473) (by decide +kernel)⟩
theorem lw_p31 : lw_okq (⟨"ReedBench$Plan", "fillBySlot", "(III)V"⟩, 9) := ⟨⟨by decide +kernel, by decide +kernel⟩, List.mem_of_getElem? (i := 153) (by decide +kernel), List.mem_of_getElem? (i := 477) (by decide +kernel), List.mem_of_getElem? (i := 478) (by decide +kernel)⟩
def lw_privs_2 : List (MethodName × Nat) := [(⟨"ReedBench$State", "isWantedPair", "(I)Z"⟩, 8), (⟨"ReedBench$Works", "pairKey", "(LReedBench$State;III)I"⟩, 3), (⟨"ReedBench$Works", "fillFirst", "(LReedBench$State;II)V"⟩, 3), (⟨"ReedBench$Works", "fillPartner", "(LReedBench$State;II)V"⟩, 3), (⟨"ReedBench$Works", "joinWithPartner", "(LReedBench$State;I)I"⟩, 3), (⟨"ReedBench$Plan", "settle", "(LReedBench$State;LReedBench$Works;)V"⟩, 9), (⟨"ReedBench$Costs", "reckon", "(LReedBench$State;LReedBench$Works;)V"⟩, 2), (⟨"ReedBench$Costs", "reckonSlot", "(LReedBench$State;LReedBench$Works;I)V"⟩, 2), (⟨"ReedBench$State", "mustBeat", "(I)Z"⟩, 8), (⟨"ReedBench$Costs", "reckonPair", "(LReedBench$State;LReedBench$Works;I)V"⟩, 2), (⟨"ReedBench$Costs", "ofSlot", "(II)I"⟩, 2), (⟨"ReedBench$Costs", "reckonPartner", "(LReedBench$State;LReedBench$Works;II)V"⟩, 2), (⟨"ReedBench$Plan", "putInOrder", "(LReedBench$State;)V"⟩, 9), (⟨"ReedBench$Plan", "fillRows", "(LReedBench$State;)V"⟩, 9), (⟨"ReedBench$Plan", "fillNext", "(LReedBench$State;III)V"⟩, 9), (⟨"ReedBench$Plan", "fillBySlot", "(III)V"⟩, 9)]
theorem lw_r2 : ∀ q ∈ lw_privs_2, lw_okq q := List.forall_mem_cons.mpr ⟨lw_p16, List.forall_mem_cons.mpr ⟨lw_p17, List.forall_mem_cons.mpr ⟨lw_p18, List.forall_mem_cons.mpr ⟨lw_p19, List.forall_mem_cons.mpr ⟨lw_p20, List.forall_mem_cons.mpr ⟨lw_p21, List.forall_mem_cons.mpr ⟨lw_p22, List.forall_mem_cons.mpr ⟨lw_p23, List.forall_mem_cons.mpr ⟨lw_p24, List.forall_mem_cons.mpr ⟨lw_p25, List.forall_mem_cons.mpr ⟨lw_p26, List.forall_mem_cons.mpr ⟨lw_p27, List.forall_mem_cons.mpr ⟨lw_p28, List.forall_mem_cons.mpr ⟨lw_p29, List.forall_mem_cons.mpr ⟨lw_p30, List.forall_mem_cons.mpr ⟨lw_p31, fun _ h => absurd h List.not_mem_nil⟩⟩⟩⟩⟩⟩⟩⟩⟩⟩⟩⟩⟩⟩⟩⟩
theorem lw_p32 : lw_okq (⟨"ReedBench$Plan", "offer", "(III)V"⟩, 9) := ⟨⟨by decide +kernel, by decide +kernel⟩, List.mem_of_getElem? (i := 153) (by decide +kernel), List.mem_of_getElem? (i := 482) (by decide +kernel), List.mem_of_getElem? (i := 483) (by decide +kernel)⟩
theorem lw_p33 : lw_okq (⟨"ReedBench$Plan", "fillByPair", "(III)V"⟩, 9) := ⟨⟨by decide +kernel, by decide +kernel⟩, List.mem_of_getElem? (i := 153) (by decide +kernel), List.mem_of_getElem? (i := 486) (by decide +kernel), List.mem_of_getElem? (i := 487) (by decide +kernel)⟩
theorem lw_p34 : lw_okq (⟨"ReedBench$Costs", "ofPair", "(III)I"⟩, 2) := ⟨⟨by decide +kernel, by decide +kernel⟩, List.mem_of_getElem? (i := 159) (by decide +kernel), List.mem_of_getElem? (i := 490) (by decide +kernel), List.mem_of_getElem? (i := 491) (by decide +kernel)⟩
theorem lw_p35 : lw_okq (⟨"ReedBench$Plan", "exists", "()Z"⟩, 9) := ⟨⟨by decide +kernel, by decide +kernel⟩, List.mem_of_getElem? (i := 153) (by decide +kernel), List.mem_of_getElem? (i := 495) (by decide +kernel), List.mem_of_getElem? (i := 496) (by decide +kernel)⟩
theorem lw_p36 : lw_okq (⟨"ReedBench$Plan", "choose", "(LReedBench$State;)V"⟩, 9) := ⟨⟨by decide +kernel, by decide +kernel⟩, List.mem_of_getElem? (i := 153) (by decide +kernel), List.mem_of_getElem? (i := 499) (by decide +kernel), List.mem_of_getElem? (i := 500) (by decide +kernel)⟩
theorem lw_p37 : lw_okq (⟨"ReedBench$Plan", "choosePair", "(II)I"⟩, 9) := ⟨⟨by decide +kernel, by decide +kernel⟩, List.mem_of_getElem? (i := 153) (by decide +kernel), List.mem_of_getElem? (i := 503) (by decide +kernel), List.mem_of_getElem? (i := 504) (by decide +kernel)⟩
theorem lw_p38 : lw_okq (⟨"ReedBench$Plan", "leads", "(III)Z"⟩, 9) := ⟨⟨by decide +kernel, by decide +kernel⟩, List.mem_of_getElem? (i := 153) (by decide +kernel), List.mem_of_getElem? (i := 507) (by decide +kernel), List.mem_of_getElem? (i := 508) (by decide +kernel)⟩
theorem lw_p39 : lw_okq (⟨"ReedBench$Plan", "chooseSlot", "(II)I"⟩, 9) := ⟨⟨by decide +kernel, by decide +kernel⟩, List.mem_of_getElem? (i := 153) (by decide +kernel), List.mem_of_getElem? (i := 511) (by decide +kernel), List.mem_of_getElem? (i := 512) (by decide +kernel)⟩
theorem lw_p40 : lw_okq (⟨"ReedBench$Plan", "carryOut", "(LReedBench$State;LReedBench$Works;)V"⟩, 9) := ⟨⟨by decide +kernel, by decide +kernel⟩, List.mem_of_getElem? (i := 153) (by decide +kernel), List.mem_of_getElem? (i := 524) (by decide +kernel), List.mem_of_getElem? (i := 525) (by decide +kernel)⟩
theorem lw_p41 : lw_okq (⟨"ReedBench$Plan", "setPair", "(LReedBench$State;LReedBench$Works;I)V"⟩, 9) := ⟨⟨by decide +kernel, by decide +kernel⟩, List.mem_of_getElem? (i := 153) (by decide +kernel), List.mem_of_getElem? (i := 528) (by decide +kernel), List.mem_of_getElem? (i := 529) (by decide +kernel)⟩
theorem lw_p42 : lw_okq (⟨"ReedBench$Reed", "putInto", "(II)V"⟩, 7) := ⟨⟨by decide +kernel, by decide +kernel⟩, List.mem_of_getElem? (i := 30) (by decide +kernel), List.mem_of_getElem? (i := 539) (by decide +kernel), List.mem_of_getElem? (i := 540) (by decide +kernel)⟩
theorem lw_p43 : lw_okq (⟨"ReedBench$Plan", "setSlot", "(LReedBench$State;LReedBench$Works;I)V"⟩, 9) := ⟨⟨by decide +kernel, by decide +kernel⟩, List.mem_of_getElem? (i := 153) (by decide +kernel), List.mem_of_getElem? (i := 543) (by decide +kernel), List.mem_of_getElem? (i := 544) (by decide +kernel)⟩
theorem lw_p44 : lw_okq (⟨"ReedBench$Plan", "fewestLeftOut", "(LReedBench$State;)I"⟩, 9) := ⟨⟨by decide +kernel, by decide +kernel⟩, List.mem_of_getElem? (i := 153) (by decide +kernel), List.mem_of_getElem? (i := 554) (by decide +kernel), List.mem_of_getElem? (i := 555) (by decide +kernel)⟩
theorem lw_p45 : lw_okq (⟨"ReedBench$History", "takeBack", "(LReedBench$State;)Z"⟩, 3) := ⟨⟨by decide +kernel, by decide +kernel⟩, List.mem_of_getElem? (i := 116) (by decide +kernel), List.mem_of_getElem? (i := 586) (by decide +kernel), List.mem_of_getElem? (i := 587) (by decide +kernel)⟩
theorem lw_p46 : lw_okq (⟨"ReedBenchModel", "begins", "()V"⟩, 23) := ⟨⟨by decide +kernel, by decide +kernel⟩, List.mem_of_getElem? (i := 590) (by decide +kernel), List.mem_of_getElem? (i := 670) (by decide +kernel), List.mem_of_getElem? (i := 671) (by decide +kernel)⟩
theorem lw_p47 : lw_okq (⟨"ReedBenchModel", "keep", "()V"⟩, 23) := ⟨⟨by decide +kernel, by decide +kernel⟩, List.mem_of_getElem? (i := 590) (by decide +kernel), List.mem_of_getElem? (i := 678) (by decide +kernel), List.mem_of_getElem? (i := 679) (by decide +kernel)⟩
def lw_privs_3 : List (MethodName × Nat) := [(⟨"ReedBench$Plan", "offer", "(III)V"⟩, 9), (⟨"ReedBench$Plan", "fillByPair", "(III)V"⟩, 9), (⟨"ReedBench$Costs", "ofPair", "(III)I"⟩, 2), (⟨"ReedBench$Plan", "exists", "()Z"⟩, 9), (⟨"ReedBench$Plan", "choose", "(LReedBench$State;)V"⟩, 9), (⟨"ReedBench$Plan", "choosePair", "(II)I"⟩, 9), (⟨"ReedBench$Plan", "leads", "(III)Z"⟩, 9), (⟨"ReedBench$Plan", "chooseSlot", "(II)I"⟩, 9), (⟨"ReedBench$Plan", "carryOut", "(LReedBench$State;LReedBench$Works;)V"⟩, 9), (⟨"ReedBench$Plan", "setPair", "(LReedBench$State;LReedBench$Works;I)V"⟩, 9), (⟨"ReedBench$Reed", "putInto", "(II)V"⟩, 7), (⟨"ReedBench$Plan", "setSlot", "(LReedBench$State;LReedBench$Works;I)V"⟩, 9), (⟨"ReedBench$Plan", "fewestLeftOut", "(LReedBench$State;)I"⟩, 9), (⟨"ReedBench$History", "takeBack", "(LReedBench$State;)Z"⟩, 3), (⟨"ReedBenchModel", "begins", "()V"⟩, 23), (⟨"ReedBenchModel", "keep", "()V"⟩, 23)]
theorem lw_r3 : ∀ q ∈ lw_privs_3, lw_okq q := List.forall_mem_cons.mpr ⟨lw_p32, List.forall_mem_cons.mpr ⟨lw_p33, List.forall_mem_cons.mpr ⟨lw_p34, List.forall_mem_cons.mpr ⟨lw_p35, List.forall_mem_cons.mpr ⟨lw_p36, List.forall_mem_cons.mpr ⟨lw_p37, List.forall_mem_cons.mpr ⟨lw_p38, List.forall_mem_cons.mpr ⟨lw_p39, List.forall_mem_cons.mpr ⟨lw_p40, List.forall_mem_cons.mpr ⟨lw_p41, List.forall_mem_cons.mpr ⟨lw_p42, List.forall_mem_cons.mpr ⟨lw_p43, List.forall_mem_cons.mpr ⟨lw_p44, List.forall_mem_cons.mpr ⟨lw_p45, List.forall_mem_cons.mpr ⟨lw_p46, List.forall_mem_cons.mpr ⟨lw_p47, fun _ h => absurd h List.not_mem_nil⟩⟩⟩⟩⟩⟩⟩⟩⟩⟩⟩⟩⟩⟩⟩⟩
theorem lw_p48 : lw_okq (⟨"ReedBenchModel", "isReed", "(I)Z"⟩, 23) := ⟨⟨by decide +kernel, by decide +kernel⟩, List.mem_of_getElem? (i := 590) (by decide +kernel), List.mem_of_getElem? (i := 686) (by decide +kernel), List.mem_of_getElem? (i := 687) (by decide +kernel)⟩
theorem lw_p49 : lw_okq (⟨"ReedBenchModel", "isFree", "(I)Z"⟩, 23) := ⟨⟨by decide +kernel, by decide +kernel⟩, List.mem_of_getElem? (i := 590) (by decide +kernel), List.mem_of_getElem? (i := 690) (by decide +kernel), List.mem_of_getElem? (i := 691) (by decide +kernel)⟩
theorem lw_p50 : lw_okq (⟨"ReedBenchModel", "reedAt", "(II)I"⟩, 23) := ⟨⟨by decide +kernel, by decide +kernel⟩, List.mem_of_getElem? (i := 590) (by decide +kernel), List.mem_of_getElem? (i := 694) (by decide +kernel), List.mem_of_getElem? (i := 695) (by decide +kernel)⟩
theorem lw_p51 : lw_okq (⟨"ReedBenchModel", "canFile", "(III)Z"⟩, 23) := ⟨⟨by decide +kernel, by decide +kernel⟩, List.mem_of_getElem? (i := 590) (by decide +kernel), List.mem_of_getElem? (i := 718) (by decide +kernel), List.mem_of_getElem? (i := 719) (by decide +kernel)⟩
theorem lw_p52 : lw_okq (⟨"ReedBenchModel", "files", "(III)V"⟩, 23) := ⟨⟨by decide +kernel, by decide +kernel⟩, List.mem_of_getElem? (i := 590) (by decide +kernel), List.mem_of_getElem? (i := 723) (by decide +kernel), List.mem_of_getElem? (i := 724) (by decide +kernel)⟩
theorem lw_p53 : lw_okq (⟨"ReedBenchModel", "pitch", "(III)I"⟩, 23) := ⟨⟨by decide +kernel, by decide +kernel⟩, List.mem_of_getElem? (i := 590) (by decide +kernel), List.mem_of_getElem? (i := 727) (by decide +kernel), List.mem_of_getElem? (i := 728) (by decide +kernel)⟩
theorem lw_p54 : lw_okq (⟨"ReedBenchModel", "isWanted", "(I)Z"⟩, 23) := ⟨⟨by decide +kernel, by decide +kernel⟩, List.mem_of_getElem? (i := 590) (by decide +kernel), List.mem_of_getElem? (i := 735) (by decide +kernel), List.mem_of_getElem? (i := 736) (by decide +kernel)⟩
theorem lw_p55 : lw_okq (⟨"ReedBenchModel", "beats", "(I)Z"⟩, 23) := ⟨⟨by decide +kernel, by decide +kernel⟩, List.mem_of_getElem? (i := 590) (by decide +kernel), List.mem_of_getElem? (i := 739) (by decide +kernel), List.mem_of_getElem? (i := 740) (by decide +kernel)⟩
theorem lw_p56 : lw_okq (⟨"ReedBenchModel", "works", "(II)Z"⟩, 23) := ⟨⟨by decide +kernel, by decide +kernel⟩, List.mem_of_getElem? (i := 590) (by decide +kernel), List.mem_of_getElem? (i := 751) (by decide +kernel), List.mem_of_getElem? (i := 752) (by decide +kernel)⟩
theorem lw_p57 : lw_okq (⟨"ReedBenchModel", "reach", "(III)V"⟩, 23) := ⟨⟨by decide +kernel, by decide +kernel⟩, List.mem_of_getElem? (i := 590) (by decide +kernel), List.mem_of_getElem? (i := 755) (by decide +kernel), List.mem_of_getElem? (i := 756) (by decide +kernel)⟩
theorem lw_p58 : lw_okq (⟨"ReedBenchModel", "pairWorks", "(III)Z"⟩, 23) := ⟨⟨by decide +kernel, by decide +kernel⟩, List.mem_of_getElem? (i := 590) (by decide +kernel), List.mem_of_getElem? (i := 764) (by decide +kernel), List.mem_of_getElem? (i := 765) (by decide +kernel)⟩
theorem lw_p59 : lw_okq (⟨"ReedBenchModel", "takesLay", "()Z"⟩, 23) := ⟨⟨by decide +kernel, by decide +kernel⟩, List.mem_of_getElem? (i := 590) (by decide +kernel), List.mem_of_getElem? (i := 772) (by decide +kernel), List.mem_of_getElem? (i := 773) (by decide +kernel)⟩
theorem lw_p60 : lw_okq (⟨"ReedBenchModel", "findLays", "()V"⟩, 23) := ⟨⟨by decide +kernel, by decide +kernel⟩, List.mem_of_getElem? (i := 590) (by decide +kernel), List.mem_of_getElem? (i := 776) (by decide +kernel), List.mem_of_getElem? (i := 777) (by decide +kernel)⟩
theorem lw_p61 : lw_okq (⟨"ReedBenchModel", "findCosts", "()V"⟩, 23) := ⟨⟨by decide +kernel, by decide +kernel⟩, List.mem_of_getElem? (i := 590) (by decide +kernel), List.mem_of_getElem? (i := 780) (by decide +kernel), List.mem_of_getElem? (i := 781) (by decide +kernel)⟩
theorem lw_p62 : lw_okq (⟨"ReedBenchModel", "comes", "(II)V"⟩, 23) := ⟨⟨by decide +kernel, by decide +kernel⟩, List.mem_of_getElem? (i := 590) (by decide +kernel), List.mem_of_getElem? (i := 784) (by decide +kernel), List.mem_of_getElem? (i := 785) (by decide +kernel)⟩
theorem lw_p63 : lw_okq (⟨"ReedBenchModel", "has", "(II)Z"⟩, 23) := ⟨⟨by decide +kernel, by decide +kernel⟩, List.mem_of_getElem? (i := 590) (by decide +kernel), List.mem_of_getElem? (i := 788) (by decide +kernel), List.mem_of_getElem? (i := 789) (by decide +kernel)⟩
def lw_privs_4 : List (MethodName × Nat) := [(⟨"ReedBenchModel", "isReed", "(I)Z"⟩, 23), (⟨"ReedBenchModel", "isFree", "(I)Z"⟩, 23), (⟨"ReedBenchModel", "reedAt", "(II)I"⟩, 23), (⟨"ReedBenchModel", "canFile", "(III)Z"⟩, 23), (⟨"ReedBenchModel", "files", "(III)V"⟩, 23), (⟨"ReedBenchModel", "pitch", "(III)I"⟩, 23), (⟨"ReedBenchModel", "isWanted", "(I)Z"⟩, 23), (⟨"ReedBenchModel", "beats", "(I)Z"⟩, 23), (⟨"ReedBenchModel", "works", "(II)Z"⟩, 23), (⟨"ReedBenchModel", "reach", "(III)V"⟩, 23), (⟨"ReedBenchModel", "pairWorks", "(III)Z"⟩, 23), (⟨"ReedBenchModel", "takesLay", "()Z"⟩, 23), (⟨"ReedBenchModel", "findLays", "()V"⟩, 23), (⟨"ReedBenchModel", "findCosts", "()V"⟩, 23), (⟨"ReedBenchModel", "comes", "(II)V"⟩, 23), (⟨"ReedBenchModel", "has", "(II)Z"⟩, 23)]
theorem lw_r4 : ∀ q ∈ lw_privs_4, lw_okq q := List.forall_mem_cons.mpr ⟨lw_p48, List.forall_mem_cons.mpr ⟨lw_p49, List.forall_mem_cons.mpr ⟨lw_p50, List.forall_mem_cons.mpr ⟨lw_p51, List.forall_mem_cons.mpr ⟨lw_p52, List.forall_mem_cons.mpr ⟨lw_p53, List.forall_mem_cons.mpr ⟨lw_p54, List.forall_mem_cons.mpr ⟨lw_p55, List.forall_mem_cons.mpr ⟨lw_p56, List.forall_mem_cons.mpr ⟨lw_p57, List.forall_mem_cons.mpr ⟨lw_p58, List.forall_mem_cons.mpr ⟨lw_p59, List.forall_mem_cons.mpr ⟨lw_p60, List.forall_mem_cons.mpr ⟨lw_p61, List.forall_mem_cons.mpr ⟨lw_p62, List.forall_mem_cons.mpr ⟨lw_p63, fun _ h => absurd h List.not_mem_nil⟩⟩⟩⟩⟩⟩⟩⟩⟩⟩⟩⟩⟩⟩⟩⟩
theorem lw_p64 : lw_okq (⟨"ReedBenchModel", "fits", "(III)Z"⟩, 23) := ⟨⟨by decide +kernel, by decide +kernel⟩, List.mem_of_getElem? (i := 590) (by decide +kernel), List.mem_of_getElem? (i := 792) (by decide +kernel), List.mem_of_getElem? (i := 793) (by decide +kernel)⟩
theorem lw_p65 : lw_okq (⟨"ReedBenchModel", "sets", "(III)V"⟩, 23) := ⟨⟨by decide +kernel, by decide +kernel⟩, List.mem_of_getElem? (i := 590) (by decide +kernel), List.mem_of_getElem? (i := 804) (by decide +kernel), List.mem_of_getElem? (i := 805) (by decide +kernel)⟩
def lw_privs_5 : List (MethodName × Nat) := [(⟨"ReedBenchModel", "fits", "(III)Z"⟩, 23), (⟨"ReedBenchModel", "sets", "(III)V"⟩, 23)]
theorem lw_r5 : ∀ q ∈ lw_privs_5, lw_okq q := List.forall_mem_cons.mpr ⟨lw_p64, List.forall_mem_cons.mpr ⟨lw_p65, fun _ h => absurd h List.not_mem_nil⟩⟩
def lw_privs : List (MethodName × Nat) := lw_privs_1 ++ (lw_privs_2 ++ (lw_privs_3 ++ (lw_privs_4 ++ (lw_privs_5))))
def lw_tbl : List Cond := k2_sels lw_privs ++ tables_1
theorem lw_privs_ok : ∀ q ∈ lw_privs, lw_okq q := by
  show ∀ q ∈ lw_privs_1 ++ (lw_privs_2 ++ (lw_privs_3 ++ (lw_privs_4 ++ (lw_privs_5)))), lw_okq q
  exact List.forall_mem_append.mpr ⟨lw_r1, List.forall_mem_append.mpr ⟨lw_r2, List.forall_mem_append.mpr ⟨lw_r3, List.forall_mem_append.mpr ⟨lw_r4, lw_r5⟩⟩⟩⟩
end
section
/-! ===== BEGIN printed: names, fields, word lists, decode rows ===== -/
def RX0 : String := "ReedBench$Costs"
def TX0 : u_T := fun k => match k with
  | 0 => ("ReedBench$Costs", "slotCosts", "[I", true)
  | _ => ("ReedBench$Costs", "pairCosts", "[I", true)
def tyX0 : Nat → FieldType := fun k => match k with
  | 0 => .array .int
  | _ => .array .int
abbrev wsX00 : List Cond := u_ws RX0 TX0 2
theorem nmX0 : ∀ a, a < 2 → ∀ b, b < 2 → a ≠ b → (TX0 a).2.1 ≠ (TX0 b).2.1 := by decide +kernel
theorem tyX0_ok : ∀ k, k < 2 → parseFieldDescriptor (TX0 k).2.2.1 = some (tyX0 k) := by decide +kernel
def RX1 : String := "ReedBench$History"
def TX1 : u_T := fun k => match k with
  | 0 => ("ReedBench$History", "ring", "[LReedBench$State;", true)
  | 1 => ("ReedBench$History", "size", "I", false)
  | _ => ("ReedBench$History", "next", "I", false)
def tyX1 : Nat → FieldType := fun k => match k with
  | 0 => .array (.object "ReedBench$State")
  | 1 => .int
  | _ => .int
abbrev wsX10 : List Cond := u_ws RX1 TX1 3
theorem nmX1 : ∀ a, a < 3 → ∀ b, b < 3 → a ≠ b → (TX1 a).2.1 ≠ (TX1 b).2.1 := by decide +kernel
theorem tyX1_ok : ∀ k, k < 3 → parseFieldDescriptor (TX1 k).2.2.1 = some (tyX1 k) := by decide +kernel
def RX2 : String := "ReedBench$LeftOut"
def TX2 : u_T := fun k => match k with
  | _ => ("", "", "", false)
def tyX2 : Nat → FieldType := fun k => match k with
  | _ => .int
abbrev wsX20 : List Cond := u_ws RX2 TX2 0
theorem nmX2 : ∀ a, a < 0 → ∀ b, b < 0 → a ≠ b → (TX2 a).2.1 ≠ (TX2 b).2.1 := by decide +kernel
theorem tyX2_ok : ∀ k, k < 0 → parseFieldDescriptor (TX2 k).2.2.1 = some (tyX2 k) := by decide +kernel
def RX3 : String := "ReedBench$Plan"
def TX3 : u_T := fun k => match k with
  | 0 => ("ReedBench$Plan", "costs", "LReedBench$Costs;", true)
  | 1 => ("ReedBench$Plan", "fewest", "[I", true)
  | 2 => ("ReedBench$Plan", "ways", "[I", true)
  | 3 => ("ReedBench$Plan", "order", "[I", true)
  | 4 => ("ReedBench$Plan", "chosen", "[I", true)
  | 5 => ("ReedBench$Plan", "ordered", "I", false)
  | 6 => ("ReedBench$Plan", "strokes", "I", false)
  | 7 => ("ReedBench$Plan", "count", "I", false)
  | _ => ("ReedBench$Plan", "known", "Z", false)
def tyX3 : Nat → FieldType := fun k => match k with
  | 0 => .object "ReedBench$Costs"
  | 1 => .array .int
  | 2 => .array .int
  | 3 => .array .int
  | 4 => .array .int
  | 5 => .int
  | 6 => .int
  | 7 => .int
  | _ => .boolean
abbrev wsX30 : List Cond := u_ws RX3 TX3 9
theorem nmX3 : ∀ a, a < 9 → ∀ b, b < 9 → a ≠ b → (TX3 a).2.1 ≠ (TX3 b).2.1 := by decide +kernel
theorem tyX3_ok : ∀ k, k < 9 → parseFieldDescriptor (TX3 k).2.2.1 = some (tyX3 k) := by decide +kernel
def RX4 : String := "ReedBench$Reed"
def TX4 : u_T := fun k => match k with
  | 0 => ("ReedBench$Reed", "pitch", "I", false)
  | 1 => ("ReedBench$Reed", "thickness", "I", false)
  | 2 => ("ReedBench$Reed", "tip", "I", false)
  | 3 => ("ReedBench$Reed", "place", "I", false)
  | 4 => ("ReedBench$Reed", "plate", "I", false)
  | 5 => ("ReedBench$Reed", "slot", "I", false)
  | _ => ("ReedBench$Reed", "strokes", "I", false)
def tyX4 : Nat → FieldType := fun k => match k with
  | 0 => .int
  | 1 => .int
  | 2 => .int
  | 3 => .int
  | 4 => .int
  | 5 => .int
  | _ => .int
abbrev wsX40 : List Cond := u_ws RX4 TX4 7
theorem nmX4 : ∀ a, a < 7 → ∀ b, b < 7 → a ≠ b → (TX4 a).2.1 ≠ (TX4 b).2.1 := by decide +kernel
theorem tyX4_ok : ∀ k, k < 7 → parseFieldDescriptor (TX4 k).2.2.1 = some (tyX4 k) := by decide +kernel
def RX5 : String := "ReedBench$State"
def TX5 : u_T := fun k => match k with
  | 0 => ("ReedBench$State", "reeds", "[LReedBench$Reed;", true)
  | 1 => ("ReedBench$State", "wanted", "[I", true)
  | 2 => ("ReedBench$State", "low", "[I", true)
  | 3 => ("ReedBench$State", "high", "[I", true)
  | 4 => ("ReedBench$State", "came", "I", false)
  | 5 => ("ReedBench$State", "rise", "I", false)
  | 6 => ("ReedBench$State", "off", "I", false)
  | _ => ("ReedBench$State", "made", "I", false)
def tyX5 : Nat → FieldType := fun k => match k with
  | 0 => .array (.object "ReedBench$Reed")
  | 1 => .array .int
  | 2 => .array .int
  | 3 => .array .int
  | 4 => .int
  | 5 => .int
  | 6 => .int
  | _ => .int
abbrev wsX50 : List Cond := u_ws RX5 TX5 8
theorem nmX5 : ∀ a, a < 8 → ∀ b, b < 8 → a ≠ b → (TX5 a).2.1 ≠ (TX5 b).2.1 := by decide +kernel
theorem tyX5_ok : ∀ k, k < 8 → parseFieldDescriptor (TX5 k).2.2.1 = some (tyX5 k) := by decide +kernel
def RX6 : String := "ReedBench$Works"
def TX6 : u_T := fun k => match k with
  | 0 => ("ReedBench$Works", "first", "[[I", true)
  | 1 => ("ReedBench$Works", "near", "[I", true)
  | _ => ("ReedBench$Works", "partner", "[I", true)
def tyX6 : Nat → FieldType := fun k => match k with
  | 0 => .array (.array .int)
  | 1 => .array .int
  | _ => .array .int
abbrev wsX60 : List Cond := u_ws RX6 TX6 3
theorem nmX6 : ∀ a, a < 3 → ∀ b, b < 3 → a ≠ b → (TX6 a).2.1 ≠ (TX6 b).2.1 := by decide +kernel
theorem tyX6_ok : ∀ k, k < 3 → parseFieldDescriptor (TX6 k).2.2.1 = some (tyX6 k) := by decide +kernel
def RX7 : String := "ReedBench"
def TX7 : u_T := fun k => match k with
  | 0 => ("ReedBench", "now", "LReedBench$State;", true)
  | 1 => ("ReedBench", "history", "LReedBench$History;", true)
  | 2 => ("ReedBench", "works", "LReedBench$Works;", true)
  | _ => ("ReedBench", "plan", "LReedBench$Plan;", true)
def tyX7 : Nat → FieldType := fun k => match k with
  | 0 => .object "ReedBench$State"
  | 1 => .object "ReedBench$History"
  | 2 => .object "ReedBench$Works"
  | _ => .object "ReedBench$Plan"
abbrev wsX70 : List Cond := u_ws RX7 TX7 4
theorem nmX7 : ∀ a, a < 4 → ∀ b, b < 4 → a ≠ b → (TX7 a).2.1 ≠ (TX7 b).2.1 := by decide +kernel
theorem tyX7_ok : ∀ k, k < 4 → parseFieldDescriptor (TX7 k).2.2.1 = some (tyX7 k) := by decide +kernel
def RX8 : String := "ReedBenchModel"
def TX8 : u_T := fun k => match k with
  | 0 => ("ReedBenchModel", "told", "I", false)
  | 1 => ("ReedBenchModel", "g", "[I", true)
  | 2 => ("ReedBenchModel", "kept", "[I", true)
  | 3 => ("ReedBenchModel", "keeps", "I", false)
  | 4 => ("ReedBenchModel", "isBegun", "Z", false)
  | 5 => ("ReedBenchModel", "even", "[I", true)
  | 6 => ("ReedBenchModel", "just", "[I", true)
  | 7 => ("ReedBenchModel", "paired", "[I", true)
  | 8 => ("ReedBenchModel", "strokes", "[I", true)
  | 9 => ("ReedBenchModel", "tips", "[I", true)
  | 10 => ("ReedBenchModel", "workStrokes", "I", false)
  | 11 => ("ReedBenchModel", "workTip", "I", false)
  | 12 => ("ReedBenchModel", "pairStrokes", "I", false)
  | 13 => ("ReedBenchModel", "pairTip", "I", false)
  | 14 => ("ReedBenchModel", "pairRoot", "I", false)
  | 15 => ("ReedBenchModel", "otherTip", "I", false)
  | 16 => ("ReedBenchModel", "single", "[I", true)
  | 17 => ("ReedBenchModel", "both", "[I", true)
  | 18 => ("ReedBenchModel", "least", "[I", true)
  | 19 => ("ReedBenchModel", "ways", "[I", true)
  | 20 => ("ReedBenchModel", "here", "I", false)
  | 21 => ("ReedBenchModel", "some", "I", false)
  | _ => ("ReedBenchModel", "lay", "[I", true)
def tyX8 : Nat → FieldType := fun k => match k with
  | 0 => .int
  | 1 => .array .int
  | 2 => .array .int
  | 3 => .int
  | 4 => .boolean
  | 5 => .array .int
  | 6 => .array .int
  | 7 => .array .int
  | 8 => .array .int
  | 9 => .array .int
  | 10 => .int
  | 11 => .int
  | 12 => .int
  | 13 => .int
  | 14 => .int
  | 15 => .int
  | 16 => .array .int
  | 17 => .array .int
  | 18 => .array .int
  | 19 => .array .int
  | 20 => .int
  | 21 => .int
  | _ => .array .int
abbrev wsX80 : List Cond := u_ws RX8 TX8 23
theorem nmX8 : ∀ a, a < 23 → ∀ b, b < 23 → a ≠ b → (TX8 a).2.1 ≠ (TX8 b).2.1 := by decide +kernel
theorem tyX8_ok : ∀ k, k < 23 → parseFieldDescriptor (TX8 k).2.2.1 = some (tyX8 k) := by decide +kernel
def RJ6 : String := "java/lang/Integer"
def TJ6 : u_T := fun k => match k with
  | _ => ("", "", "", false)
def tyJ6 : Nat → FieldType := fun k => match k with
  | _ => .int
abbrev wsJ60 : List Cond := u_ws RJ6 TJ6 0
theorem nmJ6 : ∀ a, a < 0 → ∀ b, b < 0 → a ≠ b → (TJ6 a).2.1 ≠ (TJ6 b).2.1 := by decide +kernel
theorem tyJ6_ok : ∀ k, k < 0 → parseFieldDescriptor (TJ6 k).2.2.1 = some (tyJ6 k) := by decide +kernel
def RJ9 : String := "java/lang/Math"
def TJ9 : u_T := fun k => match k with
  | _ => ("", "", "", false)
def tyJ9 : Nat → FieldType := fun k => match k with
  | _ => .int
abbrev wsJ90 : List Cond := u_ws RJ9 TJ9 0
theorem nmJ9 : ∀ a, a < 0 → ∀ b, b < 0 → a ≠ b → (TJ9 a).2.1 ≠ (TJ9 b).2.1 := by decide +kernel
theorem tyJ9_ok : ∀ k, k < 0 → parseFieldDescriptor (TJ9 k).2.2.1 = some (tyJ9 k) := by decide +kernel
def RJ10 : String := "java/lang/System"
def TJ10 : u_T := fun k => match k with
  | _ => ("", "", "", false)
def tyJ10 : Nat → FieldType := fun k => match k with
  | _ => .int
abbrev wsJ100 : List Cond := u_ws RJ10 TJ10 0
theorem nmJ10 : ∀ a, a < 0 → ∀ b, b < 0 → a ≠ b → (TJ10 a).2.1 ≠ (TJ10 b).2.1 := by decide +kernel
theorem tyJ10_ok : ∀ k, k < 0 → parseFieldDescriptor (TJ10 k).2.2.1 = some (tyJ10 k) := by decide +kernel
def RJ7 : String := "java/util/Arrays"
def TJ7 : u_T := fun k => match k with
  | _ => ("", "", "", false)
def tyJ7 : Nat → FieldType := fun k => match k with
  | _ => .int
abbrev wsJ70 : List Cond := u_ws RJ7 TJ7 0
theorem nmJ7 : ∀ a, a < 0 → ∀ b, b < 0 → a ≠ b → (TJ7 a).2.1 ≠ (TJ7 b).2.1 := by decide +kernel
theorem tyJ7_ok : ∀ k, k < 0 → parseFieldDescriptor (TJ7 k).2.2.1 = some (tyJ7 k) := by decide +kernel
def RL : String := "ReedBenchLaw"
end
section
/-! ===== the pure machine: ints are Int (read mod 2^32), references are numbers of cells (0 null, 1 the script, 2 ABOVE_KEY, 3.. made) ===== -/
abbrev xV : Type := Int ⊕ Nat
abbrev xI : Type := Nat × Int × Nat × Nat
abbrev xC : Type := Nat × Nat × (Nat → Nat)
abbrev xM : Type := List xC × (Nat → Nat → Int)
abbrev xL : Type := List (Option xV)
abbrev xO : Type := (Nat × (Nat × Nat) × xL × List xV × xM) ⊕ ((Nat × List xV × List xV) ⊕ List xV)
def xnth {α : Type} : List α → Nat → α → α
  | [], _, d => d
  | x :: _, 0, _ => x
  | _ :: t, n + 1, d => xnth t n d
def xat (M : xM) (a : Nat) : xC := xnth M.1 a (0, 0, fun _ => 0)
def xwr (M : xM) (a i : Nat) (v : Int) : xM := (M.1, fun a' i' => if a' = a ∧ i' = i then v else M.2 a' i')
def xwref (M : xM) (a i r : Nat) : xM := (M.1.set a ((xat M a).1, (xat M a).2.1, fun j => if j = i then r else (xat M a).2.2 j), M.2)
def xnew (M : xM) (kd n : Nat) : xM := (M.1 ++ [(kd, n, fun _ => 0)], fun a' i' => if a' = M.1.length then 0 else M.2 a' i')
def xnew2 (M : xM) (n k : Nat) : xM := (M.1 ++ (4, n, fun i => M.1.length + 1 + i) :: List.replicate n (1, k, fun _ => 0), fun a' i' => if M.1.length ≤ a' then 0 else M.2 a' i')
def xcpy (M : xM) (s sp d dp n : Nat) : xM := (M.1, fun a' i' => if a' = d ∧ dp ≤ i' ∧ i' < dp + n then M.2 s (sp + (i' - dp)) else M.2 a' i')
abbrev xok (x : Int) : Prop := -2147483648 ≤ x ∧ x ≤ 2147483647
def xcmp (b : Nat) (x y : Int) : Bool := match b with
  | 0 => decide (x = y)
  | 1 => decide (¬ x = y)
  | 2 => decide (x < y)
  | 3 => decide (y ≤ x)
  | 4 => decide (y < x)
  | _ => decide (x ≤ y)
def xbin (b : Nat) (x y : Int) : Option Int := match b with
  | 0 => some (x + y)
  | 1 => some (x - y)
  | 2 => some (x * y)
  | 3 => if (Int32.ofInt y) = 0 then none else some (Int32.ofInt x / Int32.ofInt y).toInt
  | 4 => if (Int32.ofInt y) = 0 then none else some (Int32.ofInt x - Int32.ofInt x / Int32.ofInt y * Int32.ofInt y).toInt
  | 5 => some (Int32.ofInt x &&& Int32.ofInt y).toInt
  | 6 => some (Int32.ofInt x ||| Int32.ofInt y).toInt
  | 7 => some (Int32.ofInt x ^^^ Int32.ofInt y).toInt
  | 8 => some (Int32.ofInt x <<< (Int32.ofInt y &&& 31)).toInt
  | 9 => some (Int32.ofInt x >>> (Int32.ofInt y &&& 31)).toInt
  | _ => some ((Int32.ofInt x).toUInt32 >>> ((Int32.ofInt y).toUInt32 &&& Int32.toUInt32 31)).toInt32.toInt
def xgo (pc : Nat) (k : Nat × Nat) (ls : xL) (st : List xV) (M : xM) : Option xO := some (.inl (pc, k, ls, st, M))

/-- ReedBench.<init>()V -/
def xk_0 : List xI := [(3, 0, 0, 1), (26, 85, 0, 0), (0, 0, 0, 0), (0, 0, 0, 0), (3, 0, 0, 1), (19, 88, 4, 0), (0, 0, 0, 0), (0, 0, 0, 0), (23, 0, 0, 0), (28, 90, 1, 1), (0, 0, 0, 0), (0, 0, 0, 0), (13, 268, 6, 0), (0, 0, 0, 0), (0, 0, 0, 0), (3, 0, 0, 1), (19, 181, 1, 0), (0, 0, 0, 0), (0, 0, 0, 0), (23, 0, 0, 0), (28, 183, 4, 1), (0, 0, 0, 0), (0, 0, 0, 0), (13, 269, 6, 1), (0, 0, 0, 0), (0, 0, 0, 0), (3, 0, 0, 1), (19, 200, 5, 0), (0, 0, 0, 0), (0, 0, 0, 0), (23, 0, 0, 0), (28, 202, 5, 1), (0, 0, 0, 0), (0, 0, 0, 0), (13, 270, 6, 2), (0, 0, 0, 0), (0, 0, 0, 0), (3, 0, 0, 1), (19, 218, 2, 0), (0, 0, 0, 0), (0, 0, 0, 0), (23, 0, 0, 0), (28, 220, 6, 1), (0, 0, 0, 0), (0, 0, 0, 0), (13, 271, 6, 3), (0, 0, 0, 0), (0, 0, 0, 0), (30, 0, 0, 0)]
/-- ReedBench$State.<init>()V -/
def xk_1 : List xI := [(3, 0, 0, 1), (26, 93, 0, 0), (0, 0, 0, 0), (0, 0, 0, 0), (3, 0, 0, 1), (1, 12, 2, 0), (0, 0, 0, 0), (21, 94, 2, 0), (0, 0, 0, 0), (0, 0, 0, 0), (13, 138, 4, 0), (0, 0, 0, 0), (0, 0, 0, 0), (3, 0, 0, 1), (1, 8, 2, 0), (0, 0, 0, 0), (20, 0, 0, 0), (0, 0, 0, 0), (13, 142, 4, 1), (0, 0, 0, 0), (0, 0, 0, 0), (3, 0, 0, 1), (1, 4, 1, 0), (20, 0, 0, 0), (0, 0, 0, 0), (13, 146, 4, 2), (0, 0, 0, 0), (0, 0, 0, 0), (3, 0, 0, 1), (1, 4, 1, 0), (20, 0, 0, 0), (0, 0, 0, 0), (13, 149, 4, 3), (0, 0, 0, 0), (0, 0, 0, 0), (3, 0, 0, 1), (1, 6, 2, 0), (0, 0, 0, 0), (13, 154, 4, 5), (0, 0, 0, 0), (0, 0, 0, 0), (3, 0, 0, 1), (1, 5, 1, 0), (13, 158, 4, 6), (0, 0, 0, 0), (0, 0, 0, 0), (1, 0, 1, 0), (4, 0, 1, 1), (2, 0, 1, 1), (1, 12, 2, 0), (0, 0, 0, 0), (10, 0, 3, 73), (0, 0, 0, 0), (0, 0, 0, 0), (3, 0, 0, 1), (12, 138, 4, 0), (0, 0, 0, 0), (0, 0, 0, 0), (2, 0, 1, 1), (19, 94, 3, 0), (0, 0, 0, 0), (0, 0, 0, 0), (23, 0, 0, 0), (28, 97, 2, 1), (0, 0, 0, 0), (0, 0, 0, 0), (17, 0, 0, 0), (6, 1, 1, 0), (0, 0, 0, 0), (0, 0, 0, 0), (11, 0, 0, 48), (0, 0, 0, 0), (0, 0, 0, 0), (3, 0, 0, 1), (12, 142, 4, 1), (0, 0, 0, 0), (0, 0, 0, 0), (1, (-1), 1, 0), (28, 135, 3, 2), (0, 0, 0, 0), (0, 0, 0, 0), (3, 0, 0, 1), (12, 146, 4, 2), (0, 0, 0, 0), (0, 0, 0, 0), (1, 1, 1, 0), (28, 135, 3, 2), (0, 0, 0, 0), (0, 0, 0, 0), (30, 0, 0, 0)]
/-- ReedBench$Reed.<init>()V -/
def xk_2 : List xI := [(3, 0, 0, 1), (26, 100, 0, 0), (0, 0, 0, 0), (0, 0, 0, 0), (3, 0, 0, 1), (1, 1, 1, 0), (13, 104, 3, 1), (0, 0, 0, 0), (0, 0, 0, 0), (3, 0, 0, 1), (1, 0, 1, 0), (13, 110, 3, 3), (0, 0, 0, 0), (0, 0, 0, 0), (3, 0, 0, 1), (1, (-1), 1, 0), (13, 113, 3, 4), (0, 0, 0, 0), (0, 0, 0, 0), (3, 0, 0, 1), (1, (-1), 1, 0), (13, 115, 3, 5), (0, 0, 0, 0), (0, 0, 0, 0), (30, 0, 0, 0)]
/-- java/util/Arrays.fill([II)V -/
def xk_3 : List xI := [(1, 0, 1, 0), (4, 0, 2, 1), (3, 0, 0, 1), (18, 0, 0, 0), (4, 0, 3, 1), (2, 0, 2, 1), (2, 0, 3, 1), (10, 0, 3, 20), (0, 0, 0, 0), (0, 0, 0, 0), (3, 0, 0, 1), (2, 0, 2, 1), (2, 0, 1, 1), (15, 0, 0, 0), (6, 1, 2, 0), (0, 0, 0, 0), (0, 0, 0, 0), (11, 0, 0, 5), (0, 0, 0, 0), (0, 0, 0, 0), (30, 0, 0, 0)]
/-- ReedBench$History.<init>()V -/
def xk_4 : List xI := [(3, 0, 0, 1), (26, 186, 0, 0), (0, 0, 0, 0), (0, 0, 0, 0), (3, 0, 0, 1), (1, 6, 2, 0), (0, 0, 0, 0), (21, 187, 3, 0), (0, 0, 0, 0), (0, 0, 0, 0), (13, 190, 1, 0), (0, 0, 0, 0), (0, 0, 0, 0), (1, 0, 1, 0), (4, 0, 1, 1), (2, 0, 1, 1), (1, 6, 2, 0), (0, 0, 0, 0), (10, 0, 3, 40), (0, 0, 0, 0), (0, 0, 0, 0), (3, 0, 0, 1), (12, 190, 1, 0), (0, 0, 0, 0), (0, 0, 0, 0), (2, 0, 1, 1), (19, 187, 4, 0), (0, 0, 0, 0), (0, 0, 0, 0), (23, 0, 0, 0), (28, 189, 1, 1), (0, 0, 0, 0), (0, 0, 0, 0), (17, 0, 0, 0), (6, 1, 1, 0), (0, 0, 0, 0), (0, 0, 0, 0), (11, 0, 0, 15), (0, 0, 0, 0), (0, 0, 0, 0), (30, 0, 0, 0)]
/-- ReedBench$Works.<init>()V -/
def xk_5 : List xI := [(3, 0, 0, 1), (26, 205, 0, 0), (0, 0, 0, 0), (0, 0, 0, 0), (3, 0, 0, 1), (1, 12, 2, 0), (0, 0, 0, 0), (1, 101, 2, 0), (0, 0, 0, 0), (22, 206, 0, 0), (0, 0, 0, 0), (0, 0, 0, 0), (0, 0, 0, 0), (13, 208, 5, 0), (0, 0, 0, 0), (0, 0, 0, 0), (3, 0, 0, 1), (1, 101, 2, 0), (0, 0, 0, 0), (20, 0, 0, 0), (0, 0, 0, 0), (13, 209, 5, 1), (0, 0, 0, 0), (0, 0, 0, 0), (3, 0, 0, 1), (1, 101, 2, 0), (0, 0, 0, 0), (20, 0, 0, 0), (0, 0, 0, 0), (13, 210, 5, 2), (0, 0, 0, 0), (0, 0, 0, 0), (30, 0, 0, 0)]
/-- ReedBench$Plan.<init>()V -/
def xk_6 : List xI := [(3, 0, 0, 1), (26, 223, 0, 0), (0, 0, 0, 0), (0, 0, 0, 0), (3, 0, 0, 1), (19, 224, 0, 0), (0, 0, 0, 0), (0, 0, 0, 0), (23, 0, 0, 0), (28, 226, 7, 1), (0, 0, 0, 0), (0, 0, 0, 0), (13, 237, 2, 0), (0, 0, 0, 0), (0, 0, 0, 0), (3, 0, 0, 1), (1, 4096, 3, 0), (0, 0, 0, 0), (0, 0, 0, 0), (20, 0, 0, 0), (0, 0, 0, 0), (13, 238, 2, 1), (0, 0, 0, 0), (0, 0, 0, 0), (3, 0, 0, 1), (1, 4096, 3, 0), (0, 0, 0, 0), (0, 0, 0, 0), (20, 0, 0, 0), (0, 0, 0, 0), (13, 239, 2, 2), (0, 0, 0, 0), (0, 0, 0, 0), (3, 0, 0, 1), (1, 8, 2, 0), (0, 0, 0, 0), (20, 0, 0, 0), (0, 0, 0, 0), (13, 240, 2, 3), (0, 0, 0, 0), (0, 0, 0, 0), (3, 0, 0, 1), (1, 8, 2, 0), (0, 0, 0, 0), (20, 0, 0, 0), (0, 0, 0, 0), (13, 241, 2, 4), (0, 0, 0, 0), (0, 0, 0, 0), (30, 0, 0, 0)]
/-- ReedBench$Costs.<init>()V -/
def xk_7 : List xI := [(3, 0, 0, 1), (26, 229, 0, 0), (0, 0, 0, 0), (0, 0, 0, 0), (3, 0, 0, 1), (1, 96, 2, 0), (0, 0, 0, 0), (20, 0, 0, 0), (0, 0, 0, 0), (13, 230, 0, 0), (0, 0, 0, 0), (0, 0, 0, 0), (3, 0, 0, 1), (1, 576, 3, 0), (0, 0, 0, 0), (0, 0, 0, 0), (20, 0, 0, 0), (0, 0, 0, 0), (13, 231, 0, 1), (0, 0, 0, 0), (0, 0, 0, 0), (30, 0, 0, 0)]
/-- ReedBench.reed(III)I -/
def xk_8 : List xI := [(2, 0, 1, 1), (1, 0, 1, 0), (1, 9999, 3, 0), (0, 0, 0, 0), (0, 0, 0, 0), (28, 285, 9, 3), (0, 0, 0, 0), (0, 0, 0, 0), (9, 0, 0, 35), (0, 0, 0, 0), (0, 0, 0, 0), (2, 0, 2, 1), (1, 1, 1, 0), (1, 20, 2, 0), (0, 0, 0, 0), (28, 285, 9, 3), (0, 0, 0, 0), (0, 0, 0, 0), (9, 0, 0, 35), (0, 0, 0, 0), (0, 0, 0, 0), (2, 0, 3, 1), (1, 0, 1, 0), (1, 20, 2, 0), (0, 0, 0, 0), (28, 285, 9, 3), (0, 0, 0, 0), (0, 0, 0, 0), (9, 0, 0, 35), (0, 0, 0, 0), (0, 0, 0, 0), (1, 1, 1, 0), (11, 0, 0, 36), (0, 0, 0, 0), (0, 0, 0, 0), (1, 0, 1, 0), (4, 0, 4, 2), (0, 0, 0, 0), (2, 0, 4, 2), (0, 0, 0, 0), (9, 0, 0, 55), (0, 0, 0, 0), (0, 0, 0, 0), (3, 0, 0, 1), (12, 268, 6, 0), (0, 0, 0, 0), (0, 0, 0, 0), (12, 152, 4, 4), (0, 0, 0, 0), (0, 0, 0, 0), (1, 12, 2, 0), (0, 0, 0, 0), (10, 0, 2, 57), (0, 0, 0, 0), (0, 0, 0, 0), (1, (-1), 1, 0), (29, 0, 0, 0), (3, 0, 0, 1), (28, 288, 10, 1), (0, 0, 0, 0), (0, 0, 0, 0), (3, 0, 0, 1), (12, 268, 6, 0), (0, 0, 0, 0), (0, 0, 0, 0), (12, 152, 4, 4), (0, 0, 0, 0), (0, 0, 0, 0), (4, 0, 5, 2), (0, 0, 0, 0), (3, 0, 0, 1), (12, 268, 6, 0), (0, 0, 0, 0), (0, 0, 0, 0), (12, 139, 4, 0), (0, 0, 0, 0), (0, 0, 0, 0), (2, 0, 5, 2), (0, 0, 0, 0), (16, 0, 0, 0), (2, 0, 1, 1), (2, 0, 2, 1), (2, 0, 3, 1), (28, 314, 16, 4), (0, 0, 0, 0), (0, 0, 0, 0), (3, 0, 0, 1), (12, 268, 6, 0), (0, 0, 0, 0), (0, 0, 0, 0), (2, 0, 5, 2), (0, 0, 0, 0), (1, 1, 1, 0), (7, 0, 0, 0), (13, 152, 4, 4), (0, 0, 0, 0), (0, 0, 0, 0), (2, 0, 5, 2), (0, 0, 0, 0), (29, 0, 0, 0)]
/-- ReedBench.within(III)Z -/
def xk_9 : List xI := [(2, 0, 0, 1), (2, 0, 1, 1), (10, 0, 2, 14), (0, 0, 0, 0), (0, 0, 0, 0), (2, 0, 0, 1), (2, 0, 2, 1), (10, 0, 4, 14), (0, 0, 0, 0), (0, 0, 0, 0), (1, 1, 1, 0), (11, 0, 0, 15), (0, 0, 0, 0), (0, 0, 0, 0), (1, 0, 1, 0), (29, 0, 0, 0)]
/-- ReedBench.remember()V -/
def xk_10 : List xI := [(3, 0, 0, 1), (12, 269, 6, 1), (0, 0, 0, 0), (0, 0, 0, 0), (3, 0, 0, 1), (12, 268, 6, 0), (0, 0, 0, 0), (0, 0, 0, 0), (28, 292, 11, 2), (0, 0, 0, 0), (0, 0, 0, 0), (3, 0, 0, 1), (12, 271, 6, 3), (0, 0, 0, 0), (0, 0, 0, 0), (28, 310, 15, 1), (0, 0, 0, 0), (0, 0, 0, 0), (30, 0, 0, 0)]
/-- ReedBench$History.keep(LReedBench$State;)V -/
def xk_11 : List xI := [(3, 0, 0, 1), (12, 190, 1, 0), (0, 0, 0, 0), (0, 0, 0, 0), (3, 0, 0, 1), (12, 192, 1, 2), (0, 0, 0, 0), (0, 0, 0, 0), (16, 0, 0, 0), (3, 0, 1, 1), (28, 296, 12, 2), (0, 0, 0, 0), (0, 0, 0, 0), (3, 0, 0, 1), (3, 0, 0, 1), (12, 192, 1, 2), (0, 0, 0, 0), (0, 0, 0, 0), (1, 5, 1, 0), (10, 0, 1, 26), (0, 0, 0, 0), (0, 0, 0, 0), (1, 0, 1, 0), (11, 0, 0, 32), (0, 0, 0, 0), (0, 0, 0, 0), (3, 0, 0, 1), (12, 192, 1, 2), (0, 0, 0, 0), (0, 0, 0, 0), (1, 1, 1, 0), (7, 0, 0, 0), (13, 192, 1, 2), (0, 0, 0, 0), (0, 0, 0, 0), (3, 0, 0, 1), (3, 0, 0, 1), (12, 191, 1, 1), (0, 0, 0, 0), (0, 0, 0, 0), (1, 1, 1, 0), (7, 0, 0, 0), (1, 6, 2, 0), (0, 0, 0, 0), (33, 307, 0, 0), (0, 0, 0, 0), (0, 0, 0, 0), (13, 191, 1, 1), (0, 0, 0, 0), (0, 0, 0, 0), (30, 0, 0, 0)]
/-- ReedBench$State.copyFrom(LReedBench$State;)V -/
def xk_12 : List xI := [(1, 0, 1, 0), (4, 0, 2, 1), (2, 0, 2, 1), (1, 12, 2, 0), (0, 0, 0, 0), (10, 0, 3, 29), (0, 0, 0, 0), (0, 0, 0, 0), (3, 0, 0, 1), (12, 138, 4, 0), (0, 0, 0, 0), (0, 0, 0, 0), (2, 0, 2, 1), (16, 0, 0, 0), (3, 0, 1, 1), (12, 138, 4, 0), (0, 0, 0, 0), (0, 0, 0, 0), (2, 0, 2, 1), (16, 0, 0, 0), (28, 300, 13, 2), (0, 0, 0, 0), (0, 0, 0, 0), (6, 1, 2, 0), (0, 0, 0, 0), (0, 0, 0, 0), (11, 0, 0, 2), (0, 0, 0, 0), (0, 0, 0, 0), (3, 0, 1, 1), (12, 142, 4, 1), (0, 0, 0, 0), (0, 0, 0, 0), (1, 0, 1, 0), (3, 0, 0, 1), (12, 142, 4, 1), (0, 0, 0, 0), (0, 0, 0, 0), (1, 0, 1, 0), (1, 8, 2, 0), (0, 0, 0, 0), (27, 304, 0, 0), (0, 0, 0, 0), (0, 0, 0, 0), (3, 0, 1, 1), (12, 146, 4, 2), (0, 0, 0, 0), (0, 0, 0, 0), (1, 0, 1, 0), (3, 0, 0, 1), (12, 146, 4, 2), (0, 0, 0, 0), (0, 0, 0, 0), (1, 0, 1, 0), (1, 4, 1, 0), (27, 304, 0, 0), (0, 0, 0, 0), (0, 0, 0, 0), (3, 0, 1, 1), (12, 149, 4, 3), (0, 0, 0, 0), (0, 0, 0, 0), (1, 0, 1, 0), (3, 0, 0, 1), (12, 149, 4, 3), (0, 0, 0, 0), (0, 0, 0, 0), (1, 0, 1, 0), (1, 4, 1, 0), (27, 304, 0, 0), (0, 0, 0, 0), (0, 0, 0, 0), (3, 0, 0, 1), (3, 0, 1, 1), (12, 153, 4, 4), (0, 0, 0, 0), (0, 0, 0, 0), (13, 153, 4, 4), (0, 0, 0, 0), (0, 0, 0, 0), (3, 0, 0, 1), (3, 0, 1, 1), (12, 154, 4, 5), (0, 0, 0, 0), (0, 0, 0, 0), (13, 154, 4, 5), (0, 0, 0, 0), (0, 0, 0, 0), (3, 0, 0, 1), (3, 0, 1, 1), (12, 158, 4, 6), (0, 0, 0, 0), (0, 0, 0, 0), (13, 158, 4, 6), (0, 0, 0, 0), (0, 0, 0, 0), (3, 0, 0, 1), (3, 0, 1, 1), (12, 161, 4, 7), (0, 0, 0, 0), (0, 0, 0, 0), (13, 161, 4, 7), (0, 0, 0, 0), (0, 0, 0, 0), (30, 0, 0, 0)]
/-- ReedBench$Reed.copyFrom(LReedBench$Reed;)V -/
def xk_13 : List xI := [(3, 0, 0, 1), (3, 0, 1, 1), (12, 101, 3, 0), (0, 0, 0, 0), (0, 0, 0, 0), (13, 101, 3, 0), (0, 0, 0, 0), (0, 0, 0, 0), (3, 0, 0, 1), (3, 0, 1, 1), (12, 104, 3, 1), (0, 0, 0, 0), (0, 0, 0, 0), (13, 104, 3, 1), (0, 0, 0, 0), (0, 0, 0, 0), (3, 0, 0, 1), (3, 0, 1, 1), (12, 107, 3, 2), (0, 0, 0, 0), (0, 0, 0, 0), (13, 107, 3, 2), (0, 0, 0, 0), (0, 0, 0, 0), (3, 0, 0, 1), (3, 0, 1, 1), (12, 110, 3, 3), (0, 0, 0, 0), (0, 0, 0, 0), (13, 110, 3, 3), (0, 0, 0, 0), (0, 0, 0, 0), (3, 0, 0, 1), (3, 0, 1, 1), (12, 113, 3, 4), (0, 0, 0, 0), (0, 0, 0, 0), (13, 113, 3, 4), (0, 0, 0, 0), (0, 0, 0, 0), (3, 0, 0, 1), (3, 0, 1, 1), (12, 115, 3, 5), (0, 0, 0, 0), (0, 0, 0, 0), (13, 115, 3, 5), (0, 0, 0, 0), (0, 0, 0, 0), (3, 0, 0, 1), (3, 0, 1, 1), (12, 117, 3, 6), (0, 0, 0, 0), (0, 0, 0, 0), (13, 117, 3, 6), (0, 0, 0, 0), (0, 0, 0, 0), (30, 0, 0, 0)]
/-- java/lang/Math.min(II)I -/
def xk_14 : List xI := [(2, 0, 0, 1), (2, 0, 1, 1), (10, 0, 4, 9), (0, 0, 0, 0), (0, 0, 0, 0), (2, 0, 0, 1), (11, 0, 0, 10), (0, 0, 0, 0), (0, 0, 0, 0), (2, 0, 1, 1), (29, 0, 0, 0)]
/-- ReedBench$Plan.forget()V -/
def xk_15 : List xI := [(3, 0, 0, 1), (1, 0, 1, 0), (13, 248, 2, 8), (0, 0, 0, 0), (0, 0, 0, 0), (30, 0, 0, 0)]
/-- ReedBench$Reed.begin(III)V -/
def xk_16 : List xI := [(3, 0, 0, 1), (2, 0, 1, 1), (13, 101, 3, 0), (0, 0, 0, 0), (0, 0, 0, 0), (3, 0, 0, 1), (2, 0, 2, 1), (13, 104, 3, 1), (0, 0, 0, 0), (0, 0, 0, 0), (3, 0, 0, 1), (2, 0, 3, 1), (13, 107, 3, 2), (0, 0, 0, 0), (0, 0, 0, 0), (3, 0, 0, 1), (1, 0, 1, 0), (13, 110, 3, 3), (0, 0, 0, 0), (0, 0, 0, 0), (3, 0, 0, 1), (1, (-1), 1, 0), (13, 113, 3, 4), (0, 0, 0, 0), (0, 0, 0, 0), (3, 0, 0, 1), (1, (-1), 1, 0), (13, 115, 3, 5), (0, 0, 0, 0), (0, 0, 0, 0), (3, 0, 0, 1), (1, 0, 1, 0), (13, 117, 3, 6), (0, 0, 0, 0), (0, 0, 0, 0), (30, 0, 0, 0)]
/-- ReedBench.scrap(I)Z -/
def xk_17 : List xI := [(3, 0, 0, 1), (12, 268, 6, 0), (0, 0, 0, 0), (0, 0, 0, 0), (2, 0, 1, 1), (28, 322, 18, 2), (0, 0, 0, 0), (0, 0, 0, 0), (9, 0, 1, 13), (0, 0, 0, 0), (0, 0, 0, 0), (1, 0, 1, 0), (29, 0, 0, 0), (3, 0, 0, 1), (28, 288, 10, 1), (0, 0, 0, 0), (0, 0, 0, 0), (3, 0, 0, 1), (12, 268, 6, 0), (0, 0, 0, 0), (0, 0, 0, 0), (12, 139, 4, 0), (0, 0, 0, 0), (0, 0, 0, 0), (2, 0, 1, 1), (16, 0, 0, 0), (1, 2, 1, 0), (13, 111, 3, 3), (0, 0, 0, 0), (0, 0, 0, 0), (1, 1, 1, 0), (29, 0, 0, 0)]
/-- ReedBench$State.isFree(I)Z -/
def xk_18 : List xI := [(3, 0, 0, 1), (2, 0, 1, 1), (28, 326, 19, 2), (0, 0, 0, 0), (0, 0, 0, 0), (9, 0, 0, 24), (0, 0, 0, 0), (0, 0, 0, 0), (3, 0, 0, 1), (12, 138, 4, 0), (0, 0, 0, 0), (0, 0, 0, 0), (2, 0, 1, 1), (16, 0, 0, 0), (12, 112, 3, 3), (0, 0, 0, 0), (0, 0, 0, 0), (9, 0, 1, 24), (0, 0, 0, 0), (0, 0, 0, 0), (1, 1, 1, 0), (11, 0, 0, 25), (0, 0, 0, 0), (0, 0, 0, 0), (1, 0, 1, 0), (29, 0, 0, 0)]
/-- ReedBench$State.hasReed(I)Z -/
def xk_19 : List xI := [(2, 0, 1, 1), (9, 0, 2, 22), (0, 0, 0, 0), (0, 0, 0, 0), (2, 0, 1, 1), (3, 0, 0, 1), (12, 153, 4, 4), (0, 0, 0, 0), (0, 0, 0, 0), (10, 0, 3, 22), (0, 0, 0, 0), (0, 0, 0, 0), (2, 0, 1, 1), (1, 12, 2, 0), (0, 0, 0, 0), (10, 0, 3, 22), (0, 0, 0, 0), (0, 0, 0, 0), (1, 1, 1, 0), (11, 0, 0, 23), (0, 0, 0, 0), (0, 0, 0, 0), (1, 0, 1, 0), (29, 0, 0, 0)]
/-- ReedBench.rates(II)Z -/
def xk_20 : List xI := [(2, 0, 1, 1), (1, 1, 1, 0), (1, 20, 2, 0), (0, 0, 0, 0), (28, 285, 9, 3), (0, 0, 0, 0), (0, 0, 0, 0), (9, 0, 0, 20), (0, 0, 0, 0), (0, 0, 0, 0), (2, 0, 2, 1), (1, 0, 1, 0), (1, 50, 2, 0), (0, 0, 0, 0), (28, 285, 9, 3), (0, 0, 0, 0), (0, 0, 0, 0), (9, 0, 1, 22), (0, 0, 0, 0), (0, 0, 0, 0), (1, 0, 1, 0), (29, 0, 0, 0), (3, 0, 0, 1), (28, 288, 10, 1), (0, 0, 0, 0), (0, 0, 0, 0), (3, 0, 0, 1), (12, 268, 6, 0), (0, 0, 0, 0), (0, 0, 0, 0), (2, 0, 1, 1), (13, 155, 4, 5), (0, 0, 0, 0), (0, 0, 0, 0), (3, 0, 0, 1), (12, 268, 6, 0), (0, 0, 0, 0), (0, 0, 0, 0), (2, 0, 2, 1), (13, 159, 4, 6), (0, 0, 0, 0), (0, 0, 0, 0), (1, 1, 1, 0), (29, 0, 0, 0)]
/-- ReedBench.want(II)Z -/
def xk_21 : List xI := [(2, 0, 1, 1), (1, 0, 1, 0), (1, 7, 2, 0), (0, 0, 0, 0), (28, 285, 9, 3), (0, 0, 0, 0), (0, 0, 0, 0), (9, 0, 0, 21), (0, 0, 0, 0), (0, 0, 0, 0), (2, 0, 2, 1), (1, (-1), 1, 0), (1, 9999, 3, 0), (0, 0, 0, 0), (0, 0, 0, 0), (28, 285, 9, 3), (0, 0, 0, 0), (0, 0, 0, 0), (9, 0, 1, 23), (0, 0, 0, 0), (0, 0, 0, 0), (1, 0, 1, 0), (29, 0, 0, 0), (3, 0, 0, 1), (28, 288, 10, 1), (0, 0, 0, 0), (0, 0, 0, 0), (3, 0, 0, 1), (12, 268, 6, 0), (0, 0, 0, 0), (0, 0, 0, 0), (12, 143, 4, 1), (0, 0, 0, 0), (0, 0, 0, 0), (2, 0, 1, 1), (2, 0, 2, 1), (15, 0, 0, 0), (1, 1, 1, 0), (29, 0, 0, 0)]
/-- ReedBench.tuning(II)Z -/
def xk_22 : List xI := [(2, 0, 1, 1), (1, 0, 1, 0), (1, 2, 1, 0), (28, 285, 9, 3), (0, 0, 0, 0), (0, 0, 0, 0), (9, 0, 0, 20), (0, 0, 0, 0), (0, 0, 0, 0), (2, 0, 2, 1), (1, 0, 1, 0), (1, 8000, 3, 0), (0, 0, 0, 0), (0, 0, 0, 0), (28, 285, 9, 3), (0, 0, 0, 0), (0, 0, 0, 0), (9, 0, 1, 22), (0, 0, 0, 0), (0, 0, 0, 0), (1, 0, 1, 0), (29, 0, 0, 0), (3, 0, 0, 1), (28, 288, 10, 1), (0, 0, 0, 0), (0, 0, 0, 0), (1, 0, 1, 0), (4, 0, 3, 1), (2, 0, 3, 1), (1, 8, 2, 0), (0, 0, 0, 0), (10, 0, 3, 61), (0, 0, 0, 0), (0, 0, 0, 0), (3, 0, 0, 1), (12, 268, 6, 0), (0, 0, 0, 0), (0, 0, 0, 0), (12, 143, 4, 1), (0, 0, 0, 0), (0, 0, 0, 0), (2, 0, 3, 1), (2, 0, 2, 1), (31, 342, 0, 0), (0, 0, 0, 0), (0, 0, 0, 0), (2, 0, 1, 1), (1, 8, 2, 0), (0, 0, 0, 0), (7, 0, 2, 0), (2, 0, 3, 1), (7, 0, 0, 0), (14, 0, 0, 0), (7, 0, 0, 0), (15, 0, 0, 0), (6, 1, 3, 0), (0, 0, 0, 0), (0, 0, 0, 0), (11, 0, 0, 28), (0, 0, 0, 0), (0, 0, 0, 0), (1, 1, 1, 0), (29, 0, 0, 0)]
/-- ReedBench.beat(III)Z -/
def xk_23 : List xI := [(2, 0, 1, 1), (1, 0, 1, 0), (1, 3, 1, 0), (28, 285, 9, 3), (0, 0, 0, 0), (0, 0, 0, 0), (9, 0, 0, 35), (0, 0, 0, 0), (0, 0, 0, 0), (2, 0, 2, 1), (1, (-100), 2, 0), (0, 0, 0, 0), (1, 100, 2, 0), (0, 0, 0, 0), (28, 285, 9, 3), (0, 0, 0, 0), (0, 0, 0, 0), (9, 0, 0, 35), (0, 0, 0, 0), (0, 0, 0, 0), (2, 0, 3, 1), (1, (-100), 2, 0), (0, 0, 0, 0), (1, 100, 2, 0), (0, 0, 0, 0), (28, 285, 9, 3), (0, 0, 0, 0), (0, 0, 0, 0), (9, 0, 0, 35), (0, 0, 0, 0), (0, 0, 0, 0), (1, 1, 1, 0), (11, 0, 0, 36), (0, 0, 0, 0), (0, 0, 0, 0), (1, 0, 1, 0), (4, 0, 4, 2), (0, 0, 0, 0), (2, 0, 4, 2), (0, 0, 0, 0), (9, 0, 1, 45), (0, 0, 0, 0), (0, 0, 0, 0), (1, 0, 1, 0), (29, 0, 0, 0), (3, 0, 0, 1), (28, 288, 10, 1), (0, 0, 0, 0), (0, 0, 0, 0), (3, 0, 0, 1), (12, 268, 6, 0), (0, 0, 0, 0), (0, 0, 0, 0), (12, 147, 4, 2), (0, 0, 0, 0), (0, 0, 0, 0), (2, 0, 1, 1), (2, 0, 2, 1), (15, 0, 0, 0), (3, 0, 0, 1), (12, 268, 6, 0), (0, 0, 0, 0), (0, 0, 0, 0), (12, 150, 4, 3), (0, 0, 0, 0), (0, 0, 0, 0), (2, 0, 1, 1), (2, 0, 3, 1), (15, 0, 0, 0), (1, 1, 1, 0), (29, 0, 0, 0)]
/-- ReedBench.file(III)I -/
def xk_24 : List xI := [(3, 0, 0, 1), (12, 268, 6, 0), (0, 0, 0, 0), (0, 0, 0, 0), (2, 0, 1, 1), (28, 322, 18, 2), (0, 0, 0, 0), (0, 0, 0, 0), (9, 0, 0, 28), (0, 0, 0, 0), (0, 0, 0, 0), (3, 0, 0, 1), (12, 268, 6, 0), (0, 0, 0, 0), (0, 0, 0, 0), (12, 139, 4, 0), (0, 0, 0, 0), (0, 0, 0, 0), (2, 0, 1, 1), (16, 0, 0, 0), (2, 0, 2, 1), (2, 0, 3, 1), (28, 352, 25, 3), (0, 0, 0, 0), (0, 0, 0, 0), (9, 0, 1, 31), (0, 0, 0, 0), (0, 0, 0, 0), (1, (-100000), 2, 357), (0, 0, 0, 0), (29, 0, 0, 0), (3, 0, 0, 1), (28, 288, 10, 1), (0, 0, 0, 0), (0, 0, 0, 0), (3, 0, 0, 1), (12, 268, 6, 0), (0, 0, 0, 0), (0, 0, 0, 0), (12, 139, 4, 0), (0, 0, 0, 0), (0, 0, 0, 0), (2, 0, 1, 1), (16, 0, 0, 0), (2, 0, 2, 1), (2, 0, 3, 1), (3, 0, 0, 1), (12, 268, 6, 0), (0, 0, 0, 0), (0, 0, 0, 0), (12, 155, 4, 5), (0, 0, 0, 0), (0, 0, 0, 0), (28, 358, 26, 4), (0, 0, 0, 0), (0, 0, 0, 0), (3, 0, 0, 1), (12, 268, 6, 0), (0, 0, 0, 0), (0, 0, 0, 0), (12, 139, 4, 0), (0, 0, 0, 0), (0, 0, 0, 0), (2, 0, 1, 1), (16, 0, 0, 0), (12, 102, 3, 0), (0, 0, 0, 0), (0, 0, 0, 0), (29, 0, 0, 0)]
/-- ReedBench$Reed.bears(II)Z -/
def xk_25 : List xI := [(2, 0, 1, 1), (1, 0, 1, 0), (3, 0, 0, 1), (12, 107, 3, 2), (0, 0, 0, 0), (0, 0, 0, 0), (28, 356, 9, 3), (0, 0, 0, 0), (0, 0, 0, 0), (9, 0, 0, 30), (0, 0, 0, 0), (0, 0, 0, 0), (2, 0, 2, 1), (1, 0, 1, 0), (3, 0, 0, 1), (12, 104, 3, 1), (0, 0, 0, 0), (0, 0, 0, 0), (1, 1, 1, 0), (7, 0, 1, 0), (28, 356, 9, 3), (0, 0, 0, 0), (0, 0, 0, 0), (9, 0, 0, 30), (0, 0, 0, 0), (0, 0, 0, 0), (1, 1, 1, 0), (11, 0, 0, 31), (0, 0, 0, 0), (0, 0, 0, 0), (1, 0, 1, 0), (29, 0, 0, 0)]
/-- ReedBench$Reed.takeStrokes(III)V -/
def xk_26 : List xI := [(3, 0, 0, 1), (23, 0, 0, 0), (12, 101, 3, 0), (0, 0, 0, 0), (0, 0, 0, 0), (2, 0, 1, 1), (2, 0, 3, 1), (7, 0, 2, 0), (7, 0, 0, 0), (13, 101, 3, 0), (0, 0, 0, 0), (0, 0, 0, 0), (3, 0, 0, 1), (23, 0, 0, 0), (12, 107, 3, 2), (0, 0, 0, 0), (0, 0, 0, 0), (2, 0, 1, 1), (7, 0, 1, 0), (13, 107, 3, 2), (0, 0, 0, 0), (0, 0, 0, 0), (1, 0, 1, 0), (4, 0, 4, 2), (0, 0, 0, 0), (2, 0, 4, 2), (0, 0, 0, 0), (2, 0, 2, 1), (10, 0, 3, 60), (0, 0, 0, 0), (0, 0, 0, 0), (3, 0, 0, 1), (23, 0, 0, 0), (12, 101, 3, 0), (0, 0, 0, 0), (0, 0, 0, 0), (3, 0, 0, 1), (12, 104, 3, 1), (0, 0, 0, 0), (0, 0, 0, 0), (7, 0, 1, 0), (13, 101, 3, 0), (0, 0, 0, 0), (0, 0, 0, 0), (3, 0, 0, 1), (23, 0, 0, 0), (12, 104, 3, 1), (0, 0, 0, 0), (0, 0, 0, 0), (1, 1, 1, 0), (7, 0, 1, 0), (13, 104, 3, 1), (0, 0, 0, 0), (0, 0, 0, 0), (6, 1, 4, 0), (0, 0, 0, 0), (0, 0, 0, 0), (11, 0, 0, 25), (0, 0, 0, 0), (0, 0, 0, 0), (3, 0, 0, 1), (23, 0, 0, 0), (12, 117, 3, 6), (0, 0, 0, 0), (0, 0, 0, 0), (2, 0, 1, 1), (2, 0, 2, 1), (7, 0, 0, 0), (7, 0, 0, 0), (13, 117, 3, 6), (0, 0, 0, 0), (0, 0, 0, 0), (30, 0, 0, 0)]
/-- ReedBench.look(I)I -/
def xk_27 : List xI := [(2, 0, 1, 1), (1, 10, 2, 0), (0, 0, 0, 0), (1, 17, 2, 0), (0, 0, 0, 0), (28, 285, 9, 3), (0, 0, 0, 0), (0, 0, 0, 0), (9, 0, 0, 24), (0, 0, 0, 0), (0, 0, 0, 0), (3, 0, 0, 1), (12, 268, 6, 0), (0, 0, 0, 0), (0, 0, 0, 0), (12, 143, 4, 1), (0, 0, 0, 0), (0, 0, 0, 0), (2, 0, 1, 1), (1, 10, 2, 0), (0, 0, 0, 0), (7, 0, 1, 0), (14, 0, 0, 0), (29, 0, 0, 0), (2, 0, 1, 1), (1, 20, 2, 0), (0, 0, 0, 0), (1, 27, 2, 0), (0, 0, 0, 0), (28, 285, 9, 3), (0, 0, 0, 0), (0, 0, 0, 0), (9, 0, 0, 44), (0, 0, 0, 0), (0, 0, 0, 0), (3, 0, 0, 1), (2, 0, 1, 1), (1, 20, 2, 0), (0, 0, 0, 0), (7, 0, 1, 0), (28, 366, 28, 2), (0, 0, 0, 0), (0, 0, 0, 0), (29, 0, 0, 0), (2, 0, 1, 1), (32, 0, 135, 39), (0, 0, 0, 0), (0, 0, 0, 0), (0, 0, 0, 0), (0, 0, 0, 0), (0, 0, 0, 0), (0, 0, 0, 0), (0, 0, 0, 0), (0, 0, 0, 0), (0, 0, 0, 0), (0, 0, 0, 0), (0, 0, 0, 0), (0, 0, 0, 0), (0, 0, 0, 0), (0, 0, 0, 0), (0, 0, 0, 0), (0, 0, 0, 0), (0, 0, 0, 0), (0, 0, 0, 0), (0, 0, 0, 0), (0, 0, 0, 0), (0, 0, 0, 0), (0, 0, 0, 0), (0, 0, 0, 0), (0, 0, 0, 0), (0, 0, 0, 0), (0, 0, 0, 0), (0, 0, 0, 0), (0, 0, 0, 0), (0, 0, 0, 0), (0, 0, 0, 0), (0, 0, 0, 0), (0, 0, 0, 0), (0, 0, 0, 0), (0, 0, 0, 0), (0, 0, 0, 0), (0, 0, 0, 0), (0, 0, 0, 0), (0, 0, 0, 0), (3, 0, 0, 1), (12, 268, 6, 0), (0, 0, 0, 0), (0, 0, 0, 0), (12, 152, 4, 4), (0, 0, 0, 0), (0, 0, 0, 0), (29, 0, 0, 0), (3, 0, 0, 1), (12, 268, 6, 0), (0, 0, 0, 0), (0, 0, 0, 0), (28, 374, 30, 1), (0, 0, 0, 0), (0, 0, 0, 0), (28, 379, 31, 1), (0, 0, 0, 0), (0, 0, 0, 0), (29, 0, 0, 0), (3, 0, 0, 1), (12, 268, 6, 0), (0, 0, 0, 0), (0, 0, 0, 0), (12, 155, 4, 5), (0, 0, 0, 0), (0, 0, 0, 0), (29, 0, 0, 0), (3, 0, 0, 1), (12, 268, 6, 0), (0, 0, 0, 0), (0, 0, 0, 0), (12, 159, 4, 6), (0, 0, 0, 0), (0, 0, 0, 0), (29, 0, 0, 0), (3, 0, 0, 1), (12, 268, 6, 0), (0, 0, 0, 0), (0, 0, 0, 0), (28, 385, 32, 1), (0, 0, 0, 0), (0, 0, 0, 0), (29, 0, 0, 0), (3, 0, 0, 1), (12, 268, 6, 0), (0, 0, 0, 0), (0, 0, 0, 0), (12, 162, 4, 7), (0, 0, 0, 0), (0, 0, 0, 0), (29, 0, 0, 0), (1, (-1001), 3, 0), (0, 0, 0, 0), (0, 0, 0, 0), (29, 0, 0, 0)]
/-- ReedBench.beatBound(I)I -/
def xk_28 : List xI := [(2, 0, 1, 1), (1, 2, 1, 0), (7, 0, 3, 0), (4, 0, 2, 1), (3, 0, 0, 1), (12, 268, 6, 0), (0, 0, 0, 0), (0, 0, 0, 0), (2, 0, 2, 1), (28, 370, 29, 2), (0, 0, 0, 0), (0, 0, 0, 0), (9, 0, 1, 19), (0, 0, 0, 0), (0, 0, 0, 0), (1, (-1001), 3, 0), (0, 0, 0, 0), (0, 0, 0, 0), (29, 0, 0, 0), (2, 0, 1, 1), (1, 2, 1, 0), (7, 0, 4, 0), (9, 0, 1, 37), (0, 0, 0, 0), (0, 0, 0, 0), (3, 0, 0, 1), (12, 268, 6, 0), (0, 0, 0, 0), (0, 0, 0, 0), (12, 147, 4, 2), (0, 0, 0, 0), (0, 0, 0, 0), (2, 0, 2, 1), (14, 0, 0, 0), (11, 0, 0, 46), (0, 0, 0, 0), (0, 0, 0, 0), (3, 0, 0, 1), (12, 268, 6, 0), (0, 0, 0, 0), (0, 0, 0, 0), (12, 150, 4, 3), (0, 0, 0, 0), (0, 0, 0, 0), (2, 0, 2, 1), (14, 0, 0, 0), (29, 0, 0, 0)]
/-- ReedBench$State.isBound(I)Z -/
def xk_29 : List xI := [(2, 0, 1, 1), (9, 0, 2, 28), (0, 0, 0, 0), (0, 0, 0, 0), (2, 0, 1, 1), (1, 4, 1, 0), (10, 0, 3, 28), (0, 0, 0, 0), (0, 0, 0, 0), (3, 0, 0, 1), (12, 146, 4, 2), (0, 0, 0, 0), (0, 0, 0, 0), (2, 0, 1, 1), (14, 0, 0, 0), (3, 0, 0, 1), (12, 149, 4, 3), (0, 0, 0, 0), (0, 0, 0, 0), (2, 0, 1, 1), (14, 0, 0, 0), (10, 0, 4, 28), (0, 0, 0, 0), (0, 0, 0, 0), (1, 1, 1, 0), (11, 0, 0, 29), (0, 0, 0, 0), (0, 0, 0, 0), (1, 0, 1, 0), (29, 0, 0, 0)]
/-- ReedBench$State.freeReeds()I -/
def xk_30 : List xI := [(1, 0, 1, 0), (4, 0, 1, 1), (1, 0, 1, 0), (4, 0, 2, 1), (2, 0, 2, 1), (1, 12, 2, 0), (0, 0, 0, 0), (10, 0, 3, 30), (0, 0, 0, 0), (0, 0, 0, 0), (3, 0, 0, 1), (2, 0, 2, 1), (28, 378, 18, 2), (0, 0, 0, 0), (0, 0, 0, 0), (9, 0, 0, 24), (0, 0, 0, 0), (0, 0, 0, 0), (2, 0, 1, 1), (1, 1, 1, 0), (2, 0, 2, 1), (7, 0, 8, 0), (7, 0, 6, 0), (4, 0, 1, 1), (6, 1, 2, 0), (0, 0, 0, 0), (0, 0, 0, 0), (11, 0, 0, 4), (0, 0, 0, 0), (0, 0, 0, 0), (2, 0, 1, 1), (29, 0, 0, 0)]
/-- java/lang/Integer.bitCount(I)I -/
def xk_31 : List xI := [(2, 0, 0, 1), (2, 0, 0, 1), (1, 1, 1, 0), (7, 0, 10, 0), (1, 1431655765, 3, 382), (0, 0, 0, 0), (0, 0, 0, 0), (7, 0, 5, 0), (7, 0, 1, 0), (4, 0, 0, 1), (2, 0, 0, 1), (1, 858993459, 3, 383), (0, 0, 0, 0), (0, 0, 0, 0), (7, 0, 5, 0), (2, 0, 0, 1), (1, 2, 1, 0), (7, 0, 10, 0), (1, 858993459, 3, 383), (0, 0, 0, 0), (0, 0, 0, 0), (7, 0, 5, 0), (7, 0, 0, 0), (4, 0, 0, 1), (2, 0, 0, 1), (2, 0, 0, 1), (1, 4, 1, 0), (7, 0, 10, 0), (7, 0, 0, 0), (1, 252645135, 3, 384), (0, 0, 0, 0), (0, 0, 0, 0), (7, 0, 5, 0), (4, 0, 0, 1), (2, 0, 0, 1), (2, 0, 0, 1), (1, 8, 2, 0), (0, 0, 0, 0), (7, 0, 10, 0), (7, 0, 0, 0), (4, 0, 0, 1), (2, 0, 0, 1), (2, 0, 0, 1), (1, 16, 2, 0), (0, 0, 0, 0), (7, 0, 10, 0), (7, 0, 0, 0), (4, 0, 0, 1), (2, 0, 0, 1), (1, 63, 2, 0), (0, 0, 0, 0), (7, 0, 5, 0), (29, 0, 0, 0)]
/-- ReedBench$State.wantedSlots()I -/
def xk_32 : List xI := [(1, 0, 1, 0), (4, 0, 1, 1), (1, 0, 1, 0), (4, 0, 2, 1), (2, 0, 2, 1), (1, 8, 2, 0), (0, 0, 0, 0), (10, 0, 3, 30), (0, 0, 0, 0), (0, 0, 0, 0), (3, 0, 0, 1), (2, 0, 2, 1), (28, 389, 33, 2), (0, 0, 0, 0), (0, 0, 0, 0), (9, 0, 0, 24), (0, 0, 0, 0), (0, 0, 0, 0), (2, 0, 1, 1), (1, 1, 1, 0), (2, 0, 2, 1), (7, 0, 8, 0), (7, 0, 6, 0), (4, 0, 1, 1), (6, 1, 2, 0), (0, 0, 0, 0), (0, 0, 0, 0), (11, 0, 0, 4), (0, 0, 0, 0), (0, 0, 0, 0), (2, 0, 1, 1), (29, 0, 0, 0)]
/-- ReedBench$State.isWanted(I)Z -/
def xk_33 : List xI := [(2, 0, 1, 1), (9, 0, 2, 24), (0, 0, 0, 0), (0, 0, 0, 0), (2, 0, 1, 1), (1, 8, 2, 0), (0, 0, 0, 0), (10, 0, 3, 24), (0, 0, 0, 0), (0, 0, 0, 0), (3, 0, 0, 1), (12, 142, 4, 1), (0, 0, 0, 0), (0, 0, 0, 0), (2, 0, 1, 1), (14, 0, 0, 0), (1, (-1), 1, 0), (10, 0, 0, 24), (0, 0, 0, 0), (0, 0, 0, 0), (1, 1, 1, 0), (11, 0, 0, 25), (0, 0, 0, 0), (0, 0, 0, 0), (1, 0, 1, 0), (29, 0, 0, 0)]
/-- ReedBench.of(II)I -/
def xk_34 : List xI := [(3, 0, 0, 1), (12, 268, 6, 0), (0, 0, 0, 0), (0, 0, 0, 0), (2, 0, 1, 1), (28, 397, 19, 2), (0, 0, 0, 0), (0, 0, 0, 0), (9, 0, 1, 14), (0, 0, 0, 0), (0, 0, 0, 0), (1, (-100000), 2, 357), (0, 0, 0, 0), (29, 0, 0, 0), (3, 0, 0, 1), (12, 268, 6, 0), (0, 0, 0, 0), (0, 0, 0, 0), (12, 139, 4, 0), (0, 0, 0, 0), (0, 0, 0, 0), (2, 0, 1, 1), (16, 0, 0, 0), (5, 0, 3, 1), (2, 0, 2, 1), (32, 0, 103, 43), (0, 0, 0, 0), (0, 0, 0, 0), (0, 0, 0, 0), (0, 0, 0, 0), (0, 0, 0, 0), (0, 0, 0, 0), (0, 0, 0, 0), (0, 0, 0, 0), (0, 0, 0, 0), (0, 0, 0, 0), (0, 0, 0, 0), (0, 0, 0, 0), (0, 0, 0, 0), (0, 0, 0, 0), (0, 0, 0, 0), (0, 0, 0, 0), (0, 0, 0, 0), (0, 0, 0, 0), (0, 0, 0, 0), (0, 0, 0, 0), (0, 0, 0, 0), (0, 0, 0, 0), (0, 0, 0, 0), (0, 0, 0, 0), (0, 0, 0, 0), (0, 0, 0, 0), (0, 0, 0, 0), (0, 0, 0, 0), (0, 0, 0, 0), (0, 0, 0, 0), (0, 0, 0, 0), (0, 0, 0, 0), (0, 0, 0, 0), (0, 0, 0, 0), (0, 0, 0, 0), (0, 0, 0, 0), (0, 0, 0, 0), (0, 0, 0, 0), (0, 0, 0, 0), (0, 0, 0, 0), (0, 0, 0, 0), (0, 0, 0, 0), (3, 0, 3, 1), (12, 102, 3, 0), (0, 0, 0, 0), (0, 0, 0, 0), (29, 0, 0, 0), (3, 0, 3, 1), (12, 105, 3, 1), (0, 0, 0, 0), (0, 0, 0, 0), (29, 0, 0, 0), (3, 0, 3, 1), (12, 108, 3, 2), (0, 0, 0, 0), (0, 0, 0, 0), (29, 0, 0, 0), (3, 0, 3, 1), (12, 111, 3, 3), (0, 0, 0, 0), (0, 0, 0, 0), (29, 0, 0, 0), (3, 0, 3, 1), (12, 114, 3, 4), (0, 0, 0, 0), (0, 0, 0, 0), (29, 0, 0, 0), (3, 0, 3, 1), (12, 116, 3, 5), (0, 0, 0, 0), (0, 0, 0, 0), (29, 0, 0, 0), (3, 0, 3, 1), (12, 118, 3, 6), (0, 0, 0, 0), (0, 0, 0, 0), (29, 0, 0, 0), (1, (-100000), 2, 357), (0, 0, 0, 0), (29, 0, 0, 0)]
/-- ReedBench.work(III)I -/
def xk_35 : List xI := [(3, 0, 0, 1), (12, 268, 6, 0), (0, 0, 0, 0), (0, 0, 0, 0), (2, 0, 1, 1), (28, 397, 19, 2), (0, 0, 0, 0), (0, 0, 0, 0), (9, 0, 0, 22), (0, 0, 0, 0), (0, 0, 0, 0), (3, 0, 0, 1), (12, 268, 6, 0), (0, 0, 0, 0), (0, 0, 0, 0), (2, 0, 2, 1), (28, 402, 33, 2), (0, 0, 0, 0), (0, 0, 0, 0), (9, 0, 1, 24), (0, 0, 0, 0), (0, 0, 0, 0), (1, (-1), 1, 0), (29, 0, 0, 0), (3, 0, 0, 1), (12, 270, 6, 2), (0, 0, 0, 0), (0, 0, 0, 0), (3, 0, 0, 1), (12, 268, 6, 0), (0, 0, 0, 0), (0, 0, 0, 0), (2, 0, 1, 1), (2, 0, 2, 1), (28, 403, 36, 4), (0, 0, 0, 0), (0, 0, 0, 0), (4, 0, 4, 2), (0, 0, 0, 0), (2, 0, 4, 2), (0, 0, 0, 0), (1, 268435456, 2, 415), (0, 0, 0, 0), (10, 0, 1, 48), (0, 0, 0, 0), (0, 0, 0, 0), (1, (-1), 1, 0), (29, 0, 0, 0), (2, 0, 3, 1), (32, 0, 94, 27), (0, 0, 0, 0), (0, 0, 0, 0), (0, 0, 0, 0), (0, 0, 0, 0), (0, 0, 0, 0), (0, 0, 0, 0), (0, 0, 0, 0), (0, 0, 0, 0), (0, 0, 0, 0), (0, 0, 0, 0), (0, 0, 0, 0), (0, 0, 0, 0), (0, 0, 0, 0), (0, 0, 0, 0), (0, 0, 0, 0), (0, 0, 0, 0), (0, 0, 0, 0), (0, 0, 0, 0), (0, 0, 0, 0), (0, 0, 0, 0), (0, 0, 0, 0), (0, 0, 0, 0), (0, 0, 0, 0), (0, 0, 0, 0), (0, 0, 0, 0), (0, 0, 0, 0), (2, 0, 4, 2), (0, 0, 0, 0), (28, 416, 39, 1), (0, 0, 0, 0), (0, 0, 0, 0), (29, 0, 0, 0), (2, 0, 4, 2), (0, 0, 0, 0), (28, 419, 40, 1), (0, 0, 0, 0), (0, 0, 0, 0), (29, 0, 0, 0), (2, 0, 4, 2), (0, 0, 0, 0), (28, 422, 41, 1), (0, 0, 0, 0), (0, 0, 0, 0), (29, 0, 0, 0), (1, (-1), 1, 0), (29, 0, 0, 0)]
/-- ReedBench$Works.slotKey(LReedBench$State;II)I -/
def xk_36 : List xI := [(3, 0, 1, 1), (2, 0, 2, 1), (2, 0, 3, 1), (3, 0, 0, 1), (12, 209, 5, 1), (0, 0, 0, 0), (0, 0, 0, 0), (28, 407, 37, 4), (0, 0, 0, 0), (0, 0, 0, 0), (1, 268435456, 2, 410), (0, 0, 0, 0), (4, 0, 4, 2), (0, 0, 0, 0), (1, 0, 1, 0), (4, 0, 5, 2), (0, 0, 0, 0), (2, 0, 5, 2), (0, 0, 0, 0), (1, 2, 1, 0), (3, 0, 1, 1), (12, 160, 4, 6), (0, 0, 0, 0), (0, 0, 0, 0), (7, 0, 2, 0), (10, 0, 4, 48), (0, 0, 0, 0), (0, 0, 0, 0), (2, 0, 4, 2), (0, 0, 0, 0), (3, 0, 0, 1), (12, 209, 5, 1), (0, 0, 0, 0), (0, 0, 0, 0), (2, 0, 5, 2), (0, 0, 0, 0), (14, 0, 0, 0), (33, 414, 0, 0), (0, 0, 0, 0), (0, 0, 0, 0), (4, 0, 4, 2), (0, 0, 0, 0), (6, 1, 5, 0), (0, 0, 0, 0), (0, 0, 0, 0), (11, 0, 0, 17), (0, 0, 0, 0), (0, 0, 0, 0), (2, 0, 4, 2), (0, 0, 0, 0), (29, 0, 0, 0)]
/-- ReedBench$Works.fillNear(LReedBench$State;II[I)V -/
def xk_37 : List xI := [(3, 0, 0, 1), (12, 141, 4, 0), (0, 0, 0, 0), (0, 0, 0, 0), (2, 0, 1, 1), (16, 0, 0, 0), (5, 0, 4, 2), (0, 0, 0, 0), (3, 0, 0, 1), (12, 144, 4, 1), (0, 0, 0, 0), (0, 0, 0, 0), (2, 0, 2, 1), (14, 0, 0, 0), (3, 0, 0, 1), (12, 160, 4, 6), (0, 0, 0, 0), (0, 0, 0, 0), (7, 0, 1, 0), (4, 0, 5, 2), (0, 0, 0, 0), (1, 2, 1, 0), (3, 0, 0, 1), (12, 160, 4, 6), (0, 0, 0, 0), (0, 0, 0, 0), (7, 0, 2, 0), (4, 0, 6, 2), (0, 0, 0, 0), (1, 0, 1, 0), (4, 0, 7, 2), (0, 0, 0, 0), (2, 0, 7, 2), (0, 0, 0, 0), (2, 0, 6, 2), (0, 0, 0, 0), (10, 0, 4, 51), (0, 0, 0, 0), (0, 0, 0, 0), (3, 0, 3, 1), (2, 0, 7, 2), (0, 0, 0, 0), (1, 268435456, 2, 410), (0, 0, 0, 0), (15, 0, 0, 0), (6, 1, 7, 0), (0, 0, 0, 0), (0, 0, 0, 0), (11, 0, 0, 32), (0, 0, 0, 0), (0, 0, 0, 0), (1, 0, 1, 0), (4, 0, 7, 2), (0, 0, 0, 0), (2, 0, 7, 2), (0, 0, 0, 0), (3, 0, 4, 2), (0, 0, 0, 0), (12, 109, 3, 2), (0, 0, 0, 0), (0, 0, 0, 0), (10, 0, 4, 150), (0, 0, 0, 0), (0, 0, 0, 0), (3, 0, 4, 2), (0, 0, 0, 0), (12, 103, 3, 0), (0, 0, 0, 0), (0, 0, 0, 0), (2, 0, 7, 2), (0, 0, 0, 0), (3, 0, 0, 1), (12, 157, 4, 5), (0, 0, 0, 0), (0, 0, 0, 0), (7, 0, 2, 0), (7, 0, 0, 0), (2, 0, 5, 2), (0, 0, 0, 0), (7, 0, 1, 0), (4, 0, 8, 2), (0, 0, 0, 0), (1, 0, 1, 0), (4, 0, 9, 2), (0, 0, 0, 0), (2, 0, 9, 2), (0, 0, 0, 0), (3, 0, 4, 2), (0, 0, 0, 0), (12, 106, 3, 1), (0, 0, 0, 0), (0, 0, 0, 0), (10, 0, 3, 144), (0, 0, 0, 0), (0, 0, 0, 0), (2, 0, 8, 2), (0, 0, 0, 0), (9, 0, 2, 144), (0, 0, 0, 0), (0, 0, 0, 0), (2, 0, 8, 2), (0, 0, 0, 0), (2, 0, 6, 2), (0, 0, 0, 0), (10, 0, 4, 125), (0, 0, 0, 0), (0, 0, 0, 0), (3, 0, 3, 1), (2, 0, 8, 2), (0, 0, 0, 0), (3, 0, 3, 1), (2, 0, 8, 2), (0, 0, 0, 0), (14, 0, 0, 0), (2, 0, 7, 2), (0, 0, 0, 0), (2, 0, 9, 2), (0, 0, 0, 0), (28, 411, 38, 2), (0, 0, 0, 0), (0, 0, 0, 0), (33, 414, 0, 0), (0, 0, 0, 0), (0, 0, 0, 0), (15, 0, 0, 0), (2, 0, 8, 2), (0, 0, 0, 0), (3, 0, 4, 2), (0, 0, 0, 0), (12, 106, 3, 1), (0, 0, 0, 0), (0, 0, 0, 0), (2, 0, 9, 2), (0, 0, 0, 0), (7, 0, 1, 0), (7, 0, 1, 0), (4, 0, 8, 2), (0, 0, 0, 0), (6, 1, 9, 0), (0, 0, 0, 0), (0, 0, 0, 0), (11, 0, 0, 85), (0, 0, 0, 0), (0, 0, 0, 0), (6, 1, 7, 0), (0, 0, 0, 0), (0, 0, 0, 0), (11, 0, 0, 54), (0, 0, 0, 0), (0, 0, 0, 0), (30, 0, 0, 0)]
/-- ReedBench$Works.keyOf(II)I -/
def xk_38 : List xI := [(2, 0, 0, 1), (2, 0, 1, 1), (7, 0, 0, 0), (1, 32, 2, 0), (0, 0, 0, 0), (7, 0, 2, 0), (2, 0, 0, 1), (7, 0, 0, 0), (29, 0, 0, 0)]
/-- ReedBench$Works.strokesOf(I)I -/
def xk_39 : List xI := [(2, 0, 0, 1), (1, 32, 2, 0), (0, 0, 0, 0), (7, 0, 3, 0), (29, 0, 0, 0)]
/-- ReedBench$Works.tipOf(I)I -/
def xk_40 : List xI := [(2, 0, 0, 1), (1, 32, 2, 0), (0, 0, 0, 0), (7, 0, 4, 0), (29, 0, 0, 0)]
/-- ReedBench$Works.rootOf(I)I -/
def xk_41 : List xI := [(2, 0, 0, 1), (28, 425, 39, 1), (0, 0, 0, 0), (0, 0, 0, 0), (2, 0, 0, 1), (28, 426, 40, 1), (0, 0, 0, 0), (0, 0, 0, 0), (7, 0, 1, 0), (29, 0, 0, 0)]
/-- ReedBench.pairWork(IIII)I -/
def xk_42 : List xI := [(3, 0, 0, 1), (12, 268, 6, 0), (0, 0, 0, 0), (0, 0, 0, 0), (2, 0, 1, 1), (28, 397, 19, 2), (0, 0, 0, 0), (0, 0, 0, 0), (9, 0, 0, 38), (0, 0, 0, 0), (0, 0, 0, 0), (3, 0, 0, 1), (12, 268, 6, 0), (0, 0, 0, 0), (0, 0, 0, 0), (2, 0, 2, 1), (28, 397, 19, 2), (0, 0, 0, 0), (0, 0, 0, 0), (9, 0, 0, 38), (0, 0, 0, 0), (0, 0, 0, 0), (2, 0, 1, 1), (2, 0, 2, 1), (10, 0, 0, 38), (0, 0, 0, 0), (0, 0, 0, 0), (3, 0, 0, 1), (12, 268, 6, 0), (0, 0, 0, 0), (0, 0, 0, 0), (2, 0, 3, 1), (28, 431, 43, 2), (0, 0, 0, 0), (0, 0, 0, 0), (9, 0, 1, 40), (0, 0, 0, 0), (0, 0, 0, 0), (1, (-1), 1, 0), (29, 0, 0, 0), (3, 0, 0, 1), (12, 270, 6, 2), (0, 0, 0, 0), (0, 0, 0, 0), (3, 0, 0, 1), (12, 268, 6, 0), (0, 0, 0, 0), (0, 0, 0, 0), (2, 0, 1, 1), (2, 0, 2, 1), (2, 0, 3, 1), (28, 435, 44, 5), (0, 0, 0, 0), (0, 0, 0, 0), (4, 0, 5, 2), (0, 0, 0, 0), (2, 0, 5, 2), (0, 0, 0, 0), (1, 268435456, 2, 415), (0, 0, 0, 0), (10, 0, 1, 65), (0, 0, 0, 0), (0, 0, 0, 0), (1, (-1), 1, 0), (29, 0, 0, 0), (2, 0, 4, 2), (0, 0, 0, 0), (32, 0, 130, 33), (0, 0, 0, 0), (0, 0, 0, 0), (0, 0, 0, 0), (0, 0, 0, 0), (0, 0, 0, 0), (0, 0, 0, 0), (0, 0, 0, 0), (0, 0, 0, 0), (0, 0, 0, 0), (0, 0, 0, 0), (0, 0, 0, 0), (0, 0, 0, 0), (0, 0, 0, 0), (0, 0, 0, 0), (0, 0, 0, 0), (0, 0, 0, 0), (0, 0, 0, 0), (0, 0, 0, 0), (0, 0, 0, 0), (0, 0, 0, 0), (0, 0, 0, 0), (0, 0, 0, 0), (0, 0, 0, 0), (0, 0, 0, 0), (0, 0, 0, 0), (0, 0, 0, 0), (0, 0, 0, 0), (0, 0, 0, 0), (0, 0, 0, 0), (0, 0, 0, 0), (0, 0, 0, 0), (0, 0, 0, 0), (2, 0, 5, 2), (0, 0, 0, 0), (28, 462, 51, 1), (0, 0, 0, 0), (0, 0, 0, 0), (29, 0, 0, 0), (2, 0, 5, 2), (0, 0, 0, 0), (28, 465, 52, 1), (0, 0, 0, 0), (0, 0, 0, 0), (29, 0, 0, 0), (2, 0, 5, 2), (0, 0, 0, 0), (28, 468, 53, 1), (0, 0, 0, 0), (0, 0, 0, 0), (29, 0, 0, 0), (2, 0, 5, 2), (0, 0, 0, 0), (28, 471, 54, 1), (0, 0, 0, 0), (0, 0, 0, 0), (29, 0, 0, 0), (2, 0, 5, 2), (0, 0, 0, 0), (28, 474, 55, 1), (0, 0, 0, 0), (0, 0, 0, 0), (29, 0, 0, 0), (1, (-1), 1, 0), (29, 0, 0, 0)]
/-- ReedBench$State.isWantedPair(I)Z -/
def xk_43 : List xI := [(2, 0, 1, 1), (9, 0, 2, 35), (0, 0, 0, 0), (0, 0, 0, 0), (2, 0, 1, 1), (1, 4, 1, 0), (10, 0, 3, 35), (0, 0, 0, 0), (0, 0, 0, 0), (3, 0, 0, 1), (1, 2, 1, 0), (2, 0, 1, 1), (7, 0, 2, 0), (28, 389, 33, 2), (0, 0, 0, 0), (0, 0, 0, 0), (9, 0, 0, 35), (0, 0, 0, 0), (0, 0, 0, 0), (3, 0, 0, 1), (1, 2, 1, 0), (2, 0, 1, 1), (7, 0, 2, 0), (1, 1, 1, 0), (7, 0, 0, 0), (28, 389, 33, 2), (0, 0, 0, 0), (0, 0, 0, 0), (9, 0, 0, 35), (0, 0, 0, 0), (0, 0, 0, 0), (1, 1, 1, 0), (11, 0, 0, 36), (0, 0, 0, 0), (0, 0, 0, 0), (1, 0, 1, 0), (29, 0, 0, 0)]
/-- ReedBench$Works.pairKey(LReedBench$State;III)I -/
def xk_44 : List xI := [(3, 0, 0, 1), (3, 0, 1, 1), (2, 0, 2, 1), (2, 0, 4, 2), (0, 0, 0, 0), (28, 439, 45, 4), (0, 0, 0, 0), (0, 0, 0, 0), (3, 0, 0, 1), (3, 0, 1, 1), (2, 0, 3, 1), (2, 0, 4, 2), (0, 0, 0, 0), (28, 443, 46, 4), (0, 0, 0, 0), (0, 0, 0, 0), (3, 0, 0, 1), (3, 0, 1, 1), (2, 0, 2, 1), (28, 454, 49, 3), (0, 0, 0, 0), (0, 0, 0, 0), (29, 0, 0, 0)]
/-- ReedBench$Works.fillFirst(LReedBench$State;II)V -/
def xk_45 : List xI := [(3, 0, 1, 1), (2, 0, 2, 1), (1, 2, 1, 0), (2, 0, 3, 1), (7, 0, 2, 0), (3, 0, 0, 1), (12, 208, 5, 0), (0, 0, 0, 0), (0, 0, 0, 0), (2, 0, 2, 1), (16, 0, 0, 0), (28, 407, 37, 4), (0, 0, 0, 0), (0, 0, 0, 0), (30, 0, 0, 0)]
/-- ReedBench$Works.fillPartner(LReedBench$State;II)V -/
def xk_46 : List xI := [(3, 0, 1, 1), (2, 0, 2, 1), (1, 2, 1, 0), (2, 0, 3, 1), (7, 0, 2, 0), (1, 1, 1, 0), (7, 0, 0, 0), (3, 0, 0, 1), (12, 209, 5, 1), (0, 0, 0, 0), (0, 0, 0, 0), (28, 407, 37, 4), (0, 0, 0, 0), (0, 0, 0, 0), (1, 2, 1, 0), (3, 0, 1, 1), (12, 160, 4, 6), (0, 0, 0, 0), (0, 0, 0, 0), (7, 0, 2, 0), (4, 0, 4, 2), (0, 0, 0, 0), (3, 0, 1, 1), (12, 144, 4, 1), (0, 0, 0, 0), (0, 0, 0, 0), (1, 2, 1, 0), (2, 0, 3, 1), (7, 0, 2, 0), (1, 1, 1, 0), (7, 0, 0, 0), (14, 0, 0, 0), (3, 0, 1, 1), (12, 144, 4, 1), (0, 0, 0, 0), (0, 0, 0, 0), (1, 2, 1, 0), (2, 0, 3, 1), (7, 0, 2, 0), (14, 0, 0, 0), (7, 0, 1, 0), (4, 0, 5, 2), (0, 0, 0, 0), (3, 0, 1, 1), (2, 0, 3, 1), (28, 447, 29, 2), (0, 0, 0, 0), (0, 0, 0, 0), (4, 0, 6, 2), (0, 0, 0, 0), (1, (-1), 1, 0), (4, 0, 7, 2), (0, 0, 0, 0), (1, 0, 1, 0), (4, 0, 8, 2), (0, 0, 0, 0), (2, 0, 8, 2), (0, 0, 0, 0), (2, 0, 4, 2), (0, 0, 0, 0), (10, 0, 4, 165), (0, 0, 0, 0), (0, 0, 0, 0), (2, 0, 6, 2), (0, 0, 0, 0), (9, 0, 0, 87), (0, 0, 0, 0), (0, 0, 0, 0), (1, 0, 1, 0), (2, 0, 8, 2), (0, 0, 0, 0), (3, 0, 1, 1), (12, 148, 4, 2), (0, 0, 0, 0), (0, 0, 0, 0), (2, 0, 3, 1), (14, 0, 0, 0), (7, 0, 0, 0), (2, 0, 5, 2), (0, 0, 0, 0), (7, 0, 1, 0), (34, 448, 0, 0), (0, 0, 0, 0), (0, 0, 0, 0), (11, 0, 0, 88), (0, 0, 0, 0), (0, 0, 0, 0), (1, 0, 1, 0), (4, 0, 9, 2), (0, 0, 0, 0), (2, 0, 6, 2), (0, 0, 0, 0), (9, 0, 0, 115), (0, 0, 0, 0), (0, 0, 0, 0), (2, 0, 4, 2), (0, 0, 0, 0), (2, 0, 8, 2), (0, 0, 0, 0), (3, 0, 1, 1), (12, 151, 4, 3), (0, 0, 0, 0), (0, 0, 0, 0), (2, 0, 3, 1), (14, 0, 0, 0), (7, 0, 0, 0), (2, 0, 5, 2), (0, 0, 0, 0), (7, 0, 1, 0), (33, 414, 0, 0), (0, 0, 0, 0), (0, 0, 0, 0), (11, 0, 0, 117), (0, 0, 0, 0), (0, 0, 0, 0), (2, 0, 4, 2), (0, 0, 0, 0), (4, 0, 10, 2), (0, 0, 0, 0), (3, 0, 0, 1), (12, 209, 5, 1), (0, 0, 0, 0), (0, 0, 0, 0), (2, 0, 9, 2), (0, 0, 0, 0), (2, 0, 10, 2), (0, 0, 0, 0), (2, 0, 7, 2), (0, 0, 0, 0), (28, 451, 48, 4), (0, 0, 0, 0), (0, 0, 0, 0), (4, 0, 7, 2), (0, 0, 0, 0), (3, 0, 0, 1), (12, 210, 5, 2), (0, 0, 0, 0), (0, 0, 0, 0), (2, 0, 8, 2), (0, 0, 0, 0), (2, 0, 7, 2), (0, 0, 0, 0), (1, (-1), 1, 0), (10, 0, 1, 151), (0, 0, 0, 0), (0, 0, 0, 0), (1, 268435456, 2, 410), (0, 0, 0, 0), (11, 0, 0, 158), (0, 0, 0, 0), (0, 0, 0, 0), (3, 0, 0, 1), (12, 209, 5, 1), (0, 0, 0, 0), (0, 0, 0, 0), (2, 0, 7, 2), (0, 0, 0, 0), (14, 0, 0, 0), (15, 0, 0, 0), (6, 1, 8, 0), (0, 0, 0, 0), (0, 0, 0, 0), (11, 0, 0, 56), (0, 0, 0, 0), (0, 0, 0, 0), (30, 0, 0, 0)]
/-- java/lang/Math.max(II)I -/
def xk_47 : List xI := [(2, 0, 0, 1), (2, 0, 1, 1), (10, 0, 2, 9), (0, 0, 0, 0), (0, 0, 0, 0), (2, 0, 0, 1), (11, 0, 0, 10), (0, 0, 0, 0), (0, 0, 0, 0), (2, 0, 1, 1), (29, 0, 0, 0)]
/-- ReedBench$Works.leastPlace([IIII)I -/
def xk_48 : List xI := [(2, 0, 3, 1), (2, 0, 1, 1), (10, 0, 2, 9), (0, 0, 0, 0), (0, 0, 0, 0), (1, 1, 1, 0), (11, 0, 0, 10), (0, 0, 0, 0), (0, 0, 0, 0), (1, 0, 1, 0), (4, 0, 4, 2), (0, 0, 0, 0), (2, 0, 4, 2), (0, 0, 0, 0), (9, 0, 0, 21), (0, 0, 0, 0), (0, 0, 0, 0), (2, 0, 3, 1), (11, 0, 0, 22), (0, 0, 0, 0), (0, 0, 0, 0), (1, (-1), 1, 0), (4, 0, 5, 2), (0, 0, 0, 0), (2, 0, 4, 2), (0, 0, 0, 0), (9, 0, 0, 33), (0, 0, 0, 0), (0, 0, 0, 0), (2, 0, 2, 1), (11, 0, 0, 34), (0, 0, 0, 0), (0, 0, 0, 0), (2, 0, 1, 1), (4, 0, 6, 2), (0, 0, 0, 0), (2, 0, 6, 2), (0, 0, 0, 0), (2, 0, 2, 1), (10, 0, 4, 69), (0, 0, 0, 0), (0, 0, 0, 0), (2, 0, 5, 2), (0, 0, 0, 0), (1, (-1), 1, 0), (10, 0, 0, 59), (0, 0, 0, 0), (0, 0, 0, 0), (3, 0, 0, 1), (2, 0, 6, 2), (0, 0, 0, 0), (14, 0, 0, 0), (3, 0, 0, 1), (2, 0, 5, 2), (0, 0, 0, 0), (14, 0, 0, 0), (10, 0, 4, 63), (0, 0, 0, 0), (0, 0, 0, 0), (2, 0, 6, 2), (0, 0, 0, 0), (4, 0, 5, 2), (0, 0, 0, 0), (6, 1, 6, 0), (0, 0, 0, 0), (0, 0, 0, 0), (11, 0, 0, 36), (0, 0, 0, 0), (0, 0, 0, 0), (2, 0, 5, 2), (0, 0, 0, 0), (29, 0, 0, 0)]
/-- ReedBench$Works.joinWithPartner(LReedBench$State;I)I -/
def xk_49 : List xI := [(1, 268435456, 2, 410), (0, 0, 0, 0), (4, 0, 3, 1), (1, 0, 1, 0), (4, 0, 4, 2), (0, 0, 0, 0), (2, 0, 4, 2), (0, 0, 0, 0), (1, 2, 1, 0), (3, 0, 1, 1), (12, 160, 4, 6), (0, 0, 0, 0), (0, 0, 0, 0), (7, 0, 2, 0), (10, 0, 4, 73), (0, 0, 0, 0), (0, 0, 0, 0), (3, 0, 0, 1), (12, 208, 5, 0), (0, 0, 0, 0), (0, 0, 0, 0), (2, 0, 2, 1), (16, 0, 0, 0), (2, 0, 4, 2), (0, 0, 0, 0), (14, 0, 0, 0), (1, 268435456, 2, 410), (0, 0, 0, 0), (10, 0, 0, 67), (0, 0, 0, 0), (0, 0, 0, 0), (3, 0, 0, 1), (12, 210, 5, 2), (0, 0, 0, 0), (0, 0, 0, 0), (2, 0, 4, 2), (0, 0, 0, 0), (14, 0, 0, 0), (1, 268435456, 2, 410), (0, 0, 0, 0), (10, 0, 0, 67), (0, 0, 0, 0), (0, 0, 0, 0), (2, 0, 3, 1), (3, 0, 0, 1), (12, 208, 5, 0), (0, 0, 0, 0), (0, 0, 0, 0), (2, 0, 2, 1), (16, 0, 0, 0), (2, 0, 4, 2), (0, 0, 0, 0), (14, 0, 0, 0), (3, 0, 0, 1), (12, 210, 5, 2), (0, 0, 0, 0), (0, 0, 0, 0), (2, 0, 4, 2), (0, 0, 0, 0), (14, 0, 0, 0), (28, 458, 50, 2), (0, 0, 0, 0), (0, 0, 0, 0), (33, 414, 0, 0), (0, 0, 0, 0), (0, 0, 0, 0), (4, 0, 3, 1), (6, 1, 4, 0), (0, 0, 0, 0), (0, 0, 0, 0), (11, 0, 0, 6), (0, 0, 0, 0), (0, 0, 0, 0), (2, 0, 3, 1), (29, 0, 0, 0)]
/-- ReedBench$Works.joinedKey(II)I -/
def xk_50 : List xI := [(2, 0, 0, 1), (28, 425, 39, 1), (0, 0, 0, 0), (0, 0, 0, 0), (2, 0, 1, 1), (28, 425, 39, 1), (0, 0, 0, 0), (0, 0, 0, 0), (7, 0, 0, 0), (4, 0, 2, 1), (2, 0, 2, 1), (1, 32, 2, 0), (0, 0, 0, 0), (7, 0, 2, 0), (2, 0, 0, 1), (28, 426, 40, 1), (0, 0, 0, 0), (0, 0, 0, 0), (7, 0, 0, 0), (4, 0, 2, 1), (2, 0, 2, 1), (1, 32, 2, 0), (0, 0, 0, 0), (7, 0, 2, 0), (2, 0, 0, 1), (28, 461, 41, 1), (0, 0, 0, 0), (0, 0, 0, 0), (7, 0, 0, 0), (4, 0, 2, 1), (2, 0, 2, 1), (1, 32, 2, 0), (0, 0, 0, 0), (7, 0, 2, 0), (2, 0, 1, 1), (28, 426, 40, 1), (0, 0, 0, 0), (0, 0, 0, 0), (7, 0, 0, 0), (29, 0, 0, 0)]
/-- ReedBench$Works.pairStrokesOf(I)I -/
def xk_51 : List xI := [(2, 0, 0, 1), (1, 15, 2, 0), (0, 0, 0, 0), (7, 0, 9, 0), (29, 0, 0, 0)]
/-- ReedBench$Works.firstTipOf(I)I -/
def xk_52 : List xI := [(2, 0, 0, 1), (1, 10, 2, 0), (0, 0, 0, 0), (7, 0, 9, 0), (1, 31, 2, 0), (0, 0, 0, 0), (7, 0, 5, 0), (29, 0, 0, 0)]
/-- ReedBench$Works.firstRootOf(I)I -/
def xk_53 : List xI := [(2, 0, 0, 1), (1, 5, 1, 0), (7, 0, 9, 0), (1, 31, 2, 0), (0, 0, 0, 0), (7, 0, 5, 0), (29, 0, 0, 0)]
/-- ReedBench$Works.otherTipOf(I)I -/
def xk_54 : List xI := [(2, 0, 0, 1), (1, 31, 2, 0), (0, 0, 0, 0), (7, 0, 5, 0), (29, 0, 0, 0)]
/-- ReedBench$Works.otherRootOf(I)I -/
def xk_55 : List xI := [(2, 0, 0, 1), (28, 477, 51, 1), (0, 0, 0, 0), (0, 0, 0, 0), (2, 0, 0, 1), (28, 478, 52, 1), (0, 0, 0, 0), (0, 0, 0, 0), (7, 0, 1, 0), (2, 0, 0, 1), (28, 479, 53, 1), (0, 0, 0, 0), (0, 0, 0, 0), (7, 0, 1, 0), (2, 0, 0, 1), (28, 480, 54, 1), (0, 0, 0, 0), (0, 0, 0, 0), (7, 0, 1, 0), (29, 0, 0, 0)]
/-- ReedBench.best(I)I -/
def xk_56 : List xI := [(3, 0, 0, 1), (12, 271, 6, 3), (0, 0, 0, 0), (0, 0, 0, 0), (3, 0, 0, 1), (12, 268, 6, 0), (0, 0, 0, 0), (0, 0, 0, 0), (3, 0, 0, 1), (12, 270, 6, 2), (0, 0, 0, 0), (0, 0, 0, 0), (28, 485, 57, 3), (0, 0, 0, 0), (0, 0, 0, 0), (2, 0, 1, 1), (9, 0, 1, 41), (0, 0, 0, 0), (0, 0, 0, 0), (3, 0, 0, 1), (12, 271, 6, 3), (0, 0, 0, 0), (0, 0, 0, 0), (28, 580, 71, 1), (0, 0, 0, 0), (0, 0, 0, 0), (9, 0, 0, 39), (0, 0, 0, 0), (0, 0, 0, 0), (3, 0, 0, 1), (12, 271, 6, 3), (0, 0, 0, 0), (0, 0, 0, 0), (12, 245, 2, 6), (0, 0, 0, 0), (0, 0, 0, 0), (11, 0, 0, 40), (0, 0, 0, 0), (0, 0, 0, 0), (1, (-1), 1, 0), (29, 0, 0, 0), (2, 0, 1, 1), (1, 10, 2, 0), (0, 0, 0, 0), (1, 17, 2, 0), (0, 0, 0, 0), (28, 285, 9, 3), (0, 0, 0, 0), (0, 0, 0, 0), (9, 0, 0, 65), (0, 0, 0, 0), (0, 0, 0, 0), (3, 0, 0, 1), (12, 271, 6, 3), (0, 0, 0, 0), (0, 0, 0, 0), (12, 242, 2, 4), (0, 0, 0, 0), (0, 0, 0, 0), (2, 0, 1, 1), (1, 10, 2, 0), (0, 0, 0, 0), (7, 0, 1, 0), (14, 0, 0, 0), (29, 0, 0, 0), (1, (-1), 1, 0), (29, 0, 0, 0)]
/-- ReedBench$Plan.settle(LReedBench$State;LReedBench$Works;)V -/
def xk_57 : List xI := [(3, 0, 0, 1), (12, 248, 2, 8), (0, 0, 0, 0), (0, 0, 0, 0), (9, 0, 0, 8), (0, 0, 0, 0), (0, 0, 0, 0), (30, 0, 0, 0), (3, 0, 0, 1), (1, 1, 1, 0), (13, 248, 2, 8), (0, 0, 0, 0), (0, 0, 0, 0), (3, 0, 0, 1), (12, 237, 2, 0), (0, 0, 0, 0), (0, 0, 0, 0), (3, 0, 1, 1), (3, 0, 2, 1), (28, 489, 58, 3), (0, 0, 0, 0), (0, 0, 0, 0), (3, 0, 0, 1), (3, 0, 1, 1), (28, 525, 64, 2), (0, 0, 0, 0), (0, 0, 0, 0), (3, 0, 0, 1), (3, 0, 1, 1), (28, 530, 65, 2), (0, 0, 0, 0), (0, 0, 0, 0), (3, 0, 0, 1), (3, 0, 0, 1), (12, 238, 2, 1), (0, 0, 0, 0), (0, 0, 0, 0), (1, 0, 1, 0), (14, 0, 0, 0), (13, 244, 2, 6), (0, 0, 0, 0), (0, 0, 0, 0), (3, 0, 0, 1), (3, 0, 0, 1), (12, 239, 2, 2), (0, 0, 0, 0), (0, 0, 0, 0), (1, 0, 1, 0), (14, 0, 0, 0), (13, 246, 2, 7), (0, 0, 0, 0), (0, 0, 0, 0), (3, 0, 0, 1), (12, 241, 2, 4), (0, 0, 0, 0), (0, 0, 0, 0), (1, (-1), 1, 0), (28, 559, 3, 2), (0, 0, 0, 0), (0, 0, 0, 0), (3, 0, 0, 1), (28, 560, 71, 1), (0, 0, 0, 0), (0, 0, 0, 0), (9, 0, 0, 72), (0, 0, 0, 0), (0, 0, 0, 0), (3, 0, 0, 1), (3, 0, 1, 1), (28, 564, 72, 2), (0, 0, 0, 0), (0, 0, 0, 0), (30, 0, 0, 0)]
/-- ReedBench$Costs.reckon(LReedBench$State;LReedBench$Works;)V -/
def xk_58 : List xI := [(3, 0, 0, 1), (12, 230, 0, 0), (0, 0, 0, 0), (0, 0, 0, 0), (1, 268435456, 2, 493), (0, 0, 0, 0), (28, 494, 3, 2), (0, 0, 0, 0), (0, 0, 0, 0), (3, 0, 0, 1), (12, 231, 0, 1), (0, 0, 0, 0), (0, 0, 0, 0), (1, 268435456, 2, 493), (0, 0, 0, 0), (28, 494, 3, 2), (0, 0, 0, 0), (0, 0, 0, 0), (1, 0, 1, 0), (4, 0, 3, 1), (2, 0, 3, 1), (1, 8, 2, 0), (0, 0, 0, 0), (10, 0, 3, 47), (0, 0, 0, 0), (0, 0, 0, 0), (3, 0, 1, 1), (2, 0, 3, 1), (28, 495, 33, 2), (0, 0, 0, 0), (0, 0, 0, 0), (9, 0, 0, 41), (0, 0, 0, 0), (0, 0, 0, 0), (3, 0, 0, 1), (3, 0, 1, 1), (3, 0, 2, 1), (2, 0, 3, 1), (28, 496, 59, 4), (0, 0, 0, 0), (0, 0, 0, 0), (6, 1, 3, 0), (0, 0, 0, 0), (0, 0, 0, 0), (11, 0, 0, 20), (0, 0, 0, 0), (0, 0, 0, 0), (1, 0, 1, 0), (4, 0, 3, 1), (2, 0, 3, 1), (1, 4, 1, 0), (10, 0, 3, 75), (0, 0, 0, 0), (0, 0, 0, 0), (3, 0, 1, 1), (2, 0, 3, 1), (28, 503, 60, 2), (0, 0, 0, 0), (0, 0, 0, 0), (9, 0, 0, 69), (0, 0, 0, 0), (0, 0, 0, 0), (3, 0, 0, 1), (3, 0, 1, 1), (3, 0, 2, 1), (2, 0, 3, 1), (28, 509, 61, 4), (0, 0, 0, 0), (0, 0, 0, 0), (6, 1, 3, 0), (0, 0, 0, 0), (0, 0, 0, 0), (11, 0, 0, 49), (0, 0, 0, 0), (0, 0, 0, 0), (30, 0, 0, 0)]
/-- ReedBench$Costs.reckonSlot(LReedBench$State;LReedBench$Works;I)V -/
def xk_59 : List xI := [(1, 0, 1, 0), (4, 0, 4, 2), (0, 0, 0, 0), (2, 0, 4, 2), (0, 0, 0, 0), (1, 12, 2, 0), (0, 0, 0, 0), (10, 0, 3, 64), (0, 0, 0, 0), (0, 0, 0, 0), (3, 0, 1, 1), (2, 0, 4, 2), (0, 0, 0, 0), (28, 500, 18, 2), (0, 0, 0, 0), (0, 0, 0, 0), (9, 0, 0, 30), (0, 0, 0, 0), (0, 0, 0, 0), (3, 0, 2, 1), (3, 0, 1, 1), (2, 0, 4, 2), (0, 0, 0, 0), (2, 0, 3, 1), (28, 501, 36, 4), (0, 0, 0, 0), (0, 0, 0, 0), (11, 0, 0, 32), (0, 0, 0, 0), (0, 0, 0, 0), (1, 268435456, 2, 493), (0, 0, 0, 0), (4, 0, 5, 2), (0, 0, 0, 0), (2, 0, 5, 2), (0, 0, 0, 0), (1, 268435456, 2, 493), (0, 0, 0, 0), (10, 0, 0, 58), (0, 0, 0, 0), (0, 0, 0, 0), (3, 0, 0, 1), (12, 230, 0, 0), (0, 0, 0, 0), (0, 0, 0, 0), (2, 0, 3, 1), (1, 12, 2, 0), (0, 0, 0, 0), (7, 0, 2, 0), (2, 0, 4, 2), (0, 0, 0, 0), (7, 0, 0, 0), (2, 0, 5, 2), (0, 0, 0, 0), (28, 502, 39, 1), (0, 0, 0, 0), (0, 0, 0, 0), (15, 0, 0, 0), (6, 1, 4, 0), (0, 0, 0, 0), (0, 0, 0, 0), (11, 0, 0, 3), (0, 0, 0, 0), (0, 0, 0, 0), (30, 0, 0, 0)]
/-- ReedBench$State.mustBeat(I)Z -/
def xk_60 : List xI := [(3, 0, 0, 1), (2, 0, 1, 1), (28, 507, 29, 2), (0, 0, 0, 0), (0, 0, 0, 0), (9, 0, 0, 20), (0, 0, 0, 0), (0, 0, 0, 0), (3, 0, 0, 1), (2, 0, 1, 1), (28, 508, 43, 2), (0, 0, 0, 0), (0, 0, 0, 0), (9, 0, 0, 20), (0, 0, 0, 0), (0, 0, 0, 0), (1, 1, 1, 0), (11, 0, 0, 21), (0, 0, 0, 0), (0, 0, 0, 0), (1, 0, 1, 0), (29, 0, 0, 0)]
/-- ReedBench$Costs.reckonPair(LReedBench$State;LReedBench$Works;I)V -/
def xk_61 : List xI := [(1, 0, 1, 0), (4, 0, 4, 2), (0, 0, 0, 0), (2, 0, 4, 2), (0, 0, 0, 0), (1, 12, 2, 0), (0, 0, 0, 0), (10, 0, 3, 38), (0, 0, 0, 0), (0, 0, 0, 0), (3, 0, 0, 1), (1, 2, 1, 0), (2, 0, 3, 1), (7, 0, 2, 0), (2, 0, 4, 2), (0, 0, 0, 0), (28, 513, 62, 3), (0, 0, 0, 0), (0, 0, 0, 0), (1, 268435456, 2, 493), (0, 0, 0, 0), (10, 0, 0, 32), (0, 0, 0, 0), (0, 0, 0, 0), (3, 0, 2, 1), (3, 0, 1, 1), (2, 0, 4, 2), (0, 0, 0, 0), (2, 0, 3, 1), (28, 517, 45, 4), (0, 0, 0, 0), (0, 0, 0, 0), (6, 1, 4, 0), (0, 0, 0, 0), (0, 0, 0, 0), (11, 0, 0, 3), (0, 0, 0, 0), (0, 0, 0, 0), (1, 0, 1, 0), (4, 0, 4, 2), (0, 0, 0, 0), (2, 0, 4, 2), (0, 0, 0, 0), (1, 12, 2, 0), (0, 0, 0, 0), (10, 0, 3, 87), (0, 0, 0, 0), (0, 0, 0, 0), (3, 0, 0, 1), (1, 2, 1, 0), (2, 0, 3, 1), (7, 0, 2, 0), (1, 1, 1, 0), (7, 0, 0, 0), (2, 0, 4, 2), (0, 0, 0, 0), (28, 513, 62, 3), (0, 0, 0, 0), (0, 0, 0, 0), (1, 268435456, 2, 493), (0, 0, 0, 0), (10, 0, 0, 81), (0, 0, 0, 0), (0, 0, 0, 0), (3, 0, 2, 1), (3, 0, 1, 1), (2, 0, 4, 2), (0, 0, 0, 0), (2, 0, 3, 1), (28, 518, 46, 4), (0, 0, 0, 0), (0, 0, 0, 0), (3, 0, 0, 1), (3, 0, 1, 1), (3, 0, 2, 1), (2, 0, 3, 1), (2, 0, 4, 2), (0, 0, 0, 0), (28, 519, 63, 5), (0, 0, 0, 0), (0, 0, 0, 0), (6, 1, 4, 0), (0, 0, 0, 0), (0, 0, 0, 0), (11, 0, 0, 41), (0, 0, 0, 0), (0, 0, 0, 0), (30, 0, 0, 0)]
/-- ReedBench$Costs.ofSlot(II)I -/
def xk_62 : List xI := [(3, 0, 0, 1), (12, 230, 0, 0), (0, 0, 0, 0), (0, 0, 0, 0), (2, 0, 1, 1), (1, 12, 2, 0), (0, 0, 0, 0), (7, 0, 2, 0), (2, 0, 2, 1), (7, 0, 0, 0), (14, 0, 0, 0), (29, 0, 0, 0)]
/-- ReedBench$Costs.reckonPartner(LReedBench$State;LReedBench$Works;II)V -/
def xk_63 : List xI := [(1, 0, 1, 0), (4, 0, 5, 2), (0, 0, 0, 0), (2, 0, 5, 2), (0, 0, 0, 0), (1, 12, 2, 0), (0, 0, 0, 0), (10, 0, 3, 81), (0, 0, 0, 0), (0, 0, 0, 0), (2, 0, 5, 2), (0, 0, 0, 0), (2, 0, 4, 2), (0, 0, 0, 0), (10, 0, 0, 41), (0, 0, 0, 0), (0, 0, 0, 0), (3, 0, 0, 1), (1, 2, 1, 0), (2, 0, 3, 1), (7, 0, 2, 0), (2, 0, 5, 2), (0, 0, 0, 0), (28, 513, 62, 3), (0, 0, 0, 0), (0, 0, 0, 0), (1, 268435456, 2, 493), (0, 0, 0, 0), (10, 0, 0, 41), (0, 0, 0, 0), (0, 0, 0, 0), (3, 0, 2, 1), (3, 0, 1, 1), (2, 0, 5, 2), (0, 0, 0, 0), (28, 523, 49, 3), (0, 0, 0, 0), (0, 0, 0, 0), (11, 0, 0, 43), (0, 0, 0, 0), (0, 0, 0, 0), (1, 268435456, 2, 493), (0, 0, 0, 0), (4, 0, 6, 2), (0, 0, 0, 0), (2, 0, 6, 2), (0, 0, 0, 0), (1, 268435456, 2, 493), (0, 0, 0, 0), (10, 0, 0, 75), (0, 0, 0, 0), (0, 0, 0, 0), (3, 0, 0, 1), (12, 231, 0, 1), (0, 0, 0, 0), (0, 0, 0, 0), (2, 0, 3, 1), (1, 12, 2, 0), (0, 0, 0, 0), (7, 0, 2, 0), (2, 0, 5, 2), (0, 0, 0, 0), (7, 0, 0, 0), (1, 12, 2, 0), (0, 0, 0, 0), (7, 0, 2, 0), (2, 0, 4, 2), (0, 0, 0, 0), (7, 0, 0, 0), (2, 0, 6, 2), (0, 0, 0, 0), (28, 524, 51, 1), (0, 0, 0, 0), (0, 0, 0, 0), (15, 0, 0, 0), (6, 1, 5, 0), (0, 0, 0, 0), (0, 0, 0, 0), (11, 0, 0, 3), (0, 0, 0, 0), (0, 0, 0, 0), (30, 0, 0, 0)]
/-- ReedBench$Plan.putInOrder(LReedBench$State;)V -/
def xk_64 : List xI := [(3, 0, 0, 1), (1, 0, 1, 0), (13, 243, 2, 5), (0, 0, 0, 0), (0, 0, 0, 0), (1, 0, 1, 0), (4, 0, 2, 1), (2, 0, 2, 1), (1, 8, 2, 0), (0, 0, 0, 0), (10, 0, 3, 47), (0, 0, 0, 0), (0, 0, 0, 0), (3, 0, 1, 1), (2, 0, 2, 1), (28, 529, 33, 2), (0, 0, 0, 0), (0, 0, 0, 0), (9, 0, 0, 41), (0, 0, 0, 0), (0, 0, 0, 0), (3, 0, 0, 1), (12, 240, 2, 3), (0, 0, 0, 0), (0, 0, 0, 0), (3, 0, 0, 1), (12, 243, 2, 5), (0, 0, 0, 0), (0, 0, 0, 0), (2, 0, 2, 1), (15, 0, 0, 0), (3, 0, 0, 1), (23, 0, 0, 0), (12, 243, 2, 5), (0, 0, 0, 0), (0, 0, 0, 0), (1, 1, 1, 0), (7, 0, 0, 0), (13, 243, 2, 5), (0, 0, 0, 0), (0, 0, 0, 0), (6, 1, 2, 0), (0, 0, 0, 0), (0, 0, 0, 0), (11, 0, 0, 7), (0, 0, 0, 0), (0, 0, 0, 0), (30, 0, 0, 0)]
/-- ReedBench$Plan.fillRows(LReedBench$State;)V -/
def xk_65 : List xI := [(3, 0, 1, 1), (28, 534, 30, 1), (0, 0, 0, 0), (0, 0, 0, 0), (4, 0, 2, 1), (2, 0, 2, 1), (4, 0, 3, 1), (2, 0, 3, 1), (9, 0, 2, 108), (0, 0, 0, 0), (0, 0, 0, 0), (2, 0, 3, 1), (28, 535, 31, 1), (0, 0, 0, 0), (0, 0, 0, 0), (4, 0, 4, 2), (0, 0, 0, 0), (2, 0, 3, 1), (2, 0, 2, 1), (1, (-1), 1, 0), (7, 0, 7, 0), (7, 0, 5, 0), (9, 0, 1, 102), (0, 0, 0, 0), (0, 0, 0, 0), (2, 0, 4, 2), (0, 0, 0, 0), (3, 0, 0, 1), (12, 243, 2, 5), (0, 0, 0, 0), (0, 0, 0, 0), (10, 0, 4, 102), (0, 0, 0, 0), (0, 0, 0, 0), (3, 0, 0, 1), (12, 238, 2, 1), (0, 0, 0, 0), (0, 0, 0, 0), (2, 0, 3, 1), (2, 0, 4, 2), (0, 0, 0, 0), (3, 0, 0, 1), (12, 243, 2, 5), (0, 0, 0, 0), (0, 0, 0, 0), (10, 0, 1, 52), (0, 0, 0, 0), (0, 0, 0, 0), (1, 0, 1, 0), (11, 0, 0, 54), (0, 0, 0, 0), (0, 0, 0, 0), (1, 268435456, 2, 536), (0, 0, 0, 0), (15, 0, 0, 0), (3, 0, 0, 1), (12, 239, 2, 2), (0, 0, 0, 0), (0, 0, 0, 0), (2, 0, 3, 1), (2, 0, 4, 2), (0, 0, 0, 0), (3, 0, 0, 1), (12, 243, 2, 5), (0, 0, 0, 0), (0, 0, 0, 0), (10, 0, 1, 73), (0, 0, 0, 0), (0, 0, 0, 0), (1, 1, 1, 0), (11, 0, 0, 74), (0, 0, 0, 0), (0, 0, 0, 0), (1, 0, 1, 0), (15, 0, 0, 0), (2, 0, 4, 2), (0, 0, 0, 0), (3, 0, 0, 1), (12, 243, 2, 5), (0, 0, 0, 0), (0, 0, 0, 0), (10, 0, 3, 102), (0, 0, 0, 0), (0, 0, 0, 0), (3, 0, 0, 1), (3, 0, 1, 1), (2, 0, 3, 1), (2, 0, 2, 1), (2, 0, 3, 1), (1, (-1), 1, 0), (7, 0, 7, 0), (7, 0, 5, 0), (3, 0, 0, 1), (12, 240, 2, 3), (0, 0, 0, 0), (0, 0, 0, 0), (2, 0, 4, 2), (0, 0, 0, 0), (14, 0, 0, 0), (28, 537, 66, 5), (0, 0, 0, 0), (0, 0, 0, 0), (6, (-1), 3, 0), (0, 0, 0, 0), (0, 0, 0, 0), (11, 0, 0, 7), (0, 0, 0, 0), (0, 0, 0, 0), (30, 0, 0, 0)]
/-- ReedBench$Plan.fillNext(LReedBench$State;III)V -/
def xk_66 : List xI := [(3, 0, 1, 1), (2, 0, 4, 2), (0, 0, 0, 0), (1, 2, 1, 0), (7, 0, 3, 0), (28, 541, 60, 2), (0, 0, 0, 0), (0, 0, 0, 0), (9, 0, 1, 22), (0, 0, 0, 0), (0, 0, 0, 0), (3, 0, 0, 1), (2, 0, 2, 1), (2, 0, 3, 1), (2, 0, 4, 2), (0, 0, 0, 0), (28, 542, 67, 4), (0, 0, 0, 0), (0, 0, 0, 0), (11, 0, 0, 39), (0, 0, 0, 0), (0, 0, 0, 0), (2, 0, 4, 2), (0, 0, 0, 0), (1, 2, 1, 0), (7, 0, 4, 0), (9, 0, 1, 39), (0, 0, 0, 0), (0, 0, 0, 0), (3, 0, 0, 1), (2, 0, 2, 1), (2, 0, 3, 1), (2, 0, 4, 2), (0, 0, 0, 0), (1, 2, 1, 0), (7, 0, 3, 0), (28, 551, 69, 4), (0, 0, 0, 0), (0, 0, 0, 0), (30, 0, 0, 0)]
/-- ReedBench$Plan.fillBySlot(III)V -/
def xk_67 : List xI := [(1, 0, 1, 0), (4, 0, 4, 2), (0, 0, 0, 0), (2, 0, 4, 2), (0, 0, 0, 0), (1, 12, 2, 0), (0, 0, 0, 0), (10, 0, 3, 62), (0, 0, 0, 0), (0, 0, 0, 0), (2, 0, 2, 1), (2, 0, 4, 2), (0, 0, 0, 0), (7, 0, 9, 0), (1, 1, 1, 0), (7, 0, 5, 0), (1, 1, 1, 0), (10, 0, 1, 56), (0, 0, 0, 0), (0, 0, 0, 0), (3, 0, 0, 1), (12, 237, 2, 0), (0, 0, 0, 0), (0, 0, 0, 0), (2, 0, 3, 1), (2, 0, 4, 2), (0, 0, 0, 0), (28, 546, 62, 3), (0, 0, 0, 0), (0, 0, 0, 0), (1, 268435456, 2, 536), (0, 0, 0, 0), (10, 0, 0, 56), (0, 0, 0, 0), (0, 0, 0, 0), (3, 0, 0, 1), (2, 0, 1, 1), (2, 0, 1, 1), (1, 1, 1, 0), (2, 0, 4, 2), (0, 0, 0, 0), (7, 0, 8, 0), (7, 0, 6, 0), (3, 0, 0, 1), (12, 237, 2, 0), (0, 0, 0, 0), (0, 0, 0, 0), (2, 0, 3, 1), (2, 0, 4, 2), (0, 0, 0, 0), (28, 546, 62, 3), (0, 0, 0, 0), (0, 0, 0, 0), (28, 547, 68, 4), (0, 0, 0, 0), (0, 0, 0, 0), (6, 1, 4, 0), (0, 0, 0, 0), (0, 0, 0, 0), (11, 0, 0, 3), (0, 0, 0, 0), (0, 0, 0, 0), (30, 0, 0, 0)]
/-- ReedBench$Plan.offer(III)V -/
def xk_68 : List xI := [(3, 0, 0, 1), (12, 238, 2, 1), (0, 0, 0, 0), (0, 0, 0, 0), (2, 0, 2, 1), (14, 0, 0, 0), (1, 268435456, 2, 536), (0, 0, 0, 0), (10, 0, 1, 12), (0, 0, 0, 0), (0, 0, 0, 0), (30, 0, 0, 0), (2, 0, 3, 1), (3, 0, 0, 1), (12, 238, 2, 1), (0, 0, 0, 0), (0, 0, 0, 0), (2, 0, 2, 1), (14, 0, 0, 0), (7, 0, 0, 0), (4, 0, 4, 2), (0, 0, 0, 0), (2, 0, 4, 2), (0, 0, 0, 0), (3, 0, 0, 1), (12, 238, 2, 1), (0, 0, 0, 0), (0, 0, 0, 0), (2, 0, 1, 1), (14, 0, 0, 0), (10, 0, 3, 48), (0, 0, 0, 0), (0, 0, 0, 0), (3, 0, 0, 1), (12, 238, 2, 1), (0, 0, 0, 0), (0, 0, 0, 0), (2, 0, 1, 1), (2, 0, 4, 2), (0, 0, 0, 0), (15, 0, 0, 0), (3, 0, 0, 1), (12, 239, 2, 2), (0, 0, 0, 0), (0, 0, 0, 0), (2, 0, 1, 1), (1, 0, 1, 0), (15, 0, 0, 0), (2, 0, 4, 2), (0, 0, 0, 0), (3, 0, 0, 1), (12, 238, 2, 1), (0, 0, 0, 0), (0, 0, 0, 0), (2, 0, 1, 1), (14, 0, 0, 0), (10, 0, 1, 74), (0, 0, 0, 0), (0, 0, 0, 0), (3, 0, 0, 1), (12, 239, 2, 2), (0, 0, 0, 0), (0, 0, 0, 0), (2, 0, 1, 1), (25, 0, 0, 0), (14, 0, 0, 0), (3, 0, 0, 1), (12, 239, 2, 2), (0, 0, 0, 0), (0, 0, 0, 0), (2, 0, 2, 1), (14, 0, 0, 0), (7, 0, 0, 0), (15, 0, 0, 0), (30, 0, 0, 0)]
/-- ReedBench$Plan.fillByPair(III)V -/
def xk_69 : List xI := [(1, 0, 1, 0), (4, 0, 4, 2), (0, 0, 0, 0), (2, 0, 4, 2), (0, 0, 0, 0), (1, 12, 2, 0), (0, 0, 0, 0), (10, 0, 3, 97), (0, 0, 0, 0), (0, 0, 0, 0), (1, 0, 1, 0), (4, 0, 5, 2), (0, 0, 0, 0), (2, 0, 5, 2), (0, 0, 0, 0), (1, 12, 2, 0), (0, 0, 0, 0), (10, 0, 3, 91), (0, 0, 0, 0), (0, 0, 0, 0), (2, 0, 2, 1), (2, 0, 4, 2), (0, 0, 0, 0), (7, 0, 9, 0), (1, 1, 1, 0), (7, 0, 5, 0), (1, 1, 1, 0), (10, 0, 1, 91), (0, 0, 0, 0), (0, 0, 0, 0), (2, 0, 2, 1), (2, 0, 5, 2), (0, 0, 0, 0), (7, 0, 9, 0), (1, 1, 1, 0), (7, 0, 5, 0), (1, 1, 1, 0), (10, 0, 1, 85), (0, 0, 0, 0), (0, 0, 0, 0), (3, 0, 0, 1), (12, 237, 2, 0), (0, 0, 0, 0), (0, 0, 0, 0), (2, 0, 3, 1), (2, 0, 4, 2), (0, 0, 0, 0), (2, 0, 5, 2), (0, 0, 0, 0), (28, 555, 70, 4), (0, 0, 0, 0), (0, 0, 0, 0), (1, 268435456, 2, 536), (0, 0, 0, 0), (10, 0, 0, 85), (0, 0, 0, 0), (0, 0, 0, 0), (3, 0, 0, 1), (2, 0, 1, 1), (2, 0, 1, 1), (1, 1, 1, 0), (2, 0, 4, 2), (0, 0, 0, 0), (7, 0, 8, 0), (7, 0, 6, 0), (1, 1, 1, 0), (2, 0, 5, 2), (0, 0, 0, 0), (7, 0, 8, 0), (7, 0, 6, 0), (3, 0, 0, 1), (12, 237, 2, 0), (0, 0, 0, 0), (0, 0, 0, 0), (2, 0, 3, 1), (2, 0, 4, 2), (0, 0, 0, 0), (2, 0, 5, 2), (0, 0, 0, 0), (28, 555, 70, 4), (0, 0, 0, 0), (0, 0, 0, 0), (28, 547, 68, 4), (0, 0, 0, 0), (0, 0, 0, 0), (6, 1, 5, 0), (0, 0, 0, 0), (0, 0, 0, 0), (11, 0, 0, 13), (0, 0, 0, 0), (0, 0, 0, 0), (6, 1, 4, 0), (0, 0, 0, 0), (0, 0, 0, 0), (11, 0, 0, 3), (0, 0, 0, 0), (0, 0, 0, 0), (30, 0, 0, 0)]
/-- ReedBench$Costs.ofPair(III)I -/
def xk_70 : List xI := [(3, 0, 0, 1), (12, 231, 0, 1), (0, 0, 0, 0), (0, 0, 0, 0), (2, 0, 1, 1), (1, 12, 2, 0), (0, 0, 0, 0), (7, 0, 2, 0), (2, 0, 2, 1), (7, 0, 0, 0), (1, 12, 2, 0), (0, 0, 0, 0), (7, 0, 2, 0), (2, 0, 3, 1), (7, 0, 0, 0), (14, 0, 0, 0), (29, 0, 0, 0)]
/-- ReedBench$Plan.exists()Z -/
def xk_71 : List xI := [(3, 0, 0, 1), (12, 244, 2, 6), (0, 0, 0, 0), (0, 0, 0, 0), (1, 268435456, 2, 536), (0, 0, 0, 0), (10, 0, 3, 13), (0, 0, 0, 0), (0, 0, 0, 0), (1, 1, 1, 0), (11, 0, 0, 14), (0, 0, 0, 0), (0, 0, 0, 0), (1, 0, 1, 0), (29, 0, 0, 0)]
/-- ReedBench$Plan.choose(LReedBench$State;)V -/
def xk_72 : List xI := [(1, 0, 1, 0), (4, 0, 2, 1), (1, 0, 1, 0), (4, 0, 3, 1), (2, 0, 3, 1), (1, 8, 2, 0), (0, 0, 0, 0), (10, 0, 3, 63), (0, 0, 0, 0), (0, 0, 0, 0), (3, 0, 1, 1), (2, 0, 3, 1), (1, 2, 1, 0), (7, 0, 3, 0), (28, 541, 60, 2), (0, 0, 0, 0), (0, 0, 0, 0), (9, 0, 0, 42), (0, 0, 0, 0), (0, 0, 0, 0), (2, 0, 3, 1), (1, 2, 1, 0), (7, 0, 4, 0), (9, 0, 1, 37), (0, 0, 0, 0), (0, 0, 0, 0), (3, 0, 0, 1), (2, 0, 2, 1), (2, 0, 3, 1), (1, 2, 1, 0), (7, 0, 3, 0), (28, 568, 73, 3), (0, 0, 0, 0), (0, 0, 0, 0), (11, 0, 0, 38), (0, 0, 0, 0), (0, 0, 0, 0), (2, 0, 2, 1), (4, 0, 2, 1), (11, 0, 0, 57), (0, 0, 0, 0), (0, 0, 0, 0), (3, 0, 1, 1), (2, 0, 3, 1), (28, 529, 33, 2), (0, 0, 0, 0), (0, 0, 0, 0), (9, 0, 0, 57), (0, 0, 0, 0), (0, 0, 0, 0), (3, 0, 0, 1), (2, 0, 2, 1), (2, 0, 3, 1), (28, 576, 75, 3), (0, 0, 0, 0), (0, 0, 0, 0), (4, 0, 2, 1), (6, 1, 3, 0), (0, 0, 0, 0), (0, 0, 0, 0), (11, 0, 0, 4), (0, 0, 0, 0), (0, 0, 0, 0), (30, 0, 0, 0)]
/-- ReedBench$Plan.choosePair(II)I -/
def xk_73 : List xI := [(1, 0, 1, 0), (4, 0, 3, 1), (2, 0, 3, 1), (1, 12, 2, 0), (0, 0, 0, 0), (10, 0, 3, 96), (0, 0, 0, 0), (0, 0, 0, 0), (1, 0, 1, 0), (4, 0, 4, 2), (0, 0, 0, 0), (2, 0, 4, 2), (0, 0, 0, 0), (1, 12, 2, 0), (0, 0, 0, 0), (10, 0, 3, 90), (0, 0, 0, 0), (0, 0, 0, 0), (1, 1, 1, 0), (2, 0, 3, 1), (7, 0, 8, 0), (1, 1, 1, 0), (2, 0, 4, 2), (0, 0, 0, 0), (7, 0, 8, 0), (7, 0, 6, 0), (4, 0, 5, 2), (0, 0, 0, 0), (2, 0, 1, 1), (2, 0, 5, 2), (0, 0, 0, 0), (7, 0, 5, 0), (9, 0, 1, 84), (0, 0, 0, 0), (0, 0, 0, 0), (3, 0, 0, 1), (2, 0, 1, 1), (2, 0, 1, 1), (2, 0, 5, 2), (0, 0, 0, 0), (7, 0, 6, 0), (3, 0, 0, 1), (12, 237, 2, 0), (0, 0, 0, 0), (0, 0, 0, 0), (2, 0, 2, 1), (2, 0, 3, 1), (2, 0, 4, 2), (0, 0, 0, 0), (28, 555, 70, 4), (0, 0, 0, 0), (0, 0, 0, 0), (28, 572, 74, 4), (0, 0, 0, 0), (0, 0, 0, 0), (9, 0, 0, 84), (0, 0, 0, 0), (0, 0, 0, 0), (3, 0, 0, 1), (12, 241, 2, 4), (0, 0, 0, 0), (0, 0, 0, 0), (1, 2, 1, 0), (2, 0, 2, 1), (7, 0, 2, 0), (2, 0, 3, 1), (15, 0, 0, 0), (3, 0, 0, 1), (12, 241, 2, 4), (0, 0, 0, 0), (0, 0, 0, 0), (1, 2, 1, 0), (2, 0, 2, 1), (7, 0, 2, 0), (1, 1, 1, 0), (7, 0, 0, 0), (2, 0, 4, 2), (0, 0, 0, 0), (15, 0, 0, 0), (2, 0, 1, 1), (2, 0, 5, 2), (0, 0, 0, 0), (7, 0, 6, 0), (29, 0, 0, 0), (6, 1, 4, 0), (0, 0, 0, 0), (0, 0, 0, 0), (11, 0, 0, 11), (0, 0, 0, 0), (0, 0, 0, 0), (6, 1, 3, 0), (0, 0, 0, 0), (0, 0, 0, 0), (11, 0, 0, 2), (0, 0, 0, 0), (0, 0, 0, 0), (2, 0, 1, 1), (29, 0, 0, 0)]
/-- ReedBench$Plan.leads(III)Z -/
def xk_74 : List xI := [(2, 0, 3, 1), (1, 268435456, 2, 536), (0, 0, 0, 0), (10, 0, 0, 38), (0, 0, 0, 0), (0, 0, 0, 0), (3, 0, 0, 1), (12, 238, 2, 1), (0, 0, 0, 0), (0, 0, 0, 0), (2, 0, 2, 1), (14, 0, 0, 0), (1, 268435456, 2, 536), (0, 0, 0, 0), (10, 0, 0, 38), (0, 0, 0, 0), (0, 0, 0, 0), (2, 0, 3, 1), (3, 0, 0, 1), (12, 238, 2, 1), (0, 0, 0, 0), (0, 0, 0, 0), (2, 0, 2, 1), (14, 0, 0, 0), (7, 0, 0, 0), (3, 0, 0, 1), (12, 238, 2, 1), (0, 0, 0, 0), (0, 0, 0, 0), (2, 0, 1, 1), (14, 0, 0, 0), (10, 0, 1, 38), (0, 0, 0, 0), (0, 0, 0, 0), (1, 1, 1, 0), (11, 0, 0, 39), (0, 0, 0, 0), (0, 0, 0, 0), (1, 0, 1, 0), (29, 0, 0, 0)]
/-- ReedBench$Plan.chooseSlot(II)I -/
def xk_75 : List xI := [(1, 0, 1, 0), (4, 0, 3, 1), (2, 0, 3, 1), (1, 12, 2, 0), (0, 0, 0, 0), (10, 0, 3, 57), (0, 0, 0, 0), (0, 0, 0, 0), (2, 0, 1, 1), (2, 0, 3, 1), (7, 0, 9, 0), (1, 1, 1, 0), (7, 0, 5, 0), (9, 0, 1, 51), (0, 0, 0, 0), (0, 0, 0, 0), (3, 0, 0, 1), (2, 0, 1, 1), (2, 0, 1, 1), (1, 1, 1, 0), (2, 0, 3, 1), (7, 0, 8, 0), (7, 0, 6, 0), (3, 0, 0, 1), (12, 237, 2, 0), (0, 0, 0, 0), (0, 0, 0, 0), (2, 0, 2, 1), (2, 0, 3, 1), (28, 546, 62, 3), (0, 0, 0, 0), (0, 0, 0, 0), (28, 572, 74, 4), (0, 0, 0, 0), (0, 0, 0, 0), (9, 0, 0, 51), (0, 0, 0, 0), (0, 0, 0, 0), (3, 0, 0, 1), (12, 241, 2, 4), (0, 0, 0, 0), (0, 0, 0, 0), (2, 0, 2, 1), (2, 0, 3, 1), (15, 0, 0, 0), (2, 0, 1, 1), (1, 1, 1, 0), (2, 0, 3, 1), (7, 0, 8, 0), (7, 0, 6, 0), (29, 0, 0, 0), (6, 1, 3, 0), (0, 0, 0, 0), (0, 0, 0, 0), (11, 0, 0, 2), (0, 0, 0, 0), (0, 0, 0, 0), (2, 0, 1, 1), (29, 0, 0, 0)]
/-- ReedBench.lays()I -/
def xk_76 : List xI := [(3, 0, 0, 1), (12, 271, 6, 3), (0, 0, 0, 0), (0, 0, 0, 0), (3, 0, 0, 1), (12, 268, 6, 0), (0, 0, 0, 0), (0, 0, 0, 0), (3, 0, 0, 1), (12, 270, 6, 2), (0, 0, 0, 0), (0, 0, 0, 0), (28, 485, 57, 3), (0, 0, 0, 0), (0, 0, 0, 0), (3, 0, 0, 1), (12, 271, 6, 3), (0, 0, 0, 0), (0, 0, 0, 0), (12, 247, 2, 7), (0, 0, 0, 0), (0, 0, 0, 0), (29, 0, 0, 0)]
/-- ReedBench.make()I -/
def xk_77 : List xI := [(3, 0, 0, 1), (12, 271, 6, 3), (0, 0, 0, 0), (0, 0, 0, 0), (3, 0, 0, 1), (12, 268, 6, 0), (0, 0, 0, 0), (0, 0, 0, 0), (3, 0, 0, 1), (12, 270, 6, 2), (0, 0, 0, 0), (0, 0, 0, 0), (28, 485, 57, 3), (0, 0, 0, 0), (0, 0, 0, 0), (3, 0, 0, 1), (12, 271, 6, 3), (0, 0, 0, 0), (0, 0, 0, 0), (28, 580, 71, 1), (0, 0, 0, 0), (0, 0, 0, 0), (9, 0, 0, 35), (0, 0, 0, 0), (0, 0, 0, 0), (3, 0, 0, 1), (12, 268, 6, 0), (0, 0, 0, 0), (0, 0, 0, 0), (28, 385, 32, 1), (0, 0, 0, 0), (0, 0, 0, 0), (9, 0, 1, 37), (0, 0, 0, 0), (0, 0, 0, 0), (1, (-1), 1, 0), (29, 0, 0, 0), (3, 0, 0, 1), (12, 269, 6, 1), (0, 0, 0, 0), (0, 0, 0, 0), (3, 0, 0, 1), (12, 268, 6, 0), (0, 0, 0, 0), (0, 0, 0, 0), (28, 292, 11, 2), (0, 0, 0, 0), (0, 0, 0, 0), (3, 0, 0, 1), (12, 271, 6, 3), (0, 0, 0, 0), (0, 0, 0, 0), (3, 0, 0, 1), (12, 268, 6, 0), (0, 0, 0, 0), (0, 0, 0, 0), (3, 0, 0, 1), (12, 270, 6, 2), (0, 0, 0, 0), (0, 0, 0, 0), (28, 589, 78, 3), (0, 0, 0, 0), (0, 0, 0, 0), (3, 0, 0, 1), (12, 271, 6, 3), (0, 0, 0, 0), (0, 0, 0, 0), (28, 310, 15, 1), (0, 0, 0, 0), (0, 0, 0, 0), (3, 0, 0, 1), (12, 268, 6, 0), (0, 0, 0, 0), (0, 0, 0, 0), (12, 162, 4, 7), (0, 0, 0, 0), (0, 0, 0, 0), (1, 1, 1, 0), (7, 0, 1, 0), (29, 0, 0, 0)]
/-- ReedBench$Plan.carryOut(LReedBench$State;LReedBench$Works;)V -/
def xk_78 : List xI := [(1, 0, 1, 0), (4, 0, 3, 1), (2, 0, 3, 1), (1, 4, 1, 0), (10, 0, 3, 51), (0, 0, 0, 0), (0, 0, 0, 0), (3, 0, 1, 1), (2, 0, 3, 1), (28, 541, 60, 2), (0, 0, 0, 0), (0, 0, 0, 0), (9, 0, 0, 25), (0, 0, 0, 0), (0, 0, 0, 0), (3, 0, 0, 1), (3, 0, 1, 1), (3, 0, 2, 1), (2, 0, 3, 1), (28, 593, 79, 4), (0, 0, 0, 0), (0, 0, 0, 0), (11, 0, 0, 45), (0, 0, 0, 0), (0, 0, 0, 0), (3, 0, 0, 1), (3, 0, 1, 1), (3, 0, 2, 1), (1, 2, 1, 0), (2, 0, 3, 1), (7, 0, 2, 0), (28, 608, 81, 4), (0, 0, 0, 0), (0, 0, 0, 0), (3, 0, 0, 1), (3, 0, 1, 1), (3, 0, 2, 1), (1, 2, 1, 0), (2, 0, 3, 1), (7, 0, 2, 0), (1, 1, 1, 0), (7, 0, 0, 0), (28, 608, 81, 4), (0, 0, 0, 0), (0, 0, 0, 0), (6, 1, 3, 0), (0, 0, 0, 0), (0, 0, 0, 0), (11, 0, 0, 2), (0, 0, 0, 0), (0, 0, 0, 0), (3, 0, 1, 1), (12, 145, 4, 1), (0, 0, 0, 0), (0, 0, 0, 0), (1, (-1), 1, 0), (28, 559, 3, 2), (0, 0, 0, 0), (0, 0, 0, 0), (3, 0, 1, 1), (23, 0, 0, 0), (12, 163, 4, 7), (0, 0, 0, 0), (0, 0, 0, 0), (1, 1, 1, 0), (7, 0, 0, 0), (13, 163, 4, 7), (0, 0, 0, 0), (0, 0, 0, 0), (30, 0, 0, 0)]
/-- ReedBench$Plan.setPair(LReedBench$State;LReedBench$Works;I)V -/
def xk_79 : List xI := [(3, 0, 0, 1), (12, 241, 2, 4), (0, 0, 0, 0), (0, 0, 0, 0), (1, 2, 1, 0), (2, 0, 3, 1), (7, 0, 2, 0), (14, 0, 0, 0), (4, 0, 4, 2), (0, 0, 0, 0), (3, 0, 0, 1), (12, 241, 2, 4), (0, 0, 0, 0), (0, 0, 0, 0), (1, 2, 1, 0), (2, 0, 3, 1), (7, 0, 2, 0), (1, 1, 1, 0), (7, 0, 0, 0), (14, 0, 0, 0), (4, 0, 5, 2), (0, 0, 0, 0), (3, 0, 1, 1), (2, 0, 4, 2), (0, 0, 0, 0), (28, 597, 18, 2), (0, 0, 0, 0), (0, 0, 0, 0), (9, 0, 0, 40), (0, 0, 0, 0), (0, 0, 0, 0), (3, 0, 1, 1), (2, 0, 5, 2), (0, 0, 0, 0), (28, 597, 18, 2), (0, 0, 0, 0), (0, 0, 0, 0), (9, 0, 1, 41), (0, 0, 0, 0), (0, 0, 0, 0), (30, 0, 0, 0), (3, 0, 2, 1), (3, 0, 1, 1), (2, 0, 4, 2), (0, 0, 0, 0), (2, 0, 5, 2), (0, 0, 0, 0), (2, 0, 3, 1), (28, 598, 44, 5), (0, 0, 0, 0), (0, 0, 0, 0), (4, 0, 6, 2), (0, 0, 0, 0), (3, 0, 1, 1), (12, 140, 4, 0), (0, 0, 0, 0), (0, 0, 0, 0), (2, 0, 4, 2), (0, 0, 0, 0), (16, 0, 0, 0), (2, 0, 6, 2), (0, 0, 0, 0), (28, 599, 52, 1), (0, 0, 0, 0), (0, 0, 0, 0), (2, 0, 6, 2), (0, 0, 0, 0), (28, 600, 53, 1), (0, 0, 0, 0), (0, 0, 0, 0), (3, 0, 1, 1), (12, 156, 4, 5), (0, 0, 0, 0), (0, 0, 0, 0), (28, 601, 26, 4), (0, 0, 0, 0), (0, 0, 0, 0), (3, 0, 1, 1), (12, 140, 4, 0), (0, 0, 0, 0), (0, 0, 0, 0), (2, 0, 5, 2), (0, 0, 0, 0), (16, 0, 0, 0), (2, 0, 6, 2), (0, 0, 0, 0), (28, 602, 54, 1), (0, 0, 0, 0), (0, 0, 0, 0), (2, 0, 6, 2), (0, 0, 0, 0), (28, 603, 55, 1), (0, 0, 0, 0), (0, 0, 0, 0), (3, 0, 1, 1), (12, 156, 4, 5), (0, 0, 0, 0), (0, 0, 0, 0), (28, 601, 26, 4), (0, 0, 0, 0), (0, 0, 0, 0), (3, 0, 1, 1), (12, 140, 4, 0), (0, 0, 0, 0), (0, 0, 0, 0), (2, 0, 4, 2), (0, 0, 0, 0), (16, 0, 0, 0), (3, 0, 1, 1), (12, 163, 4, 7), (0, 0, 0, 0), (0, 0, 0, 0), (1, 2, 1, 0), (2, 0, 3, 1), (7, 0, 2, 0), (28, 604, 80, 3), (0, 0, 0, 0), (0, 0, 0, 0), (3, 0, 1, 1), (12, 140, 4, 0), (0, 0, 0, 0), (0, 0, 0, 0), (2, 0, 5, 2), (0, 0, 0, 0), (16, 0, 0, 0), (3, 0, 1, 1), (12, 163, 4, 7), (0, 0, 0, 0), (0, 0, 0, 0), (1, 2, 1, 0), (2, 0, 3, 1), (7, 0, 2, 0), (1, 1, 1, 0), (7, 0, 0, 0), (28, 604, 80, 3), (0, 0, 0, 0), (0, 0, 0, 0), (30, 0, 0, 0)]
/-- ReedBench$Reed.putInto(II)V -/
def xk_80 : List xI := [(3, 0, 0, 1), (1, 1, 1, 0), (13, 110, 3, 3), (0, 0, 0, 0), (0, 0, 0, 0), (3, 0, 0, 1), (2, 0, 1, 1), (13, 113, 3, 4), (0, 0, 0, 0), (0, 0, 0, 0), (3, 0, 0, 1), (2, 0, 2, 1), (13, 115, 3, 5), (0, 0, 0, 0), (0, 0, 0, 0), (30, 0, 0, 0)]
/-- ReedBench$Plan.setSlot(LReedBench$State;LReedBench$Works;I)V -/
def xk_81 : List xI := [(3, 0, 0, 1), (12, 241, 2, 4), (0, 0, 0, 0), (0, 0, 0, 0), (2, 0, 3, 1), (14, 0, 0, 0), (4, 0, 4, 2), (0, 0, 0, 0), (3, 0, 1, 1), (2, 0, 4, 2), (0, 0, 0, 0), (28, 597, 18, 2), (0, 0, 0, 0), (0, 0, 0, 0), (9, 0, 0, 25), (0, 0, 0, 0), (0, 0, 0, 0), (3, 0, 1, 1), (2, 0, 3, 1), (28, 529, 33, 2), (0, 0, 0, 0), (0, 0, 0, 0), (9, 0, 1, 26), (0, 0, 0, 0), (0, 0, 0, 0), (30, 0, 0, 0), (3, 0, 2, 1), (3, 0, 1, 1), (2, 0, 4, 2), (0, 0, 0, 0), (2, 0, 3, 1), (28, 612, 36, 4), (0, 0, 0, 0), (0, 0, 0, 0), (4, 0, 5, 2), (0, 0, 0, 0), (3, 0, 1, 1), (12, 140, 4, 0), (0, 0, 0, 0), (0, 0, 0, 0), (2, 0, 4, 2), (0, 0, 0, 0), (16, 0, 0, 0), (2, 0, 5, 2), (0, 0, 0, 0), (28, 613, 40, 1), (0, 0, 0, 0), (0, 0, 0, 0), (2, 0, 5, 2), (0, 0, 0, 0), (28, 614, 41, 1), (0, 0, 0, 0), (0, 0, 0, 0), (3, 0, 1, 1), (12, 156, 4, 5), (0, 0, 0, 0), (0, 0, 0, 0), (28, 601, 26, 4), (0, 0, 0, 0), (0, 0, 0, 0), (3, 0, 1, 1), (12, 140, 4, 0), (0, 0, 0, 0), (0, 0, 0, 0), (2, 0, 4, 2), (0, 0, 0, 0), (16, 0, 0, 0), (3, 0, 1, 1), (12, 163, 4, 7), (0, 0, 0, 0), (0, 0, 0, 0), (2, 0, 3, 1), (28, 604, 80, 3), (0, 0, 0, 0), (0, 0, 0, 0), (30, 0, 0, 0)]
/-- ReedBench.lacks()I -/
def xk_82 : List xI := [(3, 0, 0, 1), (12, 271, 6, 3), (0, 0, 0, 0), (0, 0, 0, 0), (3, 0, 0, 1), (12, 268, 6, 0), (0, 0, 0, 0), (0, 0, 0, 0), (3, 0, 0, 1), (12, 270, 6, 2), (0, 0, 0, 0), (0, 0, 0, 0), (28, 485, 57, 3), (0, 0, 0, 0), (0, 0, 0, 0), (3, 0, 0, 1), (12, 271, 6, 3), (0, 0, 0, 0), (0, 0, 0, 0), (3, 0, 0, 1), (12, 268, 6, 0), (0, 0, 0, 0), (0, 0, 0, 0), (28, 619, 83, 2), (0, 0, 0, 0), (0, 0, 0, 0), (29, 0, 0, 0)]
/-- ReedBench$Plan.fewestLeftOut(LReedBench$State;)I -/
def xk_83 : List xI := [(3, 0, 0, 1), (28, 560, 71, 1), (0, 0, 0, 0), (0, 0, 0, 0), (9, 0, 0, 11), (0, 0, 0, 0), (0, 0, 0, 0), (1, 0, 1, 0), (11, 0, 0, 23), (0, 0, 0, 0), (0, 0, 0, 0), (3, 0, 1, 1), (3, 0, 0, 1), (12, 237, 2, 0), (0, 0, 0, 0), (0, 0, 0, 0), (3, 0, 0, 1), (12, 238, 2, 1), (0, 0, 0, 0), (0, 0, 0, 0), (28, 623, 84, 3), (0, 0, 0, 0), (0, 0, 0, 0), (29, 0, 0, 0)]
/-- ReedBench$LeftOut.seek(LReedBench$State;LReedBench$Costs;[I)I -/
def xk_84 : List xI := [(3, 0, 0, 1), (28, 626, 30, 1), (0, 0, 0, 0), (0, 0, 0, 0), (4, 0, 3, 1), (3, 0, 2, 1), (1, 268435456, 2, 627), (0, 0, 0, 0), (28, 628, 3, 2), (0, 0, 0, 0), (0, 0, 0, 0), (3, 0, 2, 1), (1, 0, 1, 0), (1, 0, 1, 0), (15, 0, 0, 0), (1, 0, 1, 0), (4, 0, 4, 2), (0, 0, 0, 0), (2, 0, 4, 2), (0, 0, 0, 0), (1, 4, 1, 0), (10, 0, 3, 96), (0, 0, 0, 0), (0, 0, 0, 0), (3, 0, 0, 1), (2, 0, 4, 2), (0, 0, 0, 0), (28, 629, 60, 2), (0, 0, 0, 0), (0, 0, 0, 0), (9, 0, 0, 41), (0, 0, 0, 0), (0, 0, 0, 0), (3, 0, 1, 1), (3, 0, 2, 1), (2, 0, 3, 1), (2, 0, 4, 2), (0, 0, 0, 0), (28, 630, 85, 4), (0, 0, 0, 0), (0, 0, 0, 0), (1, 2, 1, 0), (2, 0, 4, 2), (0, 0, 0, 0), (7, 0, 2, 0), (4, 0, 5, 2), (0, 0, 0, 0), (2, 0, 5, 2), (0, 0, 0, 0), (1, 2, 1, 0), (2, 0, 4, 2), (0, 0, 0, 0), (7, 0, 2, 0), (1, 1, 1, 0), (7, 0, 0, 0), (10, 0, 4, 90), (0, 0, 0, 0), (0, 0, 0, 0), (3, 0, 0, 1), (2, 0, 5, 2), (0, 0, 0, 0), (28, 643, 33, 2), (0, 0, 0, 0), (0, 0, 0, 0), (9, 0, 0, 84), (0, 0, 0, 0), (0, 0, 0, 0), (3, 0, 0, 1), (2, 0, 4, 2), (0, 0, 0, 0), (28, 629, 60, 2), (0, 0, 0, 0), (0, 0, 0, 0), (9, 0, 1, 84), (0, 0, 0, 0), (0, 0, 0, 0), (3, 0, 1, 1), (3, 0, 2, 1), (2, 0, 3, 1), (2, 0, 5, 2), (0, 0, 0, 0), (28, 644, 88, 4), (0, 0, 0, 0), (0, 0, 0, 0), (6, 1, 5, 0), (0, 0, 0, 0), (0, 0, 0, 0), (11, 0, 0, 47), (0, 0, 0, 0), (0, 0, 0, 0), (6, 1, 4, 0), (0, 0, 0, 0), (0, 0, 0, 0), (11, 0, 0, 18), (0, 0, 0, 0), (0, 0, 0, 0), (1, 268435456, 2, 627), (0, 0, 0, 0), (4, 0, 4, 2), (0, 0, 0, 0), (1, 0, 1, 0), (4, 0, 5, 2), (0, 0, 0, 0), (2, 0, 5, 2), (0, 0, 0, 0), (2, 0, 3, 1), (10, 0, 4, 126), (0, 0, 0, 0), (0, 0, 0, 0), (2, 0, 4, 2), (0, 0, 0, 0), (3, 0, 2, 1), (2, 0, 5, 2), (0, 0, 0, 0), (14, 0, 0, 0), (33, 641, 0, 0), (0, 0, 0, 0), (0, 0, 0, 0), (4, 0, 4, 2), (0, 0, 0, 0), (6, 1, 5, 0), (0, 0, 0, 0), (0, 0, 0, 0), (11, 0, 0, 103), (0, 0, 0, 0), (0, 0, 0, 0), (2, 0, 4, 2), (0, 0, 0, 0), (1, 256, 3, 0), (0, 0, 0, 0), (0, 0, 0, 0), (7, 0, 4, 0), (29, 0, 0, 0)]
/-- ReedBench$LeftOut.addPair(LReedBench$Costs;[III)V -/
def xk_85 : List xI := [(1, 2, 1, 0), (2, 0, 3, 1), (7, 0, 2, 0), (28, 633, 86, 1), (0, 0, 0, 0), (0, 0, 0, 0), (1, 2, 1, 0), (2, 0, 3, 1), (7, 0, 2, 0), (1, 1, 1, 0), (7, 0, 0, 0), (28, 633, 86, 1), (0, 0, 0, 0), (0, 0, 0, 0), (7, 0, 0, 0), (4, 0, 4, 2), (0, 0, 0, 0), (2, 0, 2, 1), (4, 0, 5, 2), (0, 0, 0, 0), (2, 0, 5, 2), (0, 0, 0, 0), (9, 0, 2, 122), (0, 0, 0, 0), (0, 0, 0, 0), (2, 0, 5, 2), (0, 0, 0, 0), (2, 0, 2, 1), (1, (-1), 1, 0), (7, 0, 7, 0), (7, 0, 5, 0), (9, 0, 1, 116), (0, 0, 0, 0), (0, 0, 0, 0), (2, 0, 5, 2), (0, 0, 0, 0), (28, 636, 31, 1), (0, 0, 0, 0), (0, 0, 0, 0), (1, 2, 1, 0), (2, 0, 3, 1), (7, 0, 2, 0), (1, 2, 1, 0), (7, 0, 0, 0), (10, 0, 4, 116), (0, 0, 0, 0), (0, 0, 0, 0), (3, 0, 1, 1), (2, 0, 5, 2), (0, 0, 0, 0), (14, 0, 0, 0), (2, 0, 4, 2), (0, 0, 0, 0), (7, 0, 0, 0), (4, 0, 6, 2), (0, 0, 0, 0), (1, 0, 1, 0), (4, 0, 7, 2), (0, 0, 0, 0), (2, 0, 7, 2), (0, 0, 0, 0), (1, 12, 2, 0), (0, 0, 0, 0), (10, 0, 3, 105), (0, 0, 0, 0), (0, 0, 0, 0), (2, 0, 5, 2), (0, 0, 0, 0), (2, 0, 7, 2), (0, 0, 0, 0), (7, 0, 9, 0), (1, 1, 1, 0), (7, 0, 5, 0), (1, 1, 1, 0), (10, 0, 1, 99), (0, 0, 0, 0), (0, 0, 0, 0), (2, 0, 6, 2), (0, 0, 0, 0), (3, 0, 0, 1), (3, 0, 1, 1), (2, 0, 5, 2), (0, 0, 0, 0), (1, 1, 1, 0), (2, 0, 7, 2), (0, 0, 0, 0), (7, 0, 8, 0), (7, 0, 7, 0), (2, 0, 3, 1), (2, 0, 7, 2), (0, 0, 0, 0), (28, 637, 87, 5), (0, 0, 0, 0), (0, 0, 0, 0), (33, 641, 0, 0), (0, 0, 0, 0), (0, 0, 0, 0), (4, 0, 6, 2), (0, 0, 0, 0), (6, 1, 7, 0), (0, 0, 0, 0), (0, 0, 0, 0), (11, 0, 0, 59), (0, 0, 0, 0), (0, 0, 0, 0), (3, 0, 1, 1), (2, 0, 5, 2), (0, 0, 0, 0), (2, 0, 6, 2), (0, 0, 0, 0), (1, 268435456, 2, 627), (0, 0, 0, 0), (33, 641, 0, 0), (0, 0, 0, 0), (0, 0, 0, 0), (15, 0, 0, 0), (6, (-1), 5, 0), (0, 0, 0, 0), (0, 0, 0, 0), (11, 0, 0, 20), (0, 0, 0, 0), (0, 0, 0, 0), (30, 0, 0, 0)]
/-- ReedBench$LeftOut.weightOf(I)I -/
def xk_86 : List xI := [(1, 256, 3, 0), (0, 0, 0, 0), (0, 0, 0, 0), (1, 1, 1, 0), (2, 0, 0, 1), (7, 0, 8, 0), (7, 0, 0, 0), (29, 0, 0, 0)]
/-- ReedBench$LeftOut.withReed(LReedBench$Costs;[IIII)I -/
def xk_87 : List xI := [(1, 268435456, 2, 627), (0, 0, 0, 0), (4, 0, 5, 2), (0, 0, 0, 0), (3, 0, 0, 1), (1, 2, 1, 0), (2, 0, 3, 1), (7, 0, 2, 0), (2, 0, 4, 2), (0, 0, 0, 0), (28, 640, 62, 3), (0, 0, 0, 0), (0, 0, 0, 0), (1, 268435456, 2, 627), (0, 0, 0, 0), (10, 0, 0, 37), (0, 0, 0, 0), (0, 0, 0, 0), (2, 0, 5, 2), (0, 0, 0, 0), (3, 0, 1, 1), (2, 0, 2, 1), (14, 0, 0, 0), (1, 2, 1, 0), (2, 0, 3, 1), (7, 0, 2, 0), (1, 1, 1, 0), (7, 0, 0, 0), (28, 633, 86, 1), (0, 0, 0, 0), (0, 0, 0, 0), (7, 0, 0, 0), (33, 641, 0, 0), (0, 0, 0, 0), (0, 0, 0, 0), (4, 0, 5, 2), (0, 0, 0, 0), (3, 0, 0, 1), (1, 2, 1, 0), (2, 0, 3, 1), (7, 0, 2, 0), (1, 1, 1, 0), (7, 0, 0, 0), (2, 0, 4, 2), (0, 0, 0, 0), (28, 640, 62, 3), (0, 0, 0, 0), (0, 0, 0, 0), (1, 268435456, 2, 627), (0, 0, 0, 0), (10, 0, 0, 70), (0, 0, 0, 0), (0, 0, 0, 0), (2, 0, 5, 2), (0, 0, 0, 0), (3, 0, 1, 1), (2, 0, 2, 1), (14, 0, 0, 0), (1, 2, 1, 0), (2, 0, 3, 1), (7, 0, 2, 0), (28, 633, 86, 1), (0, 0, 0, 0), (0, 0, 0, 0), (7, 0, 0, 0), (33, 641, 0, 0), (0, 0, 0, 0), (0, 0, 0, 0), (4, 0, 5, 2), (0, 0, 0, 0), (1, 0, 1, 0), (4, 0, 6, 2), (0, 0, 0, 0), (2, 0, 6, 2), (0, 0, 0, 0), (1, 12, 2, 0), (0, 0, 0, 0), (10, 0, 3, 125), (0, 0, 0, 0), (0, 0, 0, 0), (2, 0, 2, 1), (2, 0, 6, 2), (0, 0, 0, 0), (7, 0, 9, 0), (1, 1, 1, 0), (7, 0, 5, 0), (1, 1, 1, 0), (10, 0, 1, 119), (0, 0, 0, 0), (0, 0, 0, 0), (3, 0, 0, 1), (2, 0, 3, 1), (2, 0, 4, 2), (0, 0, 0, 0), (2, 0, 6, 2), (0, 0, 0, 0), (28, 642, 70, 4), (0, 0, 0, 0), (0, 0, 0, 0), (1, 268435456, 2, 627), (0, 0, 0, 0), (10, 0, 0, 119), (0, 0, 0, 0), (0, 0, 0, 0), (2, 0, 5, 2), (0, 0, 0, 0), (3, 0, 1, 1), (2, 0, 2, 1), (1, 1, 1, 0), (2, 0, 6, 2), (0, 0, 0, 0), (7, 0, 8, 0), (7, 0, 7, 0), (14, 0, 0, 0), (33, 641, 0, 0), (0, 0, 0, 0), (0, 0, 0, 0), (4, 0, 5, 2), (0, 0, 0, 0), (6, 1, 6, 0), (0, 0, 0, 0), (0, 0, 0, 0), (11, 0, 0, 73), (0, 0, 0, 0), (0, 0, 0, 0), (2, 0, 5, 2), (0, 0, 0, 0), (29, 0, 0, 0)]
/-- ReedBench$LeftOut.addSlot(LReedBench$Costs;[III)V -/
def xk_88 : List xI := [(2, 0, 2, 1), (4, 0, 4, 2), (0, 0, 0, 0), (2, 0, 4, 2), (0, 0, 0, 0), (9, 0, 2, 111), (0, 0, 0, 0), (0, 0, 0, 0), (2, 0, 4, 2), (0, 0, 0, 0), (2, 0, 2, 1), (1, (-1), 1, 0), (7, 0, 7, 0), (7, 0, 5, 0), (9, 0, 1, 105), (0, 0, 0, 0), (0, 0, 0, 0), (2, 0, 4, 2), (0, 0, 0, 0), (28, 636, 31, 1), (0, 0, 0, 0), (0, 0, 0, 0), (2, 0, 3, 1), (1, 1, 1, 0), (7, 0, 0, 0), (10, 0, 4, 105), (0, 0, 0, 0), (0, 0, 0, 0), (3, 0, 1, 1), (2, 0, 4, 2), (0, 0, 0, 0), (14, 0, 0, 0), (2, 0, 3, 1), (28, 633, 86, 1), (0, 0, 0, 0), (0, 0, 0, 0), (7, 0, 0, 0), (4, 0, 5, 2), (0, 0, 0, 0), (1, 0, 1, 0), (4, 0, 6, 2), (0, 0, 0, 0), (2, 0, 6, 2), (0, 0, 0, 0), (1, 12, 2, 0), (0, 0, 0, 0), (10, 0, 3, 94), (0, 0, 0, 0), (0, 0, 0, 0), (2, 0, 4, 2), (0, 0, 0, 0), (2, 0, 6, 2), (0, 0, 0, 0), (7, 0, 9, 0), (1, 1, 1, 0), (7, 0, 5, 0), (1, 1, 1, 0), (10, 0, 1, 88), (0, 0, 0, 0), (0, 0, 0, 0), (3, 0, 0, 1), (2, 0, 3, 1), (2, 0, 6, 2), (0, 0, 0, 0), (28, 640, 62, 3), (0, 0, 0, 0), (0, 0, 0, 0), (1, 268435456, 2, 627), (0, 0, 0, 0), (10, 0, 0, 88), (0, 0, 0, 0), (0, 0, 0, 0), (2, 0, 5, 2), (0, 0, 0, 0), (3, 0, 1, 1), (2, 0, 4, 2), (0, 0, 0, 0), (1, 1, 1, 0), (2, 0, 6, 2), (0, 0, 0, 0), (7, 0, 8, 0), (7, 0, 7, 0), (14, 0, 0, 0), (33, 641, 0, 0), (0, 0, 0, 0), (0, 0, 0, 0), (4, 0, 5, 2), (0, 0, 0, 0), (6, 1, 6, 0), (0, 0, 0, 0), (0, 0, 0, 0), (11, 0, 0, 42), (0, 0, 0, 0), (0, 0, 0, 0), (3, 0, 1, 1), (2, 0, 4, 2), (0, 0, 0, 0), (2, 0, 5, 2), (0, 0, 0, 0), (1, 268435456, 2, 627), (0, 0, 0, 0), (33, 641, 0, 0), (0, 0, 0, 0), (0, 0, 0, 0), (15, 0, 0, 0), (6, (-1), 4, 0), (0, 0, 0, 0), (0, 0, 0, 0), (11, 0, 0, 3), (0, 0, 0, 0), (0, 0, 0, 0), (30, 0, 0, 0)]
/-- ReedBench.undo()Z -/
def xk_89 : List xI := [(3, 0, 0, 1), (12, 269, 6, 1), (0, 0, 0, 0), (0, 0, 0, 0), (3, 0, 0, 1), (12, 268, 6, 0), (0, 0, 0, 0), (0, 0, 0, 0), (28, 651, 90, 2), (0, 0, 0, 0), (0, 0, 0, 0), (9, 0, 1, 16), (0, 0, 0, 0), (0, 0, 0, 0), (1, 0, 1, 0), (29, 0, 0, 0), (3, 0, 0, 1), (12, 271, 6, 3), (0, 0, 0, 0), (0, 0, 0, 0), (28, 310, 15, 1), (0, 0, 0, 0), (0, 0, 0, 0), (1, 1, 1, 0), (29, 0, 0, 0)]
/-- ReedBench$History.takeBack(LReedBench$State;)Z -/
def xk_90 : List xI := [(3, 0, 0, 1), (12, 191, 1, 1), (0, 0, 0, 0), (0, 0, 0, 0), (9, 0, 1, 9), (0, 0, 0, 0), (0, 0, 0, 0), (1, 0, 1, 0), (29, 0, 0, 0), (3, 0, 0, 1), (3, 0, 0, 1), (12, 192, 1, 2), (0, 0, 0, 0), (0, 0, 0, 0), (9, 0, 1, 21), (0, 0, 0, 0), (0, 0, 0, 0), (1, 5, 1, 0), (11, 0, 0, 27), (0, 0, 0, 0), (0, 0, 0, 0), (3, 0, 0, 1), (12, 192, 1, 2), (0, 0, 0, 0), (0, 0, 0, 0), (1, 1, 1, 0), (7, 0, 1, 0), (13, 192, 1, 2), (0, 0, 0, 0), (0, 0, 0, 0), (3, 0, 0, 1), (23, 0, 0, 0), (12, 191, 1, 1), (0, 0, 0, 0), (0, 0, 0, 0), (1, 1, 1, 0), (7, 0, 1, 0), (13, 191, 1, 1), (0, 0, 0, 0), (0, 0, 0, 0), (3, 0, 1, 1), (3, 0, 0, 1), (12, 190, 1, 0), (0, 0, 0, 0), (0, 0, 0, 0), (3, 0, 0, 1), (12, 192, 1, 2), (0, 0, 0, 0), (0, 0, 0, 0), (16, 0, 0, 0), (28, 296, 12, 2), (0, 0, 0, 0), (0, 0, 0, 0), (1, 1, 1, 0), (29, 0, 0, 0)]
/-- ReedBenchModel.<init>()V -/
def xk_91 : List xI := [(3, 0, 0, 1), (26, 660, 0, 0), (0, 0, 0, 0), (0, 0, 0, 0), (3, 0, 0, 1), (1, 112, 2, 0), (0, 0, 0, 0), (20, 0, 0, 0), (0, 0, 0, 0), (13, 662, 7, 1), (0, 0, 0, 0), (0, 0, 0, 0), (3, 0, 0, 1), (1, 672, 3, 0), (0, 0, 0, 0), (0, 0, 0, 0), (20, 0, 0, 0), (0, 0, 0, 0), (13, 663, 7, 2), (0, 0, 0, 0), (0, 0, 0, 0), (3, 0, 0, 1), (1, 8, 2, 0), (0, 0, 0, 0), (20, 0, 0, 0), (0, 0, 0, 0), (23, 0, 0, 0), (1, 0, 1, 0), (1, 0, 1, 0), (15, 0, 0, 0), (23, 0, 0, 0), (1, 1, 1, 0), (1, 200, 3, 0), (0, 0, 0, 0), (0, 0, 0, 0), (15, 0, 0, 0), (23, 0, 0, 0), (1, 2, 1, 0), (1, 400, 3, 0), (0, 0, 0, 0), (0, 0, 0, 0), (15, 0, 0, 0), (23, 0, 0, 0), (1, 3, 1, 0), (1, 500, 3, 0), (0, 0, 0, 0), (0, 0, 0, 0), (15, 0, 0, 0), (23, 0, 0, 0), (1, 4, 1, 0), (1, 700, 3, 0), (0, 0, 0, 0), (0, 0, 0, 0), (15, 0, 0, 0), (23, 0, 0, 0), (1, 5, 1, 0), (1, 900, 3, 0), (0, 0, 0, 0), (0, 0, 0, 0), (15, 0, 0, 0), (23, 0, 0, 0), (1, 6, 2, 0), (0, 0, 0, 0), (1, 1100, 3, 0), (0, 0, 0, 0), (0, 0, 0, 0), (15, 0, 0, 0), (23, 0, 0, 0), (1, 7, 2, 0), (0, 0, 0, 0), (1, 1200, 3, 0), (0, 0, 0, 0), (0, 0, 0, 0), (15, 0, 0, 0), (13, 666, 7, 5), (0, 0, 0, 0), (0, 0, 0, 0), (3, 0, 0, 1), (1, 8, 2, 0), (0, 0, 0, 0), (20, 0, 0, 0), (0, 0, 0, 0), (23, 0, 0, 0), (1, 0, 1, 0), (1, 0, 1, 0), (15, 0, 0, 0), (23, 0, 0, 0), (1, 1, 1, 0), (1, 204, 3, 0), (0, 0, 0, 0), (0, 0, 0, 0), (15, 0, 0, 0), (23, 0, 0, 0), (1, 2, 1, 0), (1, 386, 3, 0), (0, 0, 0, 0), (0, 0, 0, 0), (15, 0, 0, 0), (23, 0, 0, 0), (1, 3, 1, 0), (1, 498, 3, 0), (0, 0, 0, 0), (0, 0, 0, 0), (15, 0, 0, 0), (23, 0, 0, 0), (1, 4, 1, 0), (1, 702, 3, 0), (0, 0, 0, 0), (0, 0, 0, 0), (15, 0, 0, 0), (23, 0, 0, 0), (1, 5, 1, 0), (1, 884, 3, 0), (0, 0, 0, 0), (0, 0, 0, 0), (15, 0, 0, 0), (23, 0, 0, 0), (1, 6, 2, 0), (0, 0, 0, 0), (1, 1088, 3, 0), (0, 0, 0, 0), (0, 0, 0, 0), (15, 0, 0, 0), (23, 0, 0, 0), (1, 7, 2, 0), (0, 0, 0, 0), (1, 1200, 3, 0), (0, 0, 0, 0), (0, 0, 0, 0), (15, 0, 0, 0), (13, 667, 7, 6), (0, 0, 0, 0), (0, 0, 0, 0), (3, 0, 0, 1), (1, 8, 2, 0), (0, 0, 0, 0), (20, 0, 0, 0), (0, 0, 0, 0), (23, 0, 0, 0), (1, 0, 1, 0), (1, 0, 1, 0), (15, 0, 0, 0), (23, 0, 0, 0), (1, 1, 1, 0), (1, 0, 1, 0), (15, 0, 0, 0), (23, 0, 0, 0), (1, 2, 1, 0), (1, 400, 3, 0), (0, 0, 0, 0), (0, 0, 0, 0), (15, 0, 0, 0), (23, 0, 0, 0), (1, 3, 1, 0), (1, 400, 3, 0), (0, 0, 0, 0), (0, 0, 0, 0), (15, 0, 0, 0), (23, 0, 0, 0), (1, 4, 1, 0), (1, 700, 3, 0), (0, 0, 0, 0), (0, 0, 0, 0), (15, 0, 0, 0), (23, 0, 0, 0), (1, 5, 1, 0), (1, 700, 3, 0), (0, 0, 0, 0), (0, 0, 0, 0), (15, 0, 0, 0), (23, 0, 0, 0), (1, 6, 2, 0), (0, 0, 0, 0), (1, 1200, 3, 0), (0, 0, 0, 0), (0, 0, 0, 0), (15, 0, 0, 0), (23, 0, 0, 0), (1, 7, 2, 0), (0, 0, 0, 0), (1, 1200, 3, 0), (0, 0, 0, 0), (0, 0, 0, 0), (15, 0, 0, 0), (13, 668, 7, 7), (0, 0, 0, 0), (0, 0, 0, 0), (3, 0, 0, 1), (1, 202, 3, 0), (0, 0, 0, 0), (0, 0, 0, 0), (20, 0, 0, 0), (0, 0, 0, 0), (13, 669, 7, 8), (0, 0, 0, 0), (0, 0, 0, 0), (3, 0, 0, 1), (1, 202, 3, 0), (0, 0, 0, 0), (0, 0, 0, 0), (20, 0, 0, 0), (0, 0, 0, 0), (13, 670, 7, 9), (0, 0, 0, 0), (0, 0, 0, 0), (3, 0, 0, 1), (1, 96, 2, 0), (0, 0, 0, 0), (20, 0, 0, 0), (0, 0, 0, 0), (13, 677, 7, 16), (0, 0, 0, 0), (0, 0, 0, 0), (3, 0, 0, 1), (1, 576, 3, 0), (0, 0, 0, 0), (0, 0, 0, 0), (20, 0, 0, 0), (0, 0, 0, 0), (13, 678, 7, 17), (0, 0, 0, 0), (0, 0, 0, 0), (3, 0, 0, 1), (1, 20480, 3, 0), (0, 0, 0, 0), (0, 0, 0, 0), (20, 0, 0, 0), (0, 0, 0, 0), (13, 679, 7, 18), (0, 0, 0, 0), (0, 0, 0, 0), (3, 0, 0, 1), (1, 20480, 3, 0), (0, 0, 0, 0), (0, 0, 0, 0), (20, 0, 0, 0), (0, 0, 0, 0), (13, 680, 7, 19), (0, 0, 0, 0), (0, 0, 0, 0), (3, 0, 0, 1), (1, 8, 2, 0), (0, 0, 0, 0), (20, 0, 0, 0), (0, 0, 0, 0), (13, 683, 7, 22), (0, 0, 0, 0), (0, 0, 0, 0), (30, 0, 0, 0)]
/-- ReedBenchModel.undo()Z -/
def xk_92 : List xI := [(3, 0, 0, 1), (1, 0, 1, 0), (13, 661, 7, 0), (0, 0, 0, 0), (0, 0, 0, 0), (3, 0, 0, 1), (28, 735, 93, 1), (0, 0, 0, 0), (0, 0, 0, 0), (3, 0, 0, 1), (12, 664, 7, 3), (0, 0, 0, 0), (0, 0, 0, 0), (9, 0, 1, 18), (0, 0, 0, 0), (0, 0, 0, 0), (1, 0, 1, 0), (29, 0, 0, 0), (3, 0, 0, 1), (3, 0, 0, 1), (12, 664, 7, 3), (0, 0, 0, 0), (0, 0, 0, 0), (1, 1, 1, 0), (7, 0, 1, 0), (13, 664, 7, 3), (0, 0, 0, 0), (0, 0, 0, 0), (1, 0, 1, 0), (4, 0, 1, 1), (2, 0, 1, 1), (1, 112, 2, 0), (0, 0, 0, 0), (10, 0, 3, 62), (0, 0, 0, 0), (0, 0, 0, 0), (3, 0, 0, 1), (12, 662, 7, 1), (0, 0, 0, 0), (0, 0, 0, 0), (2, 0, 1, 1), (3, 0, 0, 1), (12, 663, 7, 2), (0, 0, 0, 0), (0, 0, 0, 0), (3, 0, 0, 1), (12, 664, 7, 3), (0, 0, 0, 0), (0, 0, 0, 0), (1, 112, 2, 0), (0, 0, 0, 0), (7, 0, 2, 0), (2, 0, 1, 1), (7, 0, 0, 0), (14, 0, 0, 0), (15, 0, 0, 0), (6, 1, 1, 0), (0, 0, 0, 0), (0, 0, 0, 0), (11, 0, 0, 30), (0, 0, 0, 0), (0, 0, 0, 0), (1, 1, 1, 0), (29, 0, 0, 0)]
/-- ReedBenchModel.begins()V -/
def xk_93 : List xI := [(3, 0, 0, 1), (12, 665, 7, 4), (0, 0, 0, 0), (0, 0, 0, 0), (9, 0, 0, 8), (0, 0, 0, 0), (0, 0, 0, 0), (30, 0, 0, 0), (3, 0, 0, 1), (1, 1, 1, 0), (13, 665, 7, 4), (0, 0, 0, 0), (0, 0, 0, 0), (3, 0, 0, 1), (12, 662, 7, 1), (0, 0, 0, 0), (0, 0, 0, 0), (1, 1, 1, 0), (1, 6, 2, 0), (0, 0, 0, 0), (15, 0, 0, 0), (3, 0, 0, 1), (12, 662, 7, 1), (0, 0, 0, 0), (0, 0, 0, 0), (1, 2, 1, 0), (1, 5, 1, 0), (15, 0, 0, 0), (1, 0, 1, 0), (4, 0, 1, 1), (2, 0, 1, 1), (1, 8, 2, 0), (0, 0, 0, 0), (10, 0, 3, 51), (0, 0, 0, 0), (0, 0, 0, 0), (3, 0, 0, 1), (12, 662, 7, 1), (0, 0, 0, 0), (0, 0, 0, 0), (1, 4, 1, 0), (2, 0, 1, 1), (7, 0, 0, 0), (1, (-1), 1, 0), (15, 0, 0, 0), (6, 1, 1, 0), (0, 0, 0, 0), (0, 0, 0, 0), (11, 0, 0, 30), (0, 0, 0, 0), (0, 0, 0, 0), (1, 0, 1, 0), (4, 0, 1, 1), (2, 0, 1, 1), (1, 4, 1, 0), (10, 0, 3, 74), (0, 0, 0, 0), (0, 0, 0, 0), (3, 0, 0, 1), (12, 662, 7, 1), (0, 0, 0, 0), (0, 0, 0, 0), (1, 12, 2, 0), (0, 0, 0, 0), (2, 0, 1, 1), (7, 0, 0, 0), (1, 1, 1, 0), (15, 0, 0, 0), (6, 1, 1, 0), (0, 0, 0, 0), (0, 0, 0, 0), (11, 0, 0, 53), (0, 0, 0, 0), (0, 0, 0, 0), (30, 0, 0, 0)]
/-- ReedBenchModel.reed(III)I -/
def xk_94 : List xI := [(3, 0, 0, 1), (1, 0, 1, 0), (13, 661, 7, 0), (0, 0, 0, 0), (0, 0, 0, 0), (3, 0, 0, 1), (28, 735, 93, 1), (0, 0, 0, 0), (0, 0, 0, 0), (2, 0, 1, 1), (9, 0, 2, 52), (0, 0, 0, 0), (0, 0, 0, 0), (2, 0, 1, 1), (1, 9999, 3, 0), (0, 0, 0, 0), (0, 0, 0, 0), (10, 0, 4, 52), (0, 0, 0, 0), (0, 0, 0, 0), (2, 0, 2, 1), (1, 1, 1, 0), (10, 0, 2, 52), (0, 0, 0, 0), (0, 0, 0, 0), (2, 0, 2, 1), (1, 20, 2, 0), (0, 0, 0, 0), (10, 0, 4, 52), (0, 0, 0, 0), (0, 0, 0, 0), (2, 0, 3, 1), (9, 0, 2, 52), (0, 0, 0, 0), (0, 0, 0, 0), (2, 0, 3, 1), (1, 20, 2, 0), (0, 0, 0, 0), (10, 0, 4, 52), (0, 0, 0, 0), (0, 0, 0, 0), (3, 0, 0, 1), (12, 662, 7, 1), (0, 0, 0, 0), (0, 0, 0, 0), (1, 0, 1, 0), (14, 0, 0, 0), (1, 12, 2, 0), (0, 0, 0, 0), (10, 0, 1, 54), (0, 0, 0, 0), (0, 0, 0, 0), (1, (-1), 1, 0), (29, 0, 0, 0), (3, 0, 0, 1), (28, 743, 95, 1), (0, 0, 0, 0), (0, 0, 0, 0), (1, 20, 2, 0), (0, 0, 0, 0), (1, 7, 2, 0), (0, 0, 0, 0), (3, 0, 0, 1), (12, 662, 7, 1), (0, 0, 0, 0), (0, 0, 0, 0), (1, 0, 1, 0), (14, 0, 0, 0), (7, 0, 2, 0), (7, 0, 0, 0), (4, 0, 4, 2), (0, 0, 0, 0), (3, 0, 0, 1), (12, 662, 7, 1), (0, 0, 0, 0), (0, 0, 0, 0), (2, 0, 4, 2), (0, 0, 0, 0), (2, 0, 1, 1), (15, 0, 0, 0), (3, 0, 0, 1), (12, 662, 7, 1), (0, 0, 0, 0), (0, 0, 0, 0), (2, 0, 4, 2), (0, 0, 0, 0), (1, 1, 1, 0), (7, 0, 0, 0), (2, 0, 2, 1), (15, 0, 0, 0), (3, 0, 0, 1), (12, 662, 7, 1), (0, 0, 0, 0), (0, 0, 0, 0), (2, 0, 4, 2), (0, 0, 0, 0), (1, 2, 1, 0), (7, 0, 0, 0), (2, 0, 3, 1), (15, 0, 0, 0), (3, 0, 0, 1), (12, 662, 7, 1), (0, 0, 0, 0), (0, 0, 0, 0), (2, 0, 4, 2), (0, 0, 0, 0), (1, 3, 1, 0), (7, 0, 0, 0), (1, 0, 1, 0), (15, 0, 0, 0), (3, 0, 0, 1), (12, 662, 7, 1), (0, 0, 0, 0), (0, 0, 0, 0), (2, 0, 4, 2), (0, 0, 0, 0), (1, 4, 1, 0), (7, 0, 0, 0), (1, (-1), 1, 0), (15, 0, 0, 0), (3, 0, 0, 1), (12, 662, 7, 1), (0, 0, 0, 0), (0, 0, 0, 0), (2, 0, 4, 2), (0, 0, 0, 0), (1, 5, 1, 0), (7, 0, 0, 0), (1, (-1), 1, 0), (15, 0, 0, 0), (3, 0, 0, 1), (12, 662, 7, 1), (0, 0, 0, 0), (0, 0, 0, 0), (2, 0, 4, 2), (0, 0, 0, 0), (1, 6, 2, 0), (0, 0, 0, 0), (7, 0, 0, 0), (1, 0, 1, 0), (15, 0, 0, 0), (3, 0, 0, 1), (12, 662, 7, 1), (0, 0, 0, 0), (0, 0, 0, 0), (1, 0, 1, 0), (3, 0, 0, 1), (12, 662, 7, 1), (0, 0, 0, 0), (0, 0, 0, 0), (1, 0, 1, 0), (14, 0, 0, 0), (1, 1, 1, 0), (7, 0, 0, 0), (15, 0, 0, 0), (3, 0, 0, 1), (12, 662, 7, 1), (0, 0, 0, 0), (0, 0, 0, 0), (1, 0, 1, 0), (14, 0, 0, 0), (1, 1, 1, 0), (7, 0, 1, 0), (29, 0, 0, 0)]
/-- ReedBenchModel.keep()V -/
def xk_95 : List xI := [(3, 0, 0, 1), (12, 664, 7, 3), (0, 0, 0, 0), (0, 0, 0, 0), (1, 6, 2, 0), (0, 0, 0, 0), (10, 0, 1, 44), (0, 0, 0, 0), (0, 0, 0, 0), (1, 0, 1, 0), (4, 0, 1, 1), (2, 0, 1, 1), (1, 560, 3, 0), (0, 0, 0, 0), (0, 0, 0, 0), (10, 0, 3, 39), (0, 0, 0, 0), (0, 0, 0, 0), (3, 0, 0, 1), (12, 663, 7, 2), (0, 0, 0, 0), (0, 0, 0, 0), (2, 0, 1, 1), (3, 0, 0, 1), (12, 663, 7, 2), (0, 0, 0, 0), (0, 0, 0, 0), (2, 0, 1, 1), (1, 112, 2, 0), (0, 0, 0, 0), (7, 0, 0, 0), (14, 0, 0, 0), (15, 0, 0, 0), (6, 1, 1, 0), (0, 0, 0, 0), (0, 0, 0, 0), (11, 0, 0, 11), (0, 0, 0, 0), (0, 0, 0, 0), (3, 0, 0, 1), (1, 5, 1, 0), (13, 664, 7, 3), (0, 0, 0, 0), (0, 0, 0, 0), (1, 0, 1, 0), (4, 0, 1, 1), (2, 0, 1, 1), (1, 112, 2, 0), (0, 0, 0, 0), (10, 0, 3, 78), (0, 0, 0, 0), (0, 0, 0, 0), (3, 0, 0, 1), (12, 663, 7, 2), (0, 0, 0, 0), (0, 0, 0, 0), (3, 0, 0, 1), (12, 664, 7, 3), (0, 0, 0, 0), (0, 0, 0, 0), (1, 112, 2, 0), (0, 0, 0, 0), (7, 0, 2, 0), (2, 0, 1, 1), (7, 0, 0, 0), (3, 0, 0, 1), (12, 662, 7, 1), (0, 0, 0, 0), (0, 0, 0, 0), (2, 0, 1, 1), (14, 0, 0, 0), (15, 0, 0, 0), (6, 1, 1, 0), (0, 0, 0, 0), (0, 0, 0, 0), (11, 0, 0, 46), (0, 0, 0, 0), (0, 0, 0, 0), (3, 0, 0, 1), (3, 0, 0, 1), (12, 664, 7, 3), (0, 0, 0, 0), (0, 0, 0, 0), (1, 1, 1, 0), (7, 0, 0, 0), (13, 664, 7, 3), (0, 0, 0, 0), (0, 0, 0, 0), (30, 0, 0, 0)]
/-- ReedBenchModel.scrap(I)Z -/
def xk_96 : List xI := [(3, 0, 0, 1), (1, 0, 1, 0), (13, 661, 7, 0), (0, 0, 0, 0), (0, 0, 0, 0), (3, 0, 0, 1), (28, 735, 93, 1), (0, 0, 0, 0), (0, 0, 0, 0), (3, 0, 0, 1), (2, 0, 1, 1), (28, 751, 97, 2), (0, 0, 0, 0), (0, 0, 0, 0), (9, 0, 0, 25), (0, 0, 0, 0), (0, 0, 0, 0), (3, 0, 0, 1), (2, 0, 1, 1), (28, 755, 98, 2), (0, 0, 0, 0), (0, 0, 0, 0), (9, 0, 1, 27), (0, 0, 0, 0), (0, 0, 0, 0), (1, 0, 1, 0), (29, 0, 0, 0), (3, 0, 0, 1), (28, 743, 95, 1), (0, 0, 0, 0), (0, 0, 0, 0), (3, 0, 0, 1), (12, 662, 7, 1), (0, 0, 0, 0), (0, 0, 0, 0), (1, 20, 2, 0), (0, 0, 0, 0), (1, 7, 2, 0), (0, 0, 0, 0), (2, 0, 1, 1), (7, 0, 2, 0), (7, 0, 0, 0), (1, 3, 1, 0), (7, 0, 0, 0), (1, 2, 1, 0), (15, 0, 0, 0), (1, 1, 1, 0), (29, 0, 0, 0)]
/-- ReedBenchModel.isReed(I)Z -/
def xk_97 : List xI := [(2, 0, 1, 1), (9, 0, 2, 18), (0, 0, 0, 0), (0, 0, 0, 0), (2, 0, 1, 1), (3, 0, 0, 1), (12, 662, 7, 1), (0, 0, 0, 0), (0, 0, 0, 0), (1, 0, 1, 0), (14, 0, 0, 0), (10, 0, 3, 18), (0, 0, 0, 0), (0, 0, 0, 0), (1, 1, 1, 0), (11, 0, 0, 19), (0, 0, 0, 0), (0, 0, 0, 0), (1, 0, 1, 0), (29, 0, 0, 0)]
/-- ReedBenchModel.isFree(I)Z -/
def xk_98 : List xI := [(3, 0, 0, 1), (2, 0, 1, 1), (1, 3, 1, 0), (28, 759, 99, 3), (0, 0, 0, 0), (0, 0, 0, 0), (9, 0, 1, 13), (0, 0, 0, 0), (0, 0, 0, 0), (1, 1, 1, 0), (11, 0, 0, 14), (0, 0, 0, 0), (0, 0, 0, 0), (1, 0, 1, 0), (29, 0, 0, 0)]
/-- ReedBenchModel.reedAt(II)I -/
def xk_99 : List xI := [(3, 0, 0, 1), (12, 662, 7, 1), (0, 0, 0, 0), (0, 0, 0, 0), (1, 20, 2, 0), (0, 0, 0, 0), (1, 7, 2, 0), (0, 0, 0, 0), (2, 0, 1, 1), (7, 0, 2, 0), (7, 0, 0, 0), (2, 0, 2, 1), (7, 0, 0, 0), (14, 0, 0, 0), (29, 0, 0, 0)]
/-- ReedBenchModel.rates(II)Z -/
def xk_100 : List xI := [(3, 0, 0, 1), (1, 0, 1, 0), (13, 661, 7, 0), (0, 0, 0, 0), (0, 0, 0, 0), (3, 0, 0, 1), (28, 735, 93, 1), (0, 0, 0, 0), (0, 0, 0, 0), (2, 0, 1, 1), (1, 1, 1, 0), (10, 0, 2, 30), (0, 0, 0, 0), (0, 0, 0, 0), (2, 0, 1, 1), (1, 20, 2, 0), (0, 0, 0, 0), (10, 0, 4, 30), (0, 0, 0, 0), (0, 0, 0, 0), (2, 0, 2, 1), (9, 0, 2, 30), (0, 0, 0, 0), (0, 0, 0, 0), (2, 0, 2, 1), (1, 50, 2, 0), (0, 0, 0, 0), (10, 0, 5, 32), (0, 0, 0, 0), (0, 0, 0, 0), (1, 0, 1, 0), (29, 0, 0, 0), (3, 0, 0, 1), (28, 743, 95, 1), (0, 0, 0, 0), (0, 0, 0, 0), (3, 0, 0, 1), (12, 662, 7, 1), (0, 0, 0, 0), (0, 0, 0, 0), (1, 1, 1, 0), (2, 0, 1, 1), (15, 0, 0, 0), (3, 0, 0, 1), (12, 662, 7, 1), (0, 0, 0, 0), (0, 0, 0, 0), (1, 2, 1, 0), (2, 0, 2, 1), (15, 0, 0, 0), (1, 1, 1, 0), (29, 0, 0, 0)]
/-- ReedBenchModel.want(II)Z -/
def xk_101 : List xI := [(3, 0, 0, 1), (1, 0, 1, 0), (13, 661, 7, 0), (0, 0, 0, 0), (0, 0, 0, 0), (3, 0, 0, 1), (28, 735, 93, 1), (0, 0, 0, 0), (0, 0, 0, 0), (2, 0, 1, 1), (9, 0, 2, 31), (0, 0, 0, 0), (0, 0, 0, 0), (2, 0, 1, 1), (1, 7, 2, 0), (0, 0, 0, 0), (10, 0, 4, 31), (0, 0, 0, 0), (0, 0, 0, 0), (2, 0, 2, 1), (1, (-1), 1, 0), (10, 0, 2, 31), (0, 0, 0, 0), (0, 0, 0, 0), (2, 0, 2, 1), (1, 9999, 3, 0), (0, 0, 0, 0), (0, 0, 0, 0), (10, 0, 5, 33), (0, 0, 0, 0), (0, 0, 0, 0), (1, 0, 1, 0), (29, 0, 0, 0), (3, 0, 0, 1), (28, 743, 95, 1), (0, 0, 0, 0), (0, 0, 0, 0), (3, 0, 0, 1), (12, 662, 7, 1), (0, 0, 0, 0), (0, 0, 0, 0), (1, 4, 1, 0), (2, 0, 1, 1), (7, 0, 0, 0), (2, 0, 2, 1), (15, 0, 0, 0), (1, 1, 1, 0), (29, 0, 0, 0)]
/-- ReedBenchModel.tuning(II)Z -/
def xk_102 : List xI := [(3, 0, 0, 1), (1, 0, 1, 0), (13, 661, 7, 0), (0, 0, 0, 0), (0, 0, 0, 0), (3, 0, 0, 1), (28, 735, 93, 1), (0, 0, 0, 0), (0, 0, 0, 0), (2, 0, 1, 1), (9, 0, 2, 29), (0, 0, 0, 0), (0, 0, 0, 0), (2, 0, 1, 1), (1, 2, 1, 0), (10, 0, 4, 29), (0, 0, 0, 0), (0, 0, 0, 0), (2, 0, 2, 1), (9, 0, 2, 29), (0, 0, 0, 0), (0, 0, 0, 0), (2, 0, 2, 1), (1, 8000, 3, 0), (0, 0, 0, 0), (0, 0, 0, 0), (10, 0, 5, 31), (0, 0, 0, 0), (0, 0, 0, 0), (1, 0, 1, 0), (29, 0, 0, 0), (3, 0, 0, 1), (28, 743, 95, 1), (0, 0, 0, 0), (0, 0, 0, 0), (1, 0, 1, 0), (4, 0, 3, 1), (2, 0, 3, 1), (1, 8, 2, 0), (0, 0, 0, 0), (10, 0, 3, 92), (0, 0, 0, 0), (0, 0, 0, 0), (3, 0, 0, 1), (12, 662, 7, 1), (0, 0, 0, 0), (0, 0, 0, 0), (1, 4, 1, 0), (2, 0, 3, 1), (7, 0, 0, 0), (2, 0, 2, 1), (2, 0, 1, 1), (9, 0, 1, 64), (0, 0, 0, 0), (0, 0, 0, 0), (3, 0, 0, 1), (12, 666, 7, 5), (0, 0, 0, 0), (0, 0, 0, 0), (2, 0, 3, 1), (14, 0, 0, 0), (11, 0, 0, 84), (0, 0, 0, 0), (0, 0, 0, 0), (2, 0, 1, 1), (1, 1, 1, 0), (10, 0, 1, 78), (0, 0, 0, 0), (0, 0, 0, 0), (3, 0, 0, 1), (12, 667, 7, 6), (0, 0, 0, 0), (0, 0, 0, 0), (2, 0, 3, 1), (14, 0, 0, 0), (11, 0, 0, 84), (0, 0, 0, 0), (0, 0, 0, 0), (3, 0, 0, 1), (12, 668, 7, 7), (0, 0, 0, 0), (0, 0, 0, 0), (2, 0, 3, 1), (14, 0, 0, 0), (7, 0, 0, 0), (15, 0, 0, 0), (6, 1, 3, 0), (0, 0, 0, 0), (0, 0, 0, 0), (11, 0, 0, 37), (0, 0, 0, 0), (0, 0, 0, 0), (1, 1, 1, 0), (29, 0, 0, 0)]
/-- ReedBenchModel.beat(III)Z -/
def xk_103 : List xI := [(3, 0, 0, 1), (1, 0, 1, 0), (13, 661, 7, 0), (0, 0, 0, 0), (0, 0, 0, 0), (3, 0, 0, 1), (28, 735, 93, 1), (0, 0, 0, 0), (0, 0, 0, 0), (2, 0, 1, 1), (9, 0, 2, 42), (0, 0, 0, 0), (0, 0, 0, 0), (2, 0, 1, 1), (1, 3, 1, 0), (10, 0, 4, 42), (0, 0, 0, 0), (0, 0, 0, 0), (2, 0, 2, 1), (1, (-100), 2, 0), (0, 0, 0, 0), (10, 0, 2, 42), (0, 0, 0, 0), (0, 0, 0, 0), (2, 0, 2, 1), (1, 100, 2, 0), (0, 0, 0, 0), (10, 0, 4, 42), (0, 0, 0, 0), (0, 0, 0, 0), (2, 0, 3, 1), (1, (-100), 2, 0), (0, 0, 0, 0), (10, 0, 2, 42), (0, 0, 0, 0), (0, 0, 0, 0), (2, 0, 3, 1), (1, 100, 2, 0), (0, 0, 0, 0), (10, 0, 5, 44), (0, 0, 0, 0), (0, 0, 0, 0), (1, 0, 1, 0), (29, 0, 0, 0), (3, 0, 0, 1), (28, 743, 95, 1), (0, 0, 0, 0), (0, 0, 0, 0), (3, 0, 0, 1), (12, 662, 7, 1), (0, 0, 0, 0), (0, 0, 0, 0), (1, 12, 2, 0), (0, 0, 0, 0), (2, 0, 1, 1), (7, 0, 0, 0), (2, 0, 2, 1), (15, 0, 0, 0), (3, 0, 0, 1), (12, 662, 7, 1), (0, 0, 0, 0), (0, 0, 0, 0), (1, 16, 2, 0), (0, 0, 0, 0), (2, 0, 1, 1), (7, 0, 0, 0), (2, 0, 3, 1), (15, 0, 0, 0), (1, 1, 1, 0), (29, 0, 0, 0)]
/-- ReedBenchModel.file(III)I -/
def xk_104 : List xI := [(3, 0, 0, 1), (1, 0, 1, 0), (13, 661, 7, 0), (0, 0, 0, 0), (0, 0, 0, 0), (3, 0, 0, 1), (28, 735, 93, 1), (0, 0, 0, 0), (0, 0, 0, 0), (3, 0, 0, 1), (2, 0, 1, 1), (28, 751, 97, 2), (0, 0, 0, 0), (0, 0, 0, 0), (9, 0, 0, 35), (0, 0, 0, 0), (0, 0, 0, 0), (3, 0, 0, 1), (2, 0, 1, 1), (28, 755, 98, 2), (0, 0, 0, 0), (0, 0, 0, 0), (9, 0, 0, 35), (0, 0, 0, 0), (0, 0, 0, 0), (3, 0, 0, 1), (2, 0, 1, 1), (2, 0, 2, 1), (2, 0, 3, 1), (28, 783, 105, 4), (0, 0, 0, 0), (0, 0, 0, 0), (9, 0, 1, 38), (0, 0, 0, 0), (0, 0, 0, 0), (1, (-100000), 2, 787), (0, 0, 0, 0), (29, 0, 0, 0), (3, 0, 0, 1), (28, 743, 95, 1), (0, 0, 0, 0), (0, 0, 0, 0), (3, 0, 0, 1), (2, 0, 1, 1), (2, 0, 2, 1), (2, 0, 3, 1), (28, 788, 106, 4), (0, 0, 0, 0), (0, 0, 0, 0), (3, 0, 0, 1), (2, 0, 1, 1), (1, 0, 1, 0), (28, 759, 99, 3), (0, 0, 0, 0), (0, 0, 0, 0), (29, 0, 0, 0)]
/-- ReedBenchModel.canFile(III)Z -/
def xk_105 : List xI := [(2, 0, 2, 1), (9, 0, 2, 32), (0, 0, 0, 0), (0, 0, 0, 0), (2, 0, 2, 1), (3, 0, 0, 1), (2, 0, 1, 1), (1, 2, 1, 0), (28, 759, 99, 3), (0, 0, 0, 0), (0, 0, 0, 0), (10, 0, 4, 32), (0, 0, 0, 0), (0, 0, 0, 0), (2, 0, 3, 1), (9, 0, 2, 32), (0, 0, 0, 0), (0, 0, 0, 0), (2, 0, 3, 1), (3, 0, 0, 1), (2, 0, 1, 1), (1, 1, 1, 0), (28, 759, 99, 3), (0, 0, 0, 0), (0, 0, 0, 0), (10, 0, 3, 32), (0, 0, 0, 0), (0, 0, 0, 0), (1, 1, 1, 0), (11, 0, 0, 33), (0, 0, 0, 0), (0, 0, 0, 0), (1, 0, 1, 0), (29, 0, 0, 0)]
/-- ReedBenchModel.files(III)V -/
def xk_106 : List xI := [(1, 20, 2, 0), (0, 0, 0, 0), (1, 7, 2, 0), (0, 0, 0, 0), (2, 0, 1, 1), (7, 0, 2, 0), (7, 0, 0, 0), (4, 0, 4, 2), (0, 0, 0, 0), (3, 0, 0, 1), (12, 662, 7, 1), (0, 0, 0, 0), (0, 0, 0, 0), (2, 0, 4, 2), (0, 0, 0, 0), (3, 0, 0, 1), (2, 0, 1, 1), (2, 0, 2, 1), (2, 0, 3, 1), (28, 792, 107, 4), (0, 0, 0, 0), (0, 0, 0, 0), (15, 0, 0, 0), (3, 0, 0, 1), (12, 662, 7, 1), (0, 0, 0, 0), (0, 0, 0, 0), (2, 0, 4, 2), (0, 0, 0, 0), (1, 1, 1, 0), (7, 0, 0, 0), (3, 0, 0, 1), (12, 662, 7, 1), (0, 0, 0, 0), (0, 0, 0, 0), (2, 0, 4, 2), (0, 0, 0, 0), (1, 1, 1, 0), (7, 0, 0, 0), (14, 0, 0, 0), (2, 0, 3, 1), (7, 0, 1, 0), (15, 0, 0, 0), (3, 0, 0, 1), (12, 662, 7, 1), (0, 0, 0, 0), (0, 0, 0, 0), (2, 0, 4, 2), (0, 0, 0, 0), (1, 2, 1, 0), (7, 0, 0, 0), (3, 0, 0, 1), (12, 662, 7, 1), (0, 0, 0, 0), (0, 0, 0, 0), (2, 0, 4, 2), (0, 0, 0, 0), (1, 2, 1, 0), (7, 0, 0, 0), (14, 0, 0, 0), (2, 0, 2, 1), (7, 0, 1, 0), (15, 0, 0, 0), (3, 0, 0, 1), (12, 662, 7, 1), (0, 0, 0, 0), (0, 0, 0, 0), (2, 0, 4, 2), (0, 0, 0, 0), (1, 6, 2, 0), (0, 0, 0, 0), (7, 0, 0, 0), (3, 0, 0, 1), (12, 662, 7, 1), (0, 0, 0, 0), (0, 0, 0, 0), (2, 0, 4, 2), (0, 0, 0, 0), (1, 6, 2, 0), (0, 0, 0, 0), (7, 0, 0, 0), (14, 0, 0, 0), (2, 0, 2, 1), (7, 0, 0, 0), (2, 0, 3, 1), (7, 0, 0, 0), (15, 0, 0, 0), (30, 0, 0, 0)]
/-- ReedBenchModel.pitch(III)I -/
def xk_107 : List xI := [(3, 0, 0, 1), (2, 0, 1, 1), (1, 0, 1, 0), (28, 759, 99, 3), (0, 0, 0, 0), (0, 0, 0, 0), (2, 0, 2, 1), (3, 0, 0, 1), (12, 662, 7, 1), (0, 0, 0, 0), (0, 0, 0, 0), (1, 1, 1, 0), (14, 0, 0, 0), (7, 0, 2, 0), (7, 0, 0, 0), (2, 0, 3, 1), (3, 0, 0, 1), (2, 0, 1, 1), (1, 1, 1, 0), (28, 759, 99, 3), (0, 0, 0, 0), (0, 0, 0, 0), (7, 0, 2, 0), (2, 0, 3, 1), (2, 0, 3, 1), (1, 1, 1, 0), (7, 0, 1, 0), (7, 0, 2, 0), (1, 2, 1, 0), (7, 0, 3, 0), (7, 0, 1, 0), (7, 0, 1, 0), (29, 0, 0, 0)]
/-- ReedBenchModel.look(I)I -/
def xk_108 : List xI := [(3, 0, 0, 1), (1, 0, 1, 0), (13, 661, 7, 0), (0, 0, 0, 0), (0, 0, 0, 0), (3, 0, 0, 1), (28, 735, 93, 1), (0, 0, 0, 0), (0, 0, 0, 0), (2, 0, 1, 1), (9, 0, 1, 20), (0, 0, 0, 0), (0, 0, 0, 0), (3, 0, 0, 1), (12, 662, 7, 1), (0, 0, 0, 0), (0, 0, 0, 0), (1, 0, 1, 0), (14, 0, 0, 0), (29, 0, 0, 0), (2, 0, 1, 1), (1, 1, 1, 0), (10, 0, 1, 59), (0, 0, 0, 0), (0, 0, 0, 0), (1, 0, 1, 0), (4, 0, 2, 1), (1, 0, 1, 0), (4, 0, 3, 1), (2, 0, 3, 1), (3, 0, 0, 1), (12, 662, 7, 1), (0, 0, 0, 0), (0, 0, 0, 0), (1, 0, 1, 0), (14, 0, 0, 0), (10, 0, 3, 57), (0, 0, 0, 0), (0, 0, 0, 0), (3, 0, 0, 1), (2, 0, 3, 1), (28, 755, 98, 2), (0, 0, 0, 0), (0, 0, 0, 0), (9, 0, 0, 51), (0, 0, 0, 0), (0, 0, 0, 0), (2, 0, 2, 1), (1, 1, 1, 0), (7, 0, 0, 0), (4, 0, 2, 1), (6, 1, 3, 0), (0, 0, 0, 0), (0, 0, 0, 0), (11, 0, 0, 29), (0, 0, 0, 0), (0, 0, 0, 0), (2, 0, 2, 1), (29, 0, 0, 0), (2, 0, 1, 1), (1, 2, 1, 0), (10, 0, 1, 71), (0, 0, 0, 0), (0, 0, 0, 0), (3, 0, 0, 1), (12, 662, 7, 1), (0, 0, 0, 0), (0, 0, 0, 0), (1, 1, 1, 0), (14, 0, 0, 0), (29, 0, 0, 0), (2, 0, 1, 1), (1, 3, 1, 0), (10, 0, 1, 83), (0, 0, 0, 0), (0, 0, 0, 0), (3, 0, 0, 1), (12, 662, 7, 1), (0, 0, 0, 0), (0, 0, 0, 0), (1, 2, 1, 0), (14, 0, 0, 0), (29, 0, 0, 0), (2, 0, 1, 1), (1, 4, 1, 0), (10, 0, 1, 120), (0, 0, 0, 0), (0, 0, 0, 0), (1, 0, 1, 0), (4, 0, 2, 1), (1, 0, 1, 0), (4, 0, 3, 1), (2, 0, 3, 1), (1, 8, 2, 0), (0, 0, 0, 0), (10, 0, 3, 118), (0, 0, 0, 0), (0, 0, 0, 0), (3, 0, 0, 1), (2, 0, 3, 1), (28, 800, 109, 2), (0, 0, 0, 0), (0, 0, 0, 0), (9, 0, 0, 112), (0, 0, 0, 0), (0, 0, 0, 0), (2, 0, 2, 1), (1, 1, 1, 0), (2, 0, 3, 1), (7, 0, 8, 0), (7, 0, 6, 0), (4, 0, 2, 1), (6, 1, 3, 0), (0, 0, 0, 0), (0, 0, 0, 0), (11, 0, 0, 92), (0, 0, 0, 0), (0, 0, 0, 0), (2, 0, 2, 1), (29, 0, 0, 0), (2, 0, 1, 1), (1, 5, 1, 0), (10, 0, 1, 132), (0, 0, 0, 0), (0, 0, 0, 0), (3, 0, 0, 1), (12, 662, 7, 1), (0, 0, 0, 0), (0, 0, 0, 0), (1, 3, 1, 0), (14, 0, 0, 0), (29, 0, 0, 0), (2, 0, 1, 1), (1, 10, 2, 0), (0, 0, 0, 0), (10, 0, 2, 156), (0, 0, 0, 0), (0, 0, 0, 0), (2, 0, 1, 1), (1, 18, 2, 0), (0, 0, 0, 0), (10, 0, 3, 156), (0, 0, 0, 0), (0, 0, 0, 0), (3, 0, 0, 1), (12, 662, 7, 1), (0, 0, 0, 0), (0, 0, 0, 0), (1, 4, 1, 0), (2, 0, 1, 1), (7, 0, 0, 0), (1, 10, 2, 0), (0, 0, 0, 0), (7, 0, 1, 0), (14, 0, 0, 0), (29, 0, 0, 0), (2, 0, 1, 1), (1, 20, 2, 0), (0, 0, 0, 0), (10, 0, 2, 168), (0, 0, 0, 0), (0, 0, 0, 0), (2, 0, 1, 1), (1, 27, 2, 0), (0, 0, 0, 0), (10, 0, 5, 172), (0, 0, 0, 0), (0, 0, 0, 0), (1, (-1001), 3, 0), (0, 0, 0, 0), (0, 0, 0, 0), (29, 0, 0, 0), (2, 0, 1, 1), (1, 20, 2, 0), (0, 0, 0, 0), (7, 0, 1, 0), (1, 2, 1, 0), (7, 0, 3, 0), (4, 0, 2, 1), (3, 0, 0, 1), (2, 0, 2, 1), (28, 804, 110, 2), (0, 0, 0, 0), (0, 0, 0, 0), (9, 0, 1, 193), (0, 0, 0, 0), (0, 0, 0, 0), (1, (-1001), 3, 0), (0, 0, 0, 0), (0, 0, 0, 0), (11, 0, 0, 220), (0, 0, 0, 0), (0, 0, 0, 0), (2, 0, 1, 1), (1, 2, 1, 0), (7, 0, 4, 0), (9, 0, 1, 211), (0, 0, 0, 0), (0, 0, 0, 0), (3, 0, 0, 1), (12, 662, 7, 1), (0, 0, 0, 0), (0, 0, 0, 0), (1, 12, 2, 0), (0, 0, 0, 0), (2, 0, 2, 1), (7, 0, 0, 0), (14, 0, 0, 0), (11, 0, 0, 220), (0, 0, 0, 0), (0, 0, 0, 0), (3, 0, 0, 1), (12, 662, 7, 1), (0, 0, 0, 0), (0, 0, 0, 0), (1, 16, 2, 0), (0, 0, 0, 0), (2, 0, 2, 1), (7, 0, 0, 0), (14, 0, 0, 0), (29, 0, 0, 0)]
/-- ReedBenchModel.isWanted(I)Z -/
def xk_109 : List xI := [(3, 0, 0, 1), (12, 662, 7, 1), (0, 0, 0, 0), (0, 0, 0, 0), (1, 4, 1, 0), (2, 0, 1, 1), (7, 0, 0, 0), (14, 0, 0, 0), (1, (-1), 1, 0), (10, 0, 0, 16), (0, 0, 0, 0), (0, 0, 0, 0), (1, 1, 1, 0), (11, 0, 0, 17), (0, 0, 0, 0), (0, 0, 0, 0), (1, 0, 1, 0), (29, 0, 0, 0)]
/-- ReedBenchModel.beats(I)Z -/
def xk_110 : List xI := [(3, 0, 0, 1), (12, 662, 7, 1), (0, 0, 0, 0), (0, 0, 0, 0), (1, 12, 2, 0), (0, 0, 0, 0), (2, 0, 1, 1), (7, 0, 0, 0), (14, 0, 0, 0), (3, 0, 0, 1), (12, 662, 7, 1), (0, 0, 0, 0), (0, 0, 0, 0), (1, 16, 2, 0), (0, 0, 0, 0), (2, 0, 1, 1), (7, 0, 0, 0), (14, 0, 0, 0), (10, 0, 4, 25), (0, 0, 0, 0), (0, 0, 0, 0), (1, 1, 1, 0), (11, 0, 0, 26), (0, 0, 0, 0), (0, 0, 0, 0), (1, 0, 1, 0), (29, 0, 0, 0)]
/-- ReedBenchModel.of(II)I -/
def xk_111 : List xI := [(3, 0, 0, 1), (1, 0, 1, 0), (13, 661, 7, 0), (0, 0, 0, 0), (0, 0, 0, 0), (3, 0, 0, 1), (28, 735, 93, 1), (0, 0, 0, 0), (0, 0, 0, 0), (3, 0, 0, 1), (2, 0, 1, 1), (28, 751, 97, 2), (0, 0, 0, 0), (0, 0, 0, 0), (9, 0, 0, 36), (0, 0, 0, 0), (0, 0, 0, 0), (2, 0, 2, 1), (9, 0, 2, 36), (0, 0, 0, 0), (0, 0, 0, 0), (2, 0, 2, 1), (1, 7, 2, 0), (0, 0, 0, 0), (10, 0, 3, 36), (0, 0, 0, 0), (0, 0, 0, 0), (3, 0, 0, 1), (2, 0, 1, 1), (2, 0, 2, 1), (28, 759, 99, 3), (0, 0, 0, 0), (0, 0, 0, 0), (11, 0, 0, 38), (0, 0, 0, 0), (0, 0, 0, 0), (1, (-100000), 2, 787), (0, 0, 0, 0), (29, 0, 0, 0)]
/-- ReedBenchModel.work(III)I -/
def xk_112 : List xI := [(3, 0, 0, 1), (1, 0, 1, 0), (13, 661, 7, 0), (0, 0, 0, 0), (0, 0, 0, 0), (3, 0, 0, 1), (28, 735, 93, 1), (0, 0, 0, 0), (0, 0, 0, 0), (3, 0, 0, 1), (2, 0, 1, 1), (28, 751, 97, 2), (0, 0, 0, 0), (0, 0, 0, 0), (9, 0, 0, 53), (0, 0, 0, 0), (0, 0, 0, 0), (2, 0, 2, 1), (9, 0, 2, 53), (0, 0, 0, 0), (0, 0, 0, 0), (2, 0, 2, 1), (1, 7, 2, 0), (0, 0, 0, 0), (10, 0, 4, 53), (0, 0, 0, 0), (0, 0, 0, 0), (3, 0, 0, 1), (2, 0, 2, 1), (28, 800, 109, 2), (0, 0, 0, 0), (0, 0, 0, 0), (9, 0, 0, 53), (0, 0, 0, 0), (0, 0, 0, 0), (2, 0, 3, 1), (9, 0, 2, 53), (0, 0, 0, 0), (0, 0, 0, 0), (2, 0, 3, 1), (1, 2, 1, 0), (10, 0, 4, 53), (0, 0, 0, 0), (0, 0, 0, 0), (3, 0, 0, 1), (2, 0, 1, 1), (2, 0, 2, 1), (28, 816, 113, 3), (0, 0, 0, 0), (0, 0, 0, 0), (9, 0, 1, 55), (0, 0, 0, 0), (0, 0, 0, 0), (1, (-1), 1, 0), (29, 0, 0, 0), (2, 0, 3, 1), (9, 0, 1, 66), (0, 0, 0, 0), (0, 0, 0, 0), (3, 0, 0, 1), (12, 671, 7, 10), (0, 0, 0, 0), (0, 0, 0, 0), (11, 0, 0, 87), (0, 0, 0, 0), (0, 0, 0, 0), (2, 0, 3, 1), (1, 1, 1, 0), (10, 0, 1, 78), (0, 0, 0, 0), (0, 0, 0, 0), (3, 0, 0, 1), (12, 672, 7, 11), (0, 0, 0, 0), (0, 0, 0, 0), (11, 0, 0, 87), (0, 0, 0, 0), (0, 0, 0, 0), (3, 0, 0, 1), (12, 671, 7, 10), (0, 0, 0, 0), (0, 0, 0, 0), (3, 0, 0, 1), (12, 672, 7, 11), (0, 0, 0, 0), (0, 0, 0, 0), (7, 0, 1, 0), (29, 0, 0, 0)]
/-- ReedBenchModel.works(II)Z -/
def xk_113 : List xI := [(3, 0, 0, 1), (1, 0, 1, 0), (2, 0, 1, 1), (2, 0, 2, 1), (28, 820, 114, 4), (0, 0, 0, 0), (0, 0, 0, 0), (3, 0, 0, 1), (1, 1000000, 2, 824), (0, 0, 0, 0), (13, 671, 7, 10), (0, 0, 0, 0), (0, 0, 0, 0), (1, 0, 1, 0), (4, 0, 3, 1), (2, 0, 3, 1), (1, 101, 2, 0), (0, 0, 0, 0), (10, 0, 3, 89), (0, 0, 0, 0), (0, 0, 0, 0), (3, 0, 0, 1), (12, 669, 7, 8), (0, 0, 0, 0), (0, 0, 0, 0), (2, 0, 3, 1), (14, 0, 0, 0), (3, 0, 0, 1), (12, 671, 7, 10), (0, 0, 0, 0), (0, 0, 0, 0), (10, 0, 4, 83), (0, 0, 0, 0), (0, 0, 0, 0), (3, 0, 0, 1), (12, 669, 7, 8), (0, 0, 0, 0), (0, 0, 0, 0), (2, 0, 3, 1), (14, 0, 0, 0), (3, 0, 0, 1), (12, 671, 7, 10), (0, 0, 0, 0), (0, 0, 0, 0), (10, 0, 1, 63), (0, 0, 0, 0), (0, 0, 0, 0), (3, 0, 0, 1), (12, 670, 7, 9), (0, 0, 0, 0), (0, 0, 0, 0), (2, 0, 3, 1), (14, 0, 0, 0), (3, 0, 0, 1), (12, 672, 7, 11), (0, 0, 0, 0), (0, 0, 0, 0), (10, 0, 2, 63), (0, 0, 0, 0), (0, 0, 0, 0), (11, 0, 0, 83), (0, 0, 0, 0), (0, 0, 0, 0), (3, 0, 0, 1), (3, 0, 0, 1), (12, 669, 7, 8), (0, 0, 0, 0), (0, 0, 0, 0), (2, 0, 3, 1), (14, 0, 0, 0), (13, 671, 7, 10), (0, 0, 0, 0), (0, 0, 0, 0), (3, 0, 0, 1), (3, 0, 0, 1), (12, 670, 7, 9), (0, 0, 0, 0), (0, 0, 0, 0), (2, 0, 3, 1), (14, 0, 0, 0), (13, 672, 7, 11), (0, 0, 0, 0), (0, 0, 0, 0), (6, 1, 3, 0), (0, 0, 0, 0), (0, 0, 0, 0), (11, 0, 0, 15), (0, 0, 0, 0), (0, 0, 0, 0), (3, 0, 0, 1), (12, 671, 7, 10), (0, 0, 0, 0), (0, 0, 0, 0), (1, 1000000, 2, 824), (0, 0, 0, 0), (10, 0, 3, 102), (0, 0, 0, 0), (0, 0, 0, 0), (1, 1, 1, 0), (11, 0, 0, 103), (0, 0, 0, 0), (0, 0, 0, 0), (1, 0, 1, 0), (29, 0, 0, 0)]
/-- ReedBenchModel.reach(III)V -/
def xk_114 : List xI := [(1, 0, 1, 0), (4, 0, 4, 2), (0, 0, 0, 0), (2, 0, 4, 2), (0, 0, 0, 0), (1, 101, 2, 0), (0, 0, 0, 0), (10, 0, 3, 30), (0, 0, 0, 0), (0, 0, 0, 0), (3, 0, 0, 1), (12, 669, 7, 8), (0, 0, 0, 0), (0, 0, 0, 0), (1, 101, 2, 0), (0, 0, 0, 0), (2, 0, 1, 1), (7, 0, 2, 0), (2, 0, 4, 2), (0, 0, 0, 0), (7, 0, 0, 0), (1, 1000000, 2, 824), (0, 0, 0, 0), (15, 0, 0, 0), (6, 1, 4, 0), (0, 0, 0, 0), (0, 0, 0, 0), (11, 0, 0, 3), (0, 0, 0, 0), (0, 0, 0, 0), (1, 0, 1, 0), (4, 0, 4, 2), (0, 0, 0, 0), (2, 0, 4, 2), (0, 0, 0, 0), (3, 0, 0, 1), (2, 0, 2, 1), (1, 2, 1, 0), (28, 759, 99, 3), (0, 0, 0, 0), (0, 0, 0, 0), (10, 0, 4, 194), (0, 0, 0, 0), (0, 0, 0, 0), (1, 0, 1, 0), (4, 0, 5, 2), (0, 0, 0, 0), (2, 0, 5, 2), (0, 0, 0, 0), (3, 0, 0, 1), (2, 0, 2, 1), (1, 1, 1, 0), (28, 759, 99, 3), (0, 0, 0, 0), (0, 0, 0, 0), (10, 0, 3, 188), (0, 0, 0, 0), (0, 0, 0, 0), (3, 0, 0, 1), (2, 0, 2, 1), (2, 0, 4, 2), (0, 0, 0, 0), (2, 0, 5, 2), (0, 0, 0, 0), (28, 792, 107, 4), (0, 0, 0, 0), (0, 0, 0, 0), (3, 0, 0, 1), (12, 662, 7, 1), (0, 0, 0, 0), (0, 0, 0, 0), (1, 4, 1, 0), (2, 0, 3, 1), (7, 0, 0, 0), (14, 0, 0, 0), (7, 0, 1, 0), (4, 0, 6, 2), (0, 0, 0, 0), (2, 0, 6, 2), (0, 0, 0, 0), (3, 0, 0, 1), (12, 662, 7, 1), (0, 0, 0, 0), (0, 0, 0, 0), (1, 2, 1, 0), (14, 0, 0, 0), (8, 0, 0, 0), (10, 0, 2, 182), (0, 0, 0, 0), (0, 0, 0, 0), (2, 0, 6, 2), (0, 0, 0, 0), (3, 0, 0, 1), (12, 662, 7, 1), (0, 0, 0, 0), (0, 0, 0, 0), (1, 2, 1, 0), (14, 0, 0, 0), (10, 0, 5, 104), (0, 0, 0, 0), (0, 0, 0, 0), (11, 0, 0, 182), (0, 0, 0, 0), (0, 0, 0, 0), (1, 101, 2, 0), (0, 0, 0, 0), (2, 0, 1, 1), (7, 0, 2, 0), (2, 0, 6, 2), (0, 0, 0, 0), (7, 0, 0, 0), (1, 50, 2, 0), (0, 0, 0, 0), (7, 0, 0, 0), (4, 0, 7, 2), (0, 0, 0, 0), (2, 0, 4, 2), (0, 0, 0, 0), (2, 0, 5, 2), (0, 0, 0, 0), (7, 0, 0, 0), (3, 0, 0, 1), (12, 669, 7, 8), (0, 0, 0, 0), (0, 0, 0, 0), (2, 0, 7, 2), (0, 0, 0, 0), (14, 0, 0, 0), (10, 0, 4, 182), (0, 0, 0, 0), (0, 0, 0, 0), (2, 0, 4, 2), (0, 0, 0, 0), (2, 0, 5, 2), (0, 0, 0, 0), (7, 0, 0, 0), (3, 0, 0, 1), (12, 669, 7, 8), (0, 0, 0, 0), (0, 0, 0, 0), (2, 0, 7, 2), (0, 0, 0, 0), (14, 0, 0, 0), (10, 0, 1, 161), (0, 0, 0, 0), (0, 0, 0, 0), (2, 0, 4, 2), (0, 0, 0, 0), (3, 0, 0, 1), (12, 670, 7, 9), (0, 0, 0, 0), (0, 0, 0, 0), (2, 0, 7, 2), (0, 0, 0, 0), (14, 0, 0, 0), (10, 0, 2, 161), (0, 0, 0, 0), (0, 0, 0, 0), (11, 0, 0, 182), (0, 0, 0, 0), (0, 0, 0, 0), (3, 0, 0, 1), (12, 669, 7, 8), (0, 0, 0, 0), (0, 0, 0, 0), (2, 0, 7, 2), (0, 0, 0, 0), (2, 0, 4, 2), (0, 0, 0, 0), (2, 0, 5, 2), (0, 0, 0, 0), (7, 0, 0, 0), (15, 0, 0, 0), (3, 0, 0, 1), (12, 670, 7, 9), (0, 0, 0, 0), (0, 0, 0, 0), (2, 0, 7, 2), (0, 0, 0, 0), (2, 0, 4, 2), (0, 0, 0, 0), (15, 0, 0, 0), (6, 1, 5, 0), (0, 0, 0, 0), (0, 0, 0, 0), (11, 0, 0, 47), (0, 0, 0, 0), (0, 0, 0, 0), (6, 1, 4, 0), (0, 0, 0, 0), (0, 0, 0, 0), (11, 0, 0, 33), (0, 0, 0, 0), (0, 0, 0, 0), (30, 0, 0, 0)]
/-- ReedBenchModel.pairWork(IIII)I -/
def xk_115 : List xI := [(3, 0, 0, 1), (1, 0, 1, 0), (13, 661, 7, 0), (0, 0, 0, 0), (0, 0, 0, 0), (3, 0, 0, 1), (28, 735, 93, 1), (0, 0, 0, 0), (0, 0, 0, 0), (3, 0, 0, 1), (2, 0, 1, 1), (28, 751, 97, 2), (0, 0, 0, 0), (0, 0, 0, 0), (9, 0, 0, 82), (0, 0, 0, 0), (0, 0, 0, 0), (3, 0, 0, 1), (2, 0, 2, 1), (28, 751, 97, 2), (0, 0, 0, 0), (0, 0, 0, 0), (9, 0, 0, 82), (0, 0, 0, 0), (0, 0, 0, 0), (2, 0, 1, 1), (2, 0, 2, 1), (10, 0, 0, 82), (0, 0, 0, 0), (0, 0, 0, 0), (2, 0, 3, 1), (9, 0, 2, 82), (0, 0, 0, 0), (0, 0, 0, 0), (2, 0, 3, 1), (1, 3, 1, 0), (10, 0, 4, 82), (0, 0, 0, 0), (0, 0, 0, 0), (3, 0, 0, 1), (1, 2, 1, 0), (2, 0, 3, 1), (7, 0, 2, 0), (28, 800, 109, 2), (0, 0, 0, 0), (0, 0, 0, 0), (9, 0, 0, 82), (0, 0, 0, 0), (0, 0, 0, 0), (3, 0, 0, 1), (1, 2, 1, 0), (2, 0, 3, 1), (7, 0, 2, 0), (1, 1, 1, 0), (7, 0, 0, 0), (28, 800, 109, 2), (0, 0, 0, 0), (0, 0, 0, 0), (9, 0, 0, 82), (0, 0, 0, 0), (0, 0, 0, 0), (2, 0, 4, 2), (0, 0, 0, 0), (9, 0, 2, 82), (0, 0, 0, 0), (0, 0, 0, 0), (2, 0, 4, 2), (0, 0, 0, 0), (1, 4, 1, 0), (10, 0, 4, 82), (0, 0, 0, 0), (0, 0, 0, 0), (3, 0, 0, 1), (2, 0, 1, 1), (2, 0, 2, 1), (2, 0, 3, 1), (28, 829, 116, 4), (0, 0, 0, 0), (0, 0, 0, 0), (9, 0, 1, 84), (0, 0, 0, 0), (0, 0, 0, 0), (1, (-1), 1, 0), (29, 0, 0, 0), (2, 0, 4, 2), (0, 0, 0, 0), (9, 0, 1, 94), (0, 0, 0, 0), (0, 0, 0, 0), (3, 0, 0, 1), (12, 673, 7, 12), (0, 0, 0, 0), (0, 0, 0, 0), (29, 0, 0, 0), (2, 0, 4, 2), (0, 0, 0, 0), (1, 1, 1, 0), (10, 0, 1, 105), (0, 0, 0, 0), (0, 0, 0, 0), (3, 0, 0, 1), (12, 674, 7, 13), (0, 0, 0, 0), (0, 0, 0, 0), (29, 0, 0, 0), (2, 0, 4, 2), (0, 0, 0, 0), (1, 2, 1, 0), (10, 0, 1, 116), (0, 0, 0, 0), (0, 0, 0, 0), (3, 0, 0, 1), (12, 675, 7, 14), (0, 0, 0, 0), (0, 0, 0, 0), (29, 0, 0, 0), (2, 0, 4, 2), (0, 0, 0, 0), (1, 3, 1, 0), (10, 0, 1, 129), (0, 0, 0, 0), (0, 0, 0, 0), (3, 0, 0, 1), (12, 676, 7, 15), (0, 0, 0, 0), (0, 0, 0, 0), (11, 0, 0, 148), (0, 0, 0, 0), (0, 0, 0, 0), (3, 0, 0, 1), (12, 673, 7, 12), (0, 0, 0, 0), (0, 0, 0, 0), (3, 0, 0, 1), (12, 674, 7, 13), (0, 0, 0, 0), (0, 0, 0, 0), (7, 0, 1, 0), (3, 0, 0, 1), (12, 675, 7, 14), (0, 0, 0, 0), (0, 0, 0, 0), (7, 0, 1, 0), (3, 0, 0, 1), (12, 676, 7, 15), (0, 0, 0, 0), (0, 0, 0, 0), (7, 0, 1, 0), (29, 0, 0, 0)]
/-- ReedBenchModel.pairWorks(III)Z -/
def xk_116 : List xI := [(3, 0, 0, 1), (1, 0, 1, 0), (2, 0, 1, 1), (1, 2, 1, 0), (2, 0, 3, 1), (7, 0, 2, 0), (28, 820, 114, 4), (0, 0, 0, 0), (0, 0, 0, 0), (3, 0, 0, 1), (1, 1, 1, 0), (2, 0, 2, 1), (1, 2, 1, 0), (2, 0, 3, 1), (7, 0, 2, 0), (1, 1, 1, 0), (7, 0, 0, 0), (28, 820, 114, 4), (0, 0, 0, 0), (0, 0, 0, 0), (3, 0, 0, 1), (1, 1000000, 2, 824), (0, 0, 0, 0), (13, 673, 7, 12), (0, 0, 0, 0), (0, 0, 0, 0), (3, 0, 0, 1), (12, 662, 7, 1), (0, 0, 0, 0), (0, 0, 0, 0), (1, 4, 1, 0), (1, 2, 1, 0), (2, 0, 3, 1), (7, 0, 2, 0), (7, 0, 0, 0), (1, 1, 1, 0), (7, 0, 0, 0), (14, 0, 0, 0), (3, 0, 0, 1), (12, 662, 7, 1), (0, 0, 0, 0), (0, 0, 0, 0), (1, 4, 1, 0), (1, 2, 1, 0), (2, 0, 3, 1), (7, 0, 2, 0), (7, 0, 0, 0), (14, 0, 0, 0), (7, 0, 1, 0), (4, 0, 4, 2), (0, 0, 0, 0), (1, 0, 1, 0), (4, 0, 5, 2), (0, 0, 0, 0), (2, 0, 5, 2), (0, 0, 0, 0), (1, 101, 2, 0), (0, 0, 0, 0), (10, 0, 3, 358), (0, 0, 0, 0), (0, 0, 0, 0), (3, 0, 0, 1), (12, 669, 7, 8), (0, 0, 0, 0), (0, 0, 0, 0), (2, 0, 5, 2), (0, 0, 0, 0), (14, 0, 0, 0), (1, 1000000, 2, 824), (0, 0, 0, 0), (10, 0, 1, 76), (0, 0, 0, 0), (0, 0, 0, 0), (11, 0, 0, 352), (0, 0, 0, 0), (0, 0, 0, 0), (1, 0, 1, 0), (4, 0, 6, 2), (0, 0, 0, 0), (2, 0, 6, 2), (0, 0, 0, 0), (1, 101, 2, 0), (0, 0, 0, 0), (10, 0, 3, 352), (0, 0, 0, 0), (0, 0, 0, 0), (3, 0, 0, 1), (12, 669, 7, 8), (0, 0, 0, 0), (0, 0, 0, 0), (1, 101, 2, 0), (0, 0, 0, 0), (2, 0, 6, 2), (0, 0, 0, 0), (7, 0, 0, 0), (14, 0, 0, 0), (1, 1000000, 2, 824), (0, 0, 0, 0), (10, 0, 1, 104), (0, 0, 0, 0), (0, 0, 0, 0), (11, 0, 0, 346), (0, 0, 0, 0), (0, 0, 0, 0), (2, 0, 4, 2), (0, 0, 0, 0), (2, 0, 6, 2), (0, 0, 0, 0), (7, 0, 0, 0), (2, 0, 5, 2), (0, 0, 0, 0), (7, 0, 1, 0), (4, 0, 7, 2), (0, 0, 0, 0), (3, 0, 0, 1), (2, 0, 3, 1), (28, 804, 110, 2), (0, 0, 0, 0), (0, 0, 0, 0), (9, 0, 0, 153), (0, 0, 0, 0), (0, 0, 0, 0), (2, 0, 7, 2), (0, 0, 0, 0), (3, 0, 0, 1), (12, 662, 7, 1), (0, 0, 0, 0), (0, 0, 0, 0), (1, 12, 2, 0), (0, 0, 0, 0), (2, 0, 3, 1), (7, 0, 0, 0), (14, 0, 0, 0), (10, 0, 2, 346), (0, 0, 0, 0), (0, 0, 0, 0), (2, 0, 7, 2), (0, 0, 0, 0), (3, 0, 0, 1), (12, 662, 7, 1), (0, 0, 0, 0), (0, 0, 0, 0), (1, 16, 2, 0), (0, 0, 0, 0), (2, 0, 3, 1), (7, 0, 0, 0), (14, 0, 0, 0), (10, 0, 5, 153), (0, 0, 0, 0), (0, 0, 0, 0), (11, 0, 0, 346), (0, 0, 0, 0), (0, 0, 0, 0), (3, 0, 0, 1), (12, 669, 7, 8), (0, 0, 0, 0), (0, 0, 0, 0), (2, 0, 5, 2), (0, 0, 0, 0), (14, 0, 0, 0), (3, 0, 0, 1), (12, 669, 7, 8), (0, 0, 0, 0), (0, 0, 0, 0), (1, 101, 2, 0), (0, 0, 0, 0), (2, 0, 6, 2), (0, 0, 0, 0), (7, 0, 0, 0), (14, 0, 0, 0), (7, 0, 0, 0), (4, 0, 8, 2), (0, 0, 0, 0), (3, 0, 0, 1), (12, 669, 7, 8), (0, 0, 0, 0), (0, 0, 0, 0), (2, 0, 5, 2), (0, 0, 0, 0), (14, 0, 0, 0), (3, 0, 0, 1), (12, 670, 7, 9), (0, 0, 0, 0), (0, 0, 0, 0), (2, 0, 5, 2), (0, 0, 0, 0), (14, 0, 0, 0), (7, 0, 1, 0), (4, 0, 9, 2), (0, 0, 0, 0), (2, 0, 8, 2), (0, 0, 0, 0), (3, 0, 0, 1), (12, 673, 7, 12), (0, 0, 0, 0), (0, 0, 0, 0), (10, 0, 3, 203), (0, 0, 0, 0), (0, 0, 0, 0), (1, 1, 1, 0), (11, 0, 0, 204), (0, 0, 0, 0), (0, 0, 0, 0), (1, 0, 1, 0), (4, 0, 10, 2), (0, 0, 0, 0), (2, 0, 8, 2), (0, 0, 0, 0), (3, 0, 0, 1), (12, 673, 7, 12), (0, 0, 0, 0), (0, 0, 0, 0), (10, 0, 1, 301), (0, 0, 0, 0), (0, 0, 0, 0), (3, 0, 0, 1), (12, 670, 7, 9), (0, 0, 0, 0), (0, 0, 0, 0), (2, 0, 5, 2), (0, 0, 0, 0), (14, 0, 0, 0), (3, 0, 0, 1), (12, 674, 7, 13), (0, 0, 0, 0), (0, 0, 0, 0), (10, 0, 0, 251), (0, 0, 0, 0), (0, 0, 0, 0), (3, 0, 0, 1), (12, 670, 7, 9), (0, 0, 0, 0), (0, 0, 0, 0), (2, 0, 5, 2), (0, 0, 0, 0), (14, 0, 0, 0), (3, 0, 0, 1), (12, 674, 7, 13), (0, 0, 0, 0), (0, 0, 0, 0), (10, 0, 3, 247), (0, 0, 0, 0), (0, 0, 0, 0), (1, 1, 1, 0), (11, 0, 0, 299), (0, 0, 0, 0), (0, 0, 0, 0), (1, 0, 1, 0), (11, 0, 0, 299), (0, 0, 0, 0), (0, 0, 0, 0), (2, 0, 9, 2), (0, 0, 0, 0), (3, 0, 0, 1), (12, 675, 7, 14), (0, 0, 0, 0), (0, 0, 0, 0), (10, 0, 0, 277), (0, 0, 0, 0), (0, 0, 0, 0), (2, 0, 9, 2), (0, 0, 0, 0), (3, 0, 0, 1), (12, 675, 7, 14), (0, 0, 0, 0), (0, 0, 0, 0), (10, 0, 3, 273), (0, 0, 0, 0), (0, 0, 0, 0), (1, 1, 1, 0), (11, 0, 0, 299), (0, 0, 0, 0), (0, 0, 0, 0), (1, 0, 1, 0), (11, 0, 0, 299), (0, 0, 0, 0), (0, 0, 0, 0), (3, 0, 0, 1), (12, 670, 7, 9), (0, 0, 0, 0), (0, 0, 0, 0), (1, 101, 2, 0), (0, 0, 0, 0), (2, 0, 6, 2), (0, 0, 0, 0), (7, 0, 0, 0), (14, 0, 0, 0), (3, 0, 0, 1), (12, 676, 7, 15), (0, 0, 0, 0), (0, 0, 0, 0), (10, 0, 3, 298), (0, 0, 0, 0), (0, 0, 0, 0), (1, 1, 1, 0), (11, 0, 0, 299), (0, 0, 0, 0), (0, 0, 0, 0), (1, 0, 1, 0), (4, 0, 10, 2), (0, 0, 0, 0), (2, 0, 10, 2), (0, 0, 0, 0), (9, 0, 1, 309), (0, 0, 0, 0), (0, 0, 0, 0), (11, 0, 0, 346), (0, 0, 0, 0), (0, 0, 0, 0), (3, 0, 0, 1), (2, 0, 8, 2), (0, 0, 0, 0), (13, 673, 7, 12), (0, 0, 0, 0), (0, 0, 0, 0), (3, 0, 0, 1), (3, 0, 0, 1), (12, 670, 7, 9), (0, 0, 0, 0), (0, 0, 0, 0), (2, 0, 5, 2), (0, 0, 0, 0), (14, 0, 0, 0), (13, 674, 7, 13), (0, 0, 0, 0), (0, 0, 0, 0), (3, 0, 0, 1), (2, 0, 9, 2), (0, 0, 0, 0), (13, 675, 7, 14), (0, 0, 0, 0), (0, 0, 0, 0), (3, 0, 0, 1), (3, 0, 0, 1), (12, 670, 7, 9), (0, 0, 0, 0), (0, 0, 0, 0), (1, 101, 2, 0), (0, 0, 0, 0), (2, 0, 6, 2), (0, 0, 0, 0), (7, 0, 0, 0), (14, 0, 0, 0), (13, 676, 7, 15), (0, 0, 0, 0), (0, 0, 0, 0), (6, 1, 6, 0), (0, 0, 0, 0), (0, 0, 0, 0), (11, 0, 0, 79), (0, 0, 0, 0), (0, 0, 0, 0), (6, 1, 5, 0), (0, 0, 0, 0), (0, 0, 0, 0), (11, 0, 0, 54), (0, 0, 0, 0), (0, 0, 0, 0), (3, 0, 0, 1), (12, 673, 7, 12), (0, 0, 0, 0), (0, 0, 0, 0), (1, 1000000, 2, 824), (0, 0, 0, 0), (10, 0, 3, 371), (0, 0, 0, 0), (0, 0, 0, 0), (1, 1, 1, 0), (11, 0, 0, 372), (0, 0, 0, 0), (0, 0, 0, 0), (1, 0, 1, 0), (29, 0, 0, 0)]
/-- ReedBenchModel.best(I)I -/
def xk_117 : List xI := [(3, 0, 0, 1), (1, 0, 1, 0), (13, 661, 7, 0), (0, 0, 0, 0), (0, 0, 0, 0), (3, 0, 0, 1), (28, 735, 93, 1), (0, 0, 0, 0), (0, 0, 0, 0), (2, 0, 1, 1), (9, 0, 0, 25), (0, 0, 0, 0), (0, 0, 0, 0), (2, 0, 1, 1), (1, 10, 2, 0), (0, 0, 0, 0), (10, 0, 2, 29), (0, 0, 0, 0), (0, 0, 0, 0), (2, 0, 1, 1), (1, 18, 2, 0), (0, 0, 0, 0), (10, 0, 3, 29), (0, 0, 0, 0), (0, 0, 0, 0), (1, 1, 1, 0), (11, 0, 0, 30), (0, 0, 0, 0), (0, 0, 0, 0), (1, 0, 1, 0), (4, 0, 2, 1), (2, 0, 2, 1), (9, 0, 0, 42), (0, 0, 0, 0), (0, 0, 0, 0), (3, 0, 0, 1), (28, 837, 118, 1), (0, 0, 0, 0), (0, 0, 0, 0), (9, 0, 1, 44), (0, 0, 0, 0), (0, 0, 0, 0), (1, (-1), 1, 0), (29, 0, 0, 0), (2, 0, 1, 1), (9, 0, 1, 57), (0, 0, 0, 0), (0, 0, 0, 0), (3, 0, 0, 1), (12, 679, 7, 18), (0, 0, 0, 0), (0, 0, 0, 0), (1, 0, 1, 0), (14, 0, 0, 0), (11, 0, 0, 66), (0, 0, 0, 0), (0, 0, 0, 0), (3, 0, 0, 1), (12, 683, 7, 22), (0, 0, 0, 0), (0, 0, 0, 0), (2, 0, 1, 1), (1, 10, 2, 0), (0, 0, 0, 0), (7, 0, 1, 0), (14, 0, 0, 0), (29, 0, 0, 0)]
/-- ReedBenchModel.takesLay()Z -/
def xk_118 : List xI := [(3, 0, 0, 1), (28, 841, 119, 1), (0, 0, 0, 0), (0, 0, 0, 0), (3, 0, 0, 1), (12, 679, 7, 18), (0, 0, 0, 0), (0, 0, 0, 0), (1, 0, 1, 0), (14, 0, 0, 0), (1, 1000000, 2, 824), (0, 0, 0, 0), (10, 0, 2, 17), (0, 0, 0, 0), (0, 0, 0, 0), (1, 0, 1, 0), (29, 0, 0, 0), (1, 0, 1, 0), (4, 0, 1, 1), (1, 0, 1, 0), (4, 0, 2, 1), (2, 0, 2, 1), (1, 4, 1, 0), (10, 0, 3, 428), (0, 0, 0, 0), (0, 0, 0, 0), (3, 0, 0, 1), (1, 2, 1, 0), (2, 0, 2, 1), (7, 0, 2, 0), (28, 800, 109, 2), (0, 0, 0, 0), (0, 0, 0, 0), (4, 0, 3, 1), (3, 0, 0, 1), (1, 2, 1, 0), (2, 0, 2, 1), (7, 0, 2, 0), (1, 1, 1, 0), (7, 0, 0, 0), (28, 800, 109, 2), (0, 0, 0, 0), (0, 0, 0, 0), (4, 0, 4, 2), (0, 0, 0, 0), (3, 0, 0, 1), (12, 683, 7, 22), (0, 0, 0, 0), (0, 0, 0, 0), (1, 2, 1, 0), (2, 0, 2, 1), (7, 0, 2, 0), (1, (-1), 1, 0), (15, 0, 0, 0), (3, 0, 0, 1), (12, 683, 7, 22), (0, 0, 0, 0), (0, 0, 0, 0), (1, 2, 1, 0), (2, 0, 2, 1), (7, 0, 2, 0), (1, 1, 1, 0), (7, 0, 0, 0), (1, (-1), 1, 0), (15, 0, 0, 0), (2, 0, 3, 1), (9, 0, 1, 77), (0, 0, 0, 0), (0, 0, 0, 0), (2, 0, 4, 2), (0, 0, 0, 0), (9, 0, 1, 77), (0, 0, 0, 0), (0, 0, 0, 0), (11, 0, 0, 422), (0, 0, 0, 0), (0, 0, 0, 0), (1, 4096, 3, 0), (0, 0, 0, 0), (0, 0, 0, 0), (2, 0, 2, 1), (7, 0, 2, 0), (2, 0, 1, 1), (7, 0, 0, 0), (4, 0, 5, 2), (0, 0, 0, 0), (1, 4096, 3, 0), (0, 0, 0, 0), (0, 0, 0, 0), (2, 0, 2, 1), (1, 1, 1, 0), (7, 0, 0, 0), (7, 0, 2, 0), (4, 0, 6, 2), (0, 0, 0, 0), (1, 0, 1, 0), (4, 0, 7, 2), (0, 0, 0, 0), (2, 0, 7, 2), (0, 0, 0, 0), (1, 12, 2, 0), (0, 0, 0, 0), (10, 0, 3, 368), (0, 0, 0, 0), (0, 0, 0, 0), (3, 0, 0, 1), (12, 683, 7, 22), (0, 0, 0, 0), (0, 0, 0, 0), (1, 2, 1, 0), (2, 0, 2, 1), (7, 0, 2, 0), (14, 0, 0, 0), (1, (-1), 1, 0), (10, 0, 1, 368), (0, 0, 0, 0), (0, 0, 0, 0), (3, 0, 0, 1), (12, 683, 7, 22), (0, 0, 0, 0), (0, 0, 0, 0), (1, 2, 1, 0), (2, 0, 2, 1), (7, 0, 2, 0), (1, 1, 1, 0), (7, 0, 0, 0), (14, 0, 0, 0), (1, (-1), 1, 0), (10, 0, 1, 368), (0, 0, 0, 0), (0, 0, 0, 0), (3, 0, 0, 1), (2, 0, 1, 1), (2, 0, 7, 2), (0, 0, 0, 0), (28, 853, 122, 3), (0, 0, 0, 0), (0, 0, 0, 0), (9, 0, 0, 144), (0, 0, 0, 0), (0, 0, 0, 0), (11, 0, 0, 362), (0, 0, 0, 0), (0, 0, 0, 0), (2, 0, 4, 2), (0, 0, 0, 0), (9, 0, 1, 191), (0, 0, 0, 0), (0, 0, 0, 0), (3, 0, 0, 1), (2, 0, 5, 2), (0, 0, 0, 0), (2, 0, 6, 2), (0, 0, 0, 0), (2, 0, 1, 1), (1, 1, 1, 0), (2, 0, 7, 2), (0, 0, 0, 0), (7, 0, 8, 0), (7, 0, 6, 0), (7, 0, 0, 0), (3, 0, 0, 1), (12, 677, 7, 16), (0, 0, 0, 0), (0, 0, 0, 0), (1, 8, 2, 0), (0, 0, 0, 0), (2, 0, 7, 2), (0, 0, 0, 0), (7, 0, 2, 0), (1, 2, 1, 0), (2, 0, 2, 1), (7, 0, 2, 0), (7, 0, 0, 0), (14, 0, 0, 0), (28, 857, 123, 4), (0, 0, 0, 0), (0, 0, 0, 0), (9, 0, 0, 191), (0, 0, 0, 0), (0, 0, 0, 0), (3, 0, 0, 1), (12, 683, 7, 22), (0, 0, 0, 0), (0, 0, 0, 0), (1, 2, 1, 0), (2, 0, 2, 1), (7, 0, 2, 0), (2, 0, 7, 2), (0, 0, 0, 0), (15, 0, 0, 0), (2, 0, 3, 1), (9, 0, 1, 241), (0, 0, 0, 0), (0, 0, 0, 0), (3, 0, 0, 1), (2, 0, 5, 2), (0, 0, 0, 0), (2, 0, 6, 2), (0, 0, 0, 0), (2, 0, 1, 1), (1, 1, 1, 0), (2, 0, 7, 2), (0, 0, 0, 0), (7, 0, 8, 0), (7, 0, 6, 0), (7, 0, 0, 0), (3, 0, 0, 1), (12, 677, 7, 16), (0, 0, 0, 0), (0, 0, 0, 0), (1, 8, 2, 0), (0, 0, 0, 0), (2, 0, 7, 2), (0, 0, 0, 0), (7, 0, 2, 0), (1, 2, 1, 0), (2, 0, 2, 1), (7, 0, 2, 0), (7, 0, 0, 0), (1, 1, 1, 0), (7, 0, 0, 0), (14, 0, 0, 0), (28, 857, 123, 4), (0, 0, 0, 0), (0, 0, 0, 0), (9, 0, 0, 241), (0, 0, 0, 0), (0, 0, 0, 0), (3, 0, 0, 1), (12, 683, 7, 22), (0, 0, 0, 0), (0, 0, 0, 0), (1, 2, 1, 0), (2, 0, 2, 1), (7, 0, 2, 0), (1, 1, 1, 0), (7, 0, 0, 0), (2, 0, 7, 2), (0, 0, 0, 0), (15, 0, 0, 0), (1, 0, 1, 0), (4, 0, 8, 2), (0, 0, 0, 0), (2, 0, 8, 2), (0, 0, 0, 0), (1, 12, 2, 0), (0, 0, 0, 0), (10, 0, 3, 362), (0, 0, 0, 0), (0, 0, 0, 0), (2, 0, 3, 1), (9, 0, 0, 362), (0, 0, 0, 0), (0, 0, 0, 0), (2, 0, 4, 2), (0, 0, 0, 0), (9, 0, 0, 362), (0, 0, 0, 0), (0, 0, 0, 0), (3, 0, 0, 1), (12, 683, 7, 22), (0, 0, 0, 0), (0, 0, 0, 0), (1, 2, 1, 0), (2, 0, 2, 1), (7, 0, 2, 0), (14, 0, 0, 0), (1, (-1), 1, 0), (10, 0, 1, 362), (0, 0, 0, 0), (0, 0, 0, 0), (3, 0, 0, 1), (2, 0, 1, 1), (2, 0, 8, 2), (0, 0, 0, 0), (28, 853, 122, 3), (0, 0, 0, 0), (0, 0, 0, 0), (9, 0, 1, 356), (0, 0, 0, 0), (0, 0, 0, 0), (2, 0, 8, 2), (0, 0, 0, 0), (2, 0, 7, 2), (0, 0, 0, 0), (10, 0, 0, 356), (0, 0, 0, 0), (0, 0, 0, 0), (3, 0, 0, 1), (2, 0, 5, 2), (0, 0, 0, 0), (2, 0, 6, 2), (0, 0, 0, 0), (2, 0, 1, 1), (1, 1, 1, 0), (2, 0, 7, 2), (0, 0, 0, 0), (7, 0, 8, 0), (7, 0, 6, 0), (1, 1, 1, 0), (2, 0, 8, 2), (0, 0, 0, 0), (7, 0, 8, 0), (7, 0, 6, 0), (7, 0, 0, 0), (3, 0, 0, 1), (12, 678, 7, 17), (0, 0, 0, 0), (0, 0, 0, 0), (1, 144, 3, 0), (0, 0, 0, 0), (0, 0, 0, 0), (2, 0, 2, 1), (7, 0, 2, 0), (1, 12, 2, 0), (0, 0, 0, 0), (2, 0, 7, 2), (0, 0, 0, 0), (7, 0, 2, 0), (7, 0, 0, 0), (2, 0, 8, 2), (0, 0, 0, 0), (7, 0, 0, 0), (14, 0, 0, 0), (28, 857, 123, 4), (0, 0, 0, 0), (0, 0, 0, 0), (9, 0, 1, 334), (0, 0, 0, 0), (0, 0, 0, 0), (11, 0, 0, 356), (0, 0, 0, 0), (0, 0, 0, 0), (3, 0, 0, 1), (12, 683, 7, 22), (0, 0, 0, 0), (0, 0, 0, 0), (1, 2, 1, 0), (2, 0, 2, 1), (7, 0, 2, 0), (2, 0, 7, 2), (0, 0, 0, 0), (15, 0, 0, 0), (3, 0, 0, 1), (12, 683, 7, 22), (0, 0, 0, 0), (0, 0, 0, 0), (1, 2, 1, 0), (2, 0, 2, 1), (7, 0, 2, 0), (1, 1, 1, 0), (7, 0, 0, 0), (2, 0, 8, 2), (0, 0, 0, 0), (15, 0, 0, 0), (6, 1, 8, 0), (0, 0, 0, 0), (0, 0, 0, 0), (11, 0, 0, 244), (0, 0, 0, 0), (0, 0, 0, 0), (6, 1, 7, 0), (0, 0, 0, 0), (0, 0, 0, 0), (11, 0, 0, 98), (0, 0, 0, 0), (0, 0, 0, 0), (3, 0, 0, 1), (12, 683, 7, 22), (0, 0, 0, 0), (0, 0, 0, 0), (1, 2, 1, 0), (2, 0, 2, 1), (7, 0, 2, 0), (14, 0, 0, 0), (1, (-1), 1, 0), (10, 0, 0, 393), (0, 0, 0, 0), (0, 0, 0, 0), (2, 0, 1, 1), (1, 1, 1, 0), (3, 0, 0, 1), (12, 683, 7, 22), (0, 0, 0, 0), (0, 0, 0, 0), (1, 2, 1, 0), (2, 0, 2, 1), (7, 0, 2, 0), (14, 0, 0, 0), (7, 0, 8, 0), (7, 0, 6, 0), (4, 0, 1, 1), (3, 0, 0, 1), (12, 683, 7, 22), (0, 0, 0, 0), (0, 0, 0, 0), (1, 2, 1, 0), (2, 0, 2, 1), (7, 0, 2, 0), (1, 1, 1, 0), (7, 0, 0, 0), (14, 0, 0, 0), (1, (-1), 1, 0), (10, 0, 0, 422), (0, 0, 0, 0), (0, 0, 0, 0), (2, 0, 1, 1), (1, 1, 1, 0), (3, 0, 0, 1), (12, 683, 7, 22), (0, 0, 0, 0), (0, 0, 0, 0), (1, 2, 1, 0), (2, 0, 2, 1), (7, 0, 2, 0), (1, 1, 1, 0), (7, 0, 0, 0), (14, 0, 0, 0), (7, 0, 8, 0), (7, 0, 6, 0), (4, 0, 1, 1), (6, 1, 2, 0), (0, 0, 0, 0), (0, 0, 0, 0), (11, 0, 0, 21), (0, 0, 0, 0), (0, 0, 0, 0), (1, 1, 1, 0), (29, 0, 0, 0)]
/-- ReedBenchModel.findLays()V -/
def xk_119 : List xI := [(3, 0, 0, 1), (28, 845, 120, 1), (0, 0, 0, 0), (0, 0, 0, 0), (1, 4, 1, 0), (4, 0, 1, 1), (2, 0, 1, 1), (9, 0, 2, 359), (0, 0, 0, 0), (0, 0, 0, 0), (2, 0, 1, 1), (1, 4, 1, 0), (10, 0, 3, 29), (0, 0, 0, 0), (0, 0, 0, 0), (3, 0, 0, 1), (1, 2, 1, 0), (2, 0, 1, 1), (7, 0, 2, 0), (28, 800, 109, 2), (0, 0, 0, 0), (0, 0, 0, 0), (9, 0, 0, 29), (0, 0, 0, 0), (0, 0, 0, 0), (1, 1, 1, 0), (11, 0, 0, 30), (0, 0, 0, 0), (0, 0, 0, 0), (1, 0, 1, 0), (4, 0, 2, 1), (2, 0, 1, 1), (1, 4, 1, 0), (10, 0, 3, 52), (0, 0, 0, 0), (0, 0, 0, 0), (3, 0, 0, 1), (1, 2, 1, 0), (2, 0, 1, 1), (7, 0, 2, 0), (1, 1, 1, 0), (7, 0, 0, 0), (28, 800, 109, 2), (0, 0, 0, 0), (0, 0, 0, 0), (9, 0, 0, 52), (0, 0, 0, 0), (0, 0, 0, 0), (1, 1, 1, 0), (11, 0, 0, 53), (0, 0, 0, 0), (0, 0, 0, 0), (1, 0, 1, 0), (4, 0, 3, 1), (1, 0, 1, 0), (4, 0, 4, 2), (0, 0, 0, 0), (2, 0, 4, 2), (0, 0, 0, 0), (1, 4096, 3, 0), (0, 0, 0, 0), (0, 0, 0, 0), (10, 0, 3, 353), (0, 0, 0, 0), (0, 0, 0, 0), (3, 0, 0, 1), (2, 0, 1, 1), (1, 4, 1, 0), (10, 0, 1, 75), (0, 0, 0, 0), (0, 0, 0, 0), (1, 0, 1, 0), (11, 0, 0, 77), (0, 0, 0, 0), (0, 0, 0, 0), (1, 1000000, 2, 824), (0, 0, 0, 0), (13, 681, 7, 20), (0, 0, 0, 0), (0, 0, 0, 0), (3, 0, 0, 1), (2, 0, 1, 1), (1, 4, 1, 0), (10, 0, 1, 90), (0, 0, 0, 0), (0, 0, 0, 0), (1, 1, 1, 0), (11, 0, 0, 91), (0, 0, 0, 0), (0, 0, 0, 0), (1, 0, 1, 0), (13, 682, 7, 21), (0, 0, 0, 0), (0, 0, 0, 0), (1, 4096, 3, 0), (0, 0, 0, 0), (0, 0, 0, 0), (2, 0, 1, 1), (1, 1, 1, 0), (7, 0, 0, 0), (7, 0, 2, 0), (4, 0, 5, 2), (0, 0, 0, 0), (2, 0, 1, 1), (1, 4, 1, 0), (10, 0, 3, 126), (0, 0, 0, 0), (0, 0, 0, 0), (2, 0, 2, 1), (9, 0, 1, 126), (0, 0, 0, 0), (0, 0, 0, 0), (2, 0, 3, 1), (9, 0, 1, 126), (0, 0, 0, 0), (0, 0, 0, 0), (3, 0, 0, 1), (2, 0, 5, 2), (0, 0, 0, 0), (2, 0, 4, 2), (0, 0, 0, 0), (7, 0, 0, 0), (1, 0, 1, 0), (28, 849, 121, 3), (0, 0, 0, 0), (0, 0, 0, 0), (1, 0, 1, 0), (4, 0, 6, 2), (0, 0, 0, 0), (2, 0, 6, 2), (0, 0, 0, 0), (1, 12, 2, 0), (0, 0, 0, 0), (10, 0, 3, 313), (0, 0, 0, 0), (0, 0, 0, 0), (2, 0, 2, 1), (9, 0, 1, 144), (0, 0, 0, 0), (0, 0, 0, 0), (2, 0, 3, 1), (9, 0, 0, 313), (0, 0, 0, 0), (0, 0, 0, 0), (3, 0, 0, 1), (2, 0, 4, 2), (0, 0, 0, 0), (2, 0, 6, 2), (0, 0, 0, 0), (28, 853, 122, 3), (0, 0, 0, 0), (0, 0, 0, 0), (9, 0, 0, 158), (0, 0, 0, 0), (0, 0, 0, 0), (11, 0, 0, 307), (0, 0, 0, 0), (0, 0, 0, 0), (2, 0, 3, 1), (9, 0, 1, 190), (0, 0, 0, 0), (0, 0, 0, 0), (3, 0, 0, 1), (2, 0, 5, 2), (0, 0, 0, 0), (2, 0, 4, 2), (0, 0, 0, 0), (1, 1, 1, 0), (2, 0, 6, 2), (0, 0, 0, 0), (7, 0, 8, 0), (7, 0, 6, 0), (7, 0, 0, 0), (3, 0, 0, 1), (12, 677, 7, 16), (0, 0, 0, 0), (0, 0, 0, 0), (1, 8, 2, 0), (0, 0, 0, 0), (2, 0, 6, 2), (0, 0, 0, 0), (7, 0, 2, 0), (1, 2, 1, 0), (2, 0, 1, 1), (7, 0, 2, 0), (7, 0, 0, 0), (14, 0, 0, 0), (28, 849, 121, 3), (0, 0, 0, 0), (0, 0, 0, 0), (2, 0, 2, 1), (9, 0, 1, 224), (0, 0, 0, 0), (0, 0, 0, 0), (3, 0, 0, 1), (2, 0, 5, 2), (0, 0, 0, 0), (2, 0, 4, 2), (0, 0, 0, 0), (1, 1, 1, 0), (2, 0, 6, 2), (0, 0, 0, 0), (7, 0, 8, 0), (7, 0, 6, 0), (7, 0, 0, 0), (3, 0, 0, 1), (12, 677, 7, 16), (0, 0, 0, 0), (0, 0, 0, 0), (1, 8, 2, 0), (0, 0, 0, 0), (2, 0, 6, 2), (0, 0, 0, 0), (7, 0, 2, 0), (1, 2, 1, 0), (2, 0, 1, 1), (7, 0, 2, 0), (7, 0, 0, 0), (1, 1, 1, 0), (7, 0, 0, 0), (14, 0, 0, 0), (28, 849, 121, 3), (0, 0, 0, 0), (0, 0, 0, 0), (2, 0, 2, 1), (9, 0, 0, 307), (0, 0, 0, 0), (0, 0, 0, 0), (2, 0, 3, 1), (9, 0, 1, 235), (0, 0, 0, 0), (0, 0, 0, 0), (11, 0, 0, 307), (0, 0, 0, 0), (0, 0, 0, 0), (1, 0, 1, 0), (4, 0, 7, 2), (0, 0, 0, 0), (2, 0, 7, 2), (0, 0, 0, 0), (1, 12, 2, 0), (0, 0, 0, 0), (10, 0, 3, 307), (0, 0, 0, 0), (0, 0, 0, 0), (3, 0, 0, 1), (2, 0, 4, 2), (0, 0, 0, 0), (2, 0, 7, 2), (0, 0, 0, 0), (28, 853, 122, 3), (0, 0, 0, 0), (0, 0, 0, 0), (9, 0, 1, 301), (0, 0, 0, 0), (0, 0, 0, 0), (2, 0, 7, 2), (0, 0, 0, 0), (2, 0, 6, 2), (0, 0, 0, 0), (10, 0, 0, 301), (0, 0, 0, 0), (0, 0, 0, 0), (3, 0, 0, 1), (2, 0, 5, 2), (0, 0, 0, 0), (2, 0, 4, 2), (0, 0, 0, 0), (1, 1, 1, 0), (2, 0, 6, 2), (0, 0, 0, 0), (7, 0, 8, 0), (7, 0, 6, 0), (1, 1, 1, 0), (2, 0, 7, 2), (0, 0, 0, 0), (7, 0, 8, 0), (7, 0, 6, 0), (7, 0, 0, 0), (3, 0, 0, 1), (12, 678, 7, 17), (0, 0, 0, 0), (0, 0, 0, 0), (1, 144, 3, 0), (0, 0, 0, 0), (0, 0, 0, 0), (2, 0, 1, 1), (7, 0, 2, 0), (1, 12, 2, 0), (0, 0, 0, 0), (2, 0, 6, 2), (0, 0, 0, 0), (7, 0, 2, 0), (7, 0, 0, 0), (2, 0, 7, 2), (0, 0, 0, 0), (7, 0, 0, 0), (14, 0, 0, 0), (28, 849, 121, 3), (0, 0, 0, 0), (0, 0, 0, 0), (6, 1, 7, 0), (0, 0, 0, 0), (0, 0, 0, 0), (11, 0, 0, 238), (0, 0, 0, 0), (0, 0, 0, 0), (6, 1, 6, 0), (0, 0, 0, 0), (0, 0, 0, 0), (11, 0, 0, 129), (0, 0, 0, 0), (0, 0, 0, 0), (3, 0, 0, 1), (12, 679, 7, 18), (0, 0, 0, 0), (0, 0, 0, 0), (1, 4096, 3, 0), (0, 0, 0, 0), (0, 0, 0, 0), (2, 0, 1, 1), (7, 0, 2, 0), (2, 0, 4, 2), (0, 0, 0, 0), (7, 0, 0, 0), (3, 0, 0, 1), (12, 681, 7, 20), (0, 0, 0, 0), (0, 0, 0, 0), (15, 0, 0, 0), (3, 0, 0, 1), (12, 680, 7, 19), (0, 0, 0, 0), (0, 0, 0, 0), (1, 4096, 3, 0), (0, 0, 0, 0), (0, 0, 0, 0), (2, 0, 1, 1), (7, 0, 2, 0), (2, 0, 4, 2), (0, 0, 0, 0), (7, 0, 0, 0), (3, 0, 0, 1), (12, 682, 7, 21), (0, 0, 0, 0), (0, 0, 0, 0), (15, 0, 0, 0), (6, 1, 4, 0), (0, 0, 0, 0), (0, 0, 0, 0), (11, 0, 0, 57), (0, 0, 0, 0), (0, 0, 0, 0), (6, (-1), 1, 0), (0, 0, 0, 0), (0, 0, 0, 0), (11, 0, 0, 6), (0, 0, 0, 0), (0, 0, 0, 0), (30, 0, 0, 0)]
/-- ReedBenchModel.findCosts()V -/
def xk_120 : List xI := [(1, 0, 1, 0), (4, 0, 1, 1), (2, 0, 1, 1), (1, 12, 2, 0), (0, 0, 0, 0), (10, 0, 3, 89), (0, 0, 0, 0), (0, 0, 0, 0), (1, 0, 1, 0), (4, 0, 2, 1), (2, 0, 2, 1), (1, 8, 2, 0), (0, 0, 0, 0), (10, 0, 3, 83), (0, 0, 0, 0), (0, 0, 0, 0), (3, 0, 0, 1), (12, 677, 7, 16), (0, 0, 0, 0), (0, 0, 0, 0), (1, 8, 2, 0), (0, 0, 0, 0), (2, 0, 1, 1), (7, 0, 2, 0), (2, 0, 2, 1), (7, 0, 0, 0), (1, 1000000, 2, 824), (0, 0, 0, 0), (15, 0, 0, 0), (3, 0, 0, 1), (2, 0, 1, 1), (28, 751, 97, 2), (0, 0, 0, 0), (0, 0, 0, 0), (9, 0, 0, 77), (0, 0, 0, 0), (0, 0, 0, 0), (3, 0, 0, 1), (2, 0, 1, 1), (28, 755, 98, 2), (0, 0, 0, 0), (0, 0, 0, 0), (9, 0, 0, 77), (0, 0, 0, 0), (0, 0, 0, 0), (3, 0, 0, 1), (2, 0, 2, 1), (28, 800, 109, 2), (0, 0, 0, 0), (0, 0, 0, 0), (9, 0, 0, 77), (0, 0, 0, 0), (0, 0, 0, 0), (3, 0, 0, 1), (2, 0, 1, 1), (2, 0, 2, 1), (28, 816, 113, 3), (0, 0, 0, 0), (0, 0, 0, 0), (9, 0, 0, 77), (0, 0, 0, 0), (0, 0, 0, 0), (3, 0, 0, 1), (12, 677, 7, 16), (0, 0, 0, 0), (0, 0, 0, 0), (1, 8, 2, 0), (0, 0, 0, 0), (2, 0, 1, 1), (7, 0, 2, 0), (2, 0, 2, 1), (7, 0, 0, 0), (3, 0, 0, 1), (12, 671, 7, 10), (0, 0, 0, 0), (0, 0, 0, 0), (15, 0, 0, 0), (6, 1, 2, 0), (0, 0, 0, 0), (0, 0, 0, 0), (11, 0, 0, 10), (0, 0, 0, 0), (0, 0, 0, 0), (6, 1, 1, 0), (0, 0, 0, 0), (0, 0, 0, 0), (11, 0, 0, 2), (0, 0, 0, 0), (0, 0, 0, 0), (1, 0, 1, 0), (4, 0, 1, 1), (2, 0, 1, 1), (1, 4, 1, 0), (10, 0, 3, 267), (0, 0, 0, 0), (0, 0, 0, 0), (1, 0, 1, 0), (4, 0, 2, 1), (2, 0, 2, 1), (1, 12, 2, 0), (0, 0, 0, 0), (10, 0, 3, 261), (0, 0, 0, 0), (0, 0, 0, 0), (1, 0, 1, 0), (4, 0, 3, 1), (2, 0, 3, 1), (1, 12, 2, 0), (0, 0, 0, 0), (10, 0, 3, 255), (0, 0, 0, 0), (0, 0, 0, 0), (1, 144, 3, 0), (0, 0, 0, 0), (0, 0, 0, 0), (2, 0, 1, 1), (7, 0, 2, 0), (1, 12, 2, 0), (0, 0, 0, 0), (2, 0, 2, 1), (7, 0, 2, 0), (7, 0, 0, 0), (2, 0, 3, 1), (7, 0, 0, 0), (4, 0, 4, 2), (0, 0, 0, 0), (3, 0, 0, 1), (12, 678, 7, 17), (0, 0, 0, 0), (0, 0, 0, 0), (2, 0, 4, 2), (0, 0, 0, 0), (1, 1000000, 2, 824), (0, 0, 0, 0), (15, 0, 0, 0), (2, 0, 2, 1), (2, 0, 3, 1), (10, 0, 0, 249), (0, 0, 0, 0), (0, 0, 0, 0), (3, 0, 0, 1), (12, 677, 7, 16), (0, 0, 0, 0), (0, 0, 0, 0), (1, 8, 2, 0), (0, 0, 0, 0), (2, 0, 2, 1), (7, 0, 2, 0), (1, 2, 1, 0), (2, 0, 1, 1), (7, 0, 2, 0), (7, 0, 0, 0), (14, 0, 0, 0), (1, 1000000, 2, 824), (0, 0, 0, 0), (10, 0, 0, 249), (0, 0, 0, 0), (0, 0, 0, 0), (3, 0, 0, 1), (12, 677, 7, 16), (0, 0, 0, 0), (0, 0, 0, 0), (1, 8, 2, 0), (0, 0, 0, 0), (2, 0, 3, 1), (7, 0, 2, 0), (1, 2, 1, 0), (2, 0, 1, 1), (7, 0, 2, 0), (7, 0, 0, 0), (1, 1, 1, 0), (7, 0, 0, 0), (14, 0, 0, 0), (1, 1000000, 2, 824), (0, 0, 0, 0), (10, 0, 1, 181), (0, 0, 0, 0), (0, 0, 0, 0), (11, 0, 0, 249), (0, 0, 0, 0), (0, 0, 0, 0), (3, 0, 0, 1), (2, 0, 1, 1), (28, 804, 110, 2), (0, 0, 0, 0), (0, 0, 0, 0), (9, 0, 1, 228), (0, 0, 0, 0), (0, 0, 0, 0), (3, 0, 0, 1), (12, 678, 7, 17), (0, 0, 0, 0), (0, 0, 0, 0), (2, 0, 4, 2), (0, 0, 0, 0), (3, 0, 0, 1), (12, 677, 7, 16), (0, 0, 0, 0), (0, 0, 0, 0), (1, 8, 2, 0), (0, 0, 0, 0), (2, 0, 2, 1), (7, 0, 2, 0), (1, 2, 1, 0), (2, 0, 1, 1), (7, 0, 2, 0), (7, 0, 0, 0), (14, 0, 0, 0), (3, 0, 0, 1), (12, 677, 7, 16), (0, 0, 0, 0), (0, 0, 0, 0), (1, 8, 2, 0), (0, 0, 0, 0), (2, 0, 3, 1), (7, 0, 2, 0), (1, 2, 1, 0), (2, 0, 1, 1), (7, 0, 2, 0), (7, 0, 0, 0), (1, 1, 1, 0), (7, 0, 0, 0), (14, 0, 0, 0), (7, 0, 0, 0), (15, 0, 0, 0), (11, 0, 0, 249), (0, 0, 0, 0), (0, 0, 0, 0), (3, 0, 0, 1), (2, 0, 2, 1), (2, 0, 3, 1), (2, 0, 1, 1), (28, 829, 116, 4), (0, 0, 0, 0), (0, 0, 0, 0), (9, 0, 0, 249), (0, 0, 0, 0), (0, 0, 0, 0), (3, 0, 0, 1), (12, 678, 7, 17), (0, 0, 0, 0), (0, 0, 0, 0), (2, 0, 4, 2), (0, 0, 0, 0), (3, 0, 0, 1), (12, 673, 7, 12), (0, 0, 0, 0), (0, 0, 0, 0), (15, 0, 0, 0), (6, 1, 3, 0), (0, 0, 0, 0), (0, 0, 0, 0), (11, 0, 0, 106), (0, 0, 0, 0), (0, 0, 0, 0), (6, 1, 2, 0), (0, 0, 0, 0), (0, 0, 0, 0), (11, 0, 0, 98), (0, 0, 0, 0), (0, 0, 0, 0), (6, 1, 1, 0), (0, 0, 0, 0), (0, 0, 0, 0), (11, 0, 0, 91), (0, 0, 0, 0), (0, 0, 0, 0), (30, 0, 0, 0)]
/-- ReedBenchModel.comes(II)V -/
def xk_121 : List xI := [(2, 0, 2, 1), (1, 1000000, 2, 824), (0, 0, 0, 0), (10, 0, 3, 17), (0, 0, 0, 0), (0, 0, 0, 0), (3, 0, 0, 1), (12, 679, 7, 18), (0, 0, 0, 0), (0, 0, 0, 0), (2, 0, 1, 1), (14, 0, 0, 0), (1, 1000000, 2, 824), (0, 0, 0, 0), (10, 0, 2, 18), (0, 0, 0, 0), (0, 0, 0, 0), (30, 0, 0, 0), (2, 0, 2, 1), (3, 0, 0, 1), (12, 679, 7, 18), (0, 0, 0, 0), (0, 0, 0, 0), (2, 0, 1, 1), (14, 0, 0, 0), (7, 0, 0, 0), (4, 0, 3, 1), (2, 0, 3, 1), (3, 0, 0, 1), (12, 681, 7, 20), (0, 0, 0, 0), (0, 0, 0, 0), (10, 0, 3, 45), (0, 0, 0, 0), (0, 0, 0, 0), (3, 0, 0, 1), (2, 0, 3, 1), (13, 681, 7, 20), (0, 0, 0, 0), (0, 0, 0, 0), (3, 0, 0, 1), (1, 0, 1, 0), (13, 682, 7, 21), (0, 0, 0, 0), (0, 0, 0, 0), (2, 0, 3, 1), (3, 0, 0, 1), (12, 681, 7, 20), (0, 0, 0, 0), (0, 0, 0, 0), (10, 0, 1, 68), (0, 0, 0, 0), (0, 0, 0, 0), (3, 0, 0, 1), (3, 0, 0, 1), (12, 682, 7, 21), (0, 0, 0, 0), (0, 0, 0, 0), (3, 0, 0, 1), (12, 680, 7, 19), (0, 0, 0, 0), (0, 0, 0, 0), (2, 0, 1, 1), (14, 0, 0, 0), (7, 0, 0, 0), (13, 682, 7, 21), (0, 0, 0, 0), (0, 0, 0, 0), (30, 0, 0, 0)]
/-- ReedBenchModel.has(II)Z -/
def xk_122 : List xI := [(2, 0, 1, 1), (2, 0, 2, 1), (7, 0, 9, 0), (1, 1, 1, 0), (7, 0, 5, 0), (1, 1, 1, 0), (10, 0, 1, 13), (0, 0, 0, 0), (0, 0, 0, 0), (1, 1, 1, 0), (11, 0, 0, 14), (0, 0, 0, 0), (0, 0, 0, 0), (1, 0, 1, 0), (29, 0, 0, 0)]
/-- ReedBenchModel.fits(III)Z -/
def xk_123 : List xI := [(2, 0, 3, 1), (1, 1000000, 2, 824), (0, 0, 0, 0), (10, 0, 3, 38), (0, 0, 0, 0), (0, 0, 0, 0), (3, 0, 0, 1), (12, 679, 7, 18), (0, 0, 0, 0), (0, 0, 0, 0), (2, 0, 2, 1), (14, 0, 0, 0), (1, 1000000, 2, 824), (0, 0, 0, 0), (10, 0, 3, 38), (0, 0, 0, 0), (0, 0, 0, 0), (2, 0, 3, 1), (3, 0, 0, 1), (12, 679, 7, 18), (0, 0, 0, 0), (0, 0, 0, 0), (2, 0, 2, 1), (14, 0, 0, 0), (7, 0, 0, 0), (3, 0, 0, 1), (12, 679, 7, 18), (0, 0, 0, 0), (0, 0, 0, 0), (2, 0, 1, 1), (14, 0, 0, 0), (10, 0, 1, 38), (0, 0, 0, 0), (0, 0, 0, 0), (1, 1, 1, 0), (11, 0, 0, 39), (0, 0, 0, 0), (0, 0, 0, 0), (1, 0, 1, 0), (29, 0, 0, 0)]
/-- ReedBenchModel.lays()I -/
def xk_124 : List xI := [(3, 0, 0, 1), (1, 0, 1, 0), (13, 661, 7, 0), (0, 0, 0, 0), (0, 0, 0, 0), (3, 0, 0, 1), (28, 735, 93, 1), (0, 0, 0, 0), (0, 0, 0, 0), (3, 0, 0, 1), (28, 841, 119, 1), (0, 0, 0, 0), (0, 0, 0, 0), (3, 0, 0, 1), (12, 679, 7, 18), (0, 0, 0, 0), (0, 0, 0, 0), (1, 0, 1, 0), (14, 0, 0, 0), (1, 1000000, 2, 824), (0, 0, 0, 0), (10, 0, 2, 28), (0, 0, 0, 0), (0, 0, 0, 0), (1, 0, 1, 0), (11, 0, 0, 34), (0, 0, 0, 0), (0, 0, 0, 0), (3, 0, 0, 1), (12, 680, 7, 19), (0, 0, 0, 0), (0, 0, 0, 0), (1, 0, 1, 0), (14, 0, 0, 0), (29, 0, 0, 0)]
/-- ReedBenchModel.make()I -/
def xk_125 : List xI := [(3, 0, 0, 1), (1, 0, 1, 0), (13, 661, 7, 0), (0, 0, 0, 0), (0, 0, 0, 0), (3, 0, 0, 1), (28, 735, 93, 1), (0, 0, 0, 0), (0, 0, 0, 0), (1, 0, 1, 0), (4, 0, 1, 1), (1, 0, 1, 0), (4, 0, 2, 1), (2, 0, 2, 1), (1, 8, 2, 0), (0, 0, 0, 0), (10, 0, 3, 43), (0, 0, 0, 0), (0, 0, 0, 0), (2, 0, 1, 1), (9, 0, 1, 31), (0, 0, 0, 0), (0, 0, 0, 0), (3, 0, 0, 1), (2, 0, 2, 1), (28, 800, 109, 2), (0, 0, 0, 0), (0, 0, 0, 0), (9, 0, 0, 35), (0, 0, 0, 0), (0, 0, 0, 0), (1, 1, 1, 0), (11, 0, 0, 36), (0, 0, 0, 0), (0, 0, 0, 0), (1, 0, 1, 0), (4, 0, 1, 1), (6, 1, 2, 0), (0, 0, 0, 0), (0, 0, 0, 0), (11, 0, 0, 13), (0, 0, 0, 0), (0, 0, 0, 0), (2, 0, 1, 1), (9, 0, 0, 54), (0, 0, 0, 0), (0, 0, 0, 0), (3, 0, 0, 1), (28, 837, 118, 1), (0, 0, 0, 0), (0, 0, 0, 0), (9, 0, 1, 56), (0, 0, 0, 0), (0, 0, 0, 0), (1, (-1), 1, 0), (29, 0, 0, 0), (3, 0, 0, 1), (28, 743, 95, 1), (0, 0, 0, 0), (0, 0, 0, 0), (3, 0, 0, 1), (12, 662, 7, 1), (0, 0, 0, 0), (0, 0, 0, 0), (1, 3, 1, 0), (14, 0, 0, 0), (4, 0, 2, 1), (3, 0, 0, 1), (12, 662, 7, 1), (0, 0, 0, 0), (0, 0, 0, 0), (1, 3, 1, 0), (2, 0, 2, 1), (1, 1, 1, 0), (7, 0, 0, 0), (15, 0, 0, 0), (1, 0, 1, 0), (4, 0, 3, 1), (2, 0, 3, 1), (1, 4, 1, 0), (10, 0, 3, 301), (0, 0, 0, 0), (0, 0, 0, 0), (3, 0, 0, 1), (12, 683, 7, 22), (0, 0, 0, 0), (0, 0, 0, 0), (1, 2, 1, 0), (2, 0, 3, 1), (7, 0, 2, 0), (14, 0, 0, 0), (4, 0, 4, 2), (0, 0, 0, 0), (3, 0, 0, 1), (12, 683, 7, 22), (0, 0, 0, 0), (0, 0, 0, 0), (1, 2, 1, 0), (2, 0, 3, 1), (7, 0, 2, 0), (1, 1, 1, 0), (7, 0, 0, 0), (14, 0, 0, 0), (4, 0, 5, 2), (0, 0, 0, 0), (2, 0, 4, 2), (0, 0, 0, 0), (1, (-1), 1, 0), (10, 0, 0, 185), (0, 0, 0, 0), (0, 0, 0, 0), (2, 0, 5, 2), (0, 0, 0, 0), (1, (-1), 1, 0), (10, 0, 0, 185), (0, 0, 0, 0), (0, 0, 0, 0), (3, 0, 0, 1), (2, 0, 3, 1), (28, 804, 110, 2), (0, 0, 0, 0), (0, 0, 0, 0), (9, 0, 0, 185), (0, 0, 0, 0), (0, 0, 0, 0), (3, 0, 0, 1), (2, 0, 4, 2), (0, 0, 0, 0), (2, 0, 5, 2), (0, 0, 0, 0), (2, 0, 3, 1), (28, 829, 116, 4), (0, 0, 0, 0), (0, 0, 0, 0), (24, 0, 0, 0), (3, 0, 0, 1), (12, 673, 7, 12), (0, 0, 0, 0), (0, 0, 0, 0), (3, 0, 0, 1), (12, 674, 7, 13), (0, 0, 0, 0), (0, 0, 0, 0), (7, 0, 1, 0), (3, 0, 0, 1), (12, 675, 7, 14), (0, 0, 0, 0), (0, 0, 0, 0), (7, 0, 1, 0), (3, 0, 0, 1), (12, 676, 7, 15), (0, 0, 0, 0), (0, 0, 0, 0), (7, 0, 1, 0), (4, 0, 6, 2), (0, 0, 0, 0), (3, 0, 0, 1), (2, 0, 4, 2), (0, 0, 0, 0), (3, 0, 0, 1), (12, 674, 7, 13), (0, 0, 0, 0), (0, 0, 0, 0), (3, 0, 0, 1), (12, 675, 7, 14), (0, 0, 0, 0), (0, 0, 0, 0), (28, 788, 106, 4), (0, 0, 0, 0), (0, 0, 0, 0), (3, 0, 0, 1), (2, 0, 5, 2), (0, 0, 0, 0), (3, 0, 0, 1), (12, 676, 7, 15), (0, 0, 0, 0), (0, 0, 0, 0), (2, 0, 6, 2), (0, 0, 0, 0), (28, 788, 106, 4), (0, 0, 0, 0), (0, 0, 0, 0), (11, 0, 0, 261), (0, 0, 0, 0), (0, 0, 0, 0), (2, 0, 4, 2), (0, 0, 0, 0), (1, (-1), 1, 0), (10, 0, 0, 222), (0, 0, 0, 0), (0, 0, 0, 0), (3, 0, 0, 1), (2, 0, 4, 2), (0, 0, 0, 0), (1, 2, 1, 0), (2, 0, 3, 1), (7, 0, 2, 0), (28, 816, 113, 3), (0, 0, 0, 0), (0, 0, 0, 0), (9, 0, 0, 222), (0, 0, 0, 0), (0, 0, 0, 0), (3, 0, 0, 1), (2, 0, 4, 2), (0, 0, 0, 0), (3, 0, 0, 1), (12, 672, 7, 11), (0, 0, 0, 0), (0, 0, 0, 0), (3, 0, 0, 1), (12, 671, 7, 10), (0, 0, 0, 0), (0, 0, 0, 0), (3, 0, 0, 1), (12, 672, 7, 11), (0, 0, 0, 0), (0, 0, 0, 0), (7, 0, 1, 0), (28, 788, 106, 4), (0, 0, 0, 0), (0, 0, 0, 0), (2, 0, 5, 2), (0, 0, 0, 0), (1, (-1), 1, 0), (10, 0, 0, 261), (0, 0, 0, 0), (0, 0, 0, 0), (3, 0, 0, 1), (2, 0, 5, 2), (0, 0, 0, 0), (1, 2, 1, 0), (2, 0, 3, 1), (7, 0, 2, 0), (1, 1, 1, 0), (7, 0, 0, 0), (28, 816, 113, 3), (0, 0, 0, 0), (0, 0, 0, 0), (9, 0, 0, 261), (0, 0, 0, 0), (0, 0, 0, 0), (3, 0, 0, 1), (2, 0, 5, 2), (0, 0, 0, 0), (3, 0, 0, 1), (12, 672, 7, 11), (0, 0, 0, 0), (0, 0, 0, 0), (3, 0, 0, 1), (12, 671, 7, 10), (0, 0, 0, 0), (0, 0, 0, 0), (3, 0, 0, 1), (12, 672, 7, 11), (0, 0, 0, 0), (0, 0, 0, 0), (7, 0, 1, 0), (28, 788, 106, 4), (0, 0, 0, 0), (0, 0, 0, 0), (2, 0, 4, 2), (0, 0, 0, 0), (1, (-1), 1, 0), (10, 0, 0, 277), (0, 0, 0, 0), (0, 0, 0, 0), (3, 0, 0, 1), (1, 2, 1, 0), (2, 0, 3, 1), (7, 0, 2, 0), (2, 0, 4, 2), (0, 0, 0, 0), (2, 0, 2, 1), (28, 869, 126, 4), (0, 0, 0, 0), (0, 0, 0, 0), (2, 0, 5, 2), (0, 0, 0, 0), (1, (-1), 1, 0), (10, 0, 0, 295), (0, 0, 0, 0), (0, 0, 0, 0), (3, 0, 0, 1), (1, 2, 1, 0), (2, 0, 3, 1), (7, 0, 2, 0), (1, 1, 1, 0), (7, 0, 0, 0), (2, 0, 5, 2), (0, 0, 0, 0), (2, 0, 2, 1), (28, 869, 126, 4), (0, 0, 0, 0), (0, 0, 0, 0), (6, 1, 3, 0), (0, 0, 0, 0), (0, 0, 0, 0), (11, 0, 0, 78), (0, 0, 0, 0), (0, 0, 0, 0), (1, 0, 1, 0), (4, 0, 3, 1), (2, 0, 3, 1), (1, 8, 2, 0), (0, 0, 0, 0), (10, 0, 3, 324), (0, 0, 0, 0), (0, 0, 0, 0), (3, 0, 0, 1), (12, 662, 7, 1), (0, 0, 0, 0), (0, 0, 0, 0), (1, 4, 1, 0), (2, 0, 3, 1), (7, 0, 0, 0), (1, (-1), 1, 0), (15, 0, 0, 0), (6, 1, 3, 0), (0, 0, 0, 0), (0, 0, 0, 0), (11, 0, 0, 303), (0, 0, 0, 0), (0, 0, 0, 0), (2, 0, 2, 1), (29, 0, 0, 0)]
/-- ReedBenchModel.sets(III)V -/
def xk_126 : List xI := [(1, 20, 2, 0), (0, 0, 0, 0), (1, 7, 2, 0), (0, 0, 0, 0), (2, 0, 2, 1), (7, 0, 2, 0), (7, 0, 0, 0), (4, 0, 4, 2), (0, 0, 0, 0), (3, 0, 0, 1), (12, 662, 7, 1), (0, 0, 0, 0), (0, 0, 0, 0), (2, 0, 4, 2), (0, 0, 0, 0), (1, 3, 1, 0), (7, 0, 0, 0), (1, 1, 1, 0), (15, 0, 0, 0), (3, 0, 0, 1), (12, 662, 7, 1), (0, 0, 0, 0), (0, 0, 0, 0), (2, 0, 4, 2), (0, 0, 0, 0), (1, 4, 1, 0), (7, 0, 0, 0), (2, 0, 3, 1), (15, 0, 0, 0), (3, 0, 0, 1), (12, 662, 7, 1), (0, 0, 0, 0), (0, 0, 0, 0), (2, 0, 4, 2), (0, 0, 0, 0), (1, 5, 1, 0), (7, 0, 0, 0), (2, 0, 1, 1), (15, 0, 0, 0), (30, 0, 0, 0)]
/-- ReedBenchModel.lacks()I -/
def xk_127 : List xI := [(3, 0, 0, 1), (1, 0, 1, 0), (13, 661, 7, 0), (0, 0, 0, 0), (0, 0, 0, 0), (3, 0, 0, 1), (28, 735, 93, 1), (0, 0, 0, 0), (0, 0, 0, 0), (3, 0, 0, 1), (28, 845, 120, 1), (0, 0, 0, 0), (0, 0, 0, 0), (1, 4, 1, 0), (4, 0, 1, 1), (2, 0, 1, 1), (9, 0, 2, 427), (0, 0, 0, 0), (0, 0, 0, 0), (2, 0, 1, 1), (1, 4, 1, 0), (10, 0, 3, 38), (0, 0, 0, 0), (0, 0, 0, 0), (3, 0, 0, 1), (1, 2, 1, 0), (2, 0, 1, 1), (7, 0, 2, 0), (28, 800, 109, 2), (0, 0, 0, 0), (0, 0, 0, 0), (9, 0, 0, 38), (0, 0, 0, 0), (0, 0, 0, 0), (1, 1, 1, 0), (11, 0, 0, 39), (0, 0, 0, 0), (0, 0, 0, 0), (1, 0, 1, 0), (4, 0, 2, 1), (2, 0, 1, 1), (1, 4, 1, 0), (10, 0, 3, 61), (0, 0, 0, 0), (0, 0, 0, 0), (3, 0, 0, 1), (1, 2, 1, 0), (2, 0, 1, 1), (7, 0, 2, 0), (1, 1, 1, 0), (7, 0, 0, 0), (28, 800, 109, 2), (0, 0, 0, 0), (0, 0, 0, 0), (9, 0, 0, 61), (0, 0, 0, 0), (0, 0, 0, 0), (1, 1, 1, 0), (11, 0, 0, 62), (0, 0, 0, 0), (0, 0, 0, 0), (1, 0, 1, 0), (4, 0, 3, 1), (2, 0, 1, 1), (1, 4, 1, 0), (10, 0, 0, 72), (0, 0, 0, 0), (0, 0, 0, 0), (2, 0, 2, 1), (9, 0, 1, 76), (0, 0, 0, 0), (0, 0, 0, 0), (1, 0, 1, 0), (11, 0, 0, 85), (0, 0, 0, 0), (0, 0, 0, 0), (1, 1000, 3, 0), (0, 0, 0, 0), (0, 0, 0, 0), (1, 1, 1, 0), (1, 2, 1, 0), (2, 0, 1, 1), (7, 0, 2, 0), (7, 0, 8, 0), (7, 0, 0, 0), (4, 0, 4, 2), (0, 0, 0, 0), (2, 0, 1, 1), (1, 4, 1, 0), (10, 0, 0, 96), (0, 0, 0, 0), (0, 0, 0, 0), (2, 0, 3, 1), (9, 0, 1, 100), (0, 0, 0, 0), (0, 0, 0, 0), (1, 0, 1, 0), (11, 0, 0, 109), (0, 0, 0, 0), (0, 0, 0, 0), (1, 1000, 3, 0), (0, 0, 0, 0), (0, 0, 0, 0), (1, 2, 1, 0), (1, 2, 1, 0), (2, 0, 1, 1), (7, 0, 2, 0), (7, 0, 8, 0), (7, 0, 0, 0), (4, 0, 5, 2), (0, 0, 0, 0), (1, 0, 1, 0), (4, 0, 6, 2), (0, 0, 0, 0), (2, 0, 6, 2), (0, 0, 0, 0), (1, 4096, 3, 0), (0, 0, 0, 0), (0, 0, 0, 0), (10, 0, 3, 421), (0, 0, 0, 0), (0, 0, 0, 0), (1, 4096, 3, 0), (0, 0, 0, 0), (0, 0, 0, 0), (2, 0, 1, 1), (1, 1, 1, 0), (7, 0, 0, 0), (7, 0, 2, 0), (4, 0, 7, 2), (0, 0, 0, 0), (2, 0, 1, 1), (1, 4, 1, 0), (10, 0, 1, 140), (0, 0, 0, 0), (0, 0, 0, 0), (1, 0, 1, 0), (11, 0, 0, 156), (0, 0, 0, 0), (0, 0, 0, 0), (2, 0, 4, 2), (0, 0, 0, 0), (2, 0, 5, 2), (0, 0, 0, 0), (7, 0, 0, 0), (3, 0, 0, 1), (12, 679, 7, 18), (0, 0, 0, 0), (0, 0, 0, 0), (2, 0, 7, 2), (0, 0, 0, 0), (2, 0, 6, 2), (0, 0, 0, 0), (7, 0, 0, 0), (14, 0, 0, 0), (7, 0, 0, 0), (4, 0, 8, 2), (0, 0, 0, 0), (1, 0, 1, 0), (4, 0, 9, 2), (0, 0, 0, 0), (2, 0, 9, 2), (0, 0, 0, 0), (1, 12, 2, 0), (0, 0, 0, 0), (10, 0, 3, 400), (0, 0, 0, 0), (0, 0, 0, 0), (2, 0, 1, 1), (1, 4, 1, 0), (10, 0, 3, 400), (0, 0, 0, 0), (0, 0, 0, 0), (3, 0, 0, 1), (2, 0, 6, 2), (0, 0, 0, 0), (2, 0, 9, 2), (0, 0, 0, 0), (28, 853, 122, 3), (0, 0, 0, 0), (0, 0, 0, 0), (9, 0, 0, 187), (0, 0, 0, 0), (0, 0, 0, 0), (11, 0, 0, 394), (0, 0, 0, 0), (0, 0, 0, 0), (2, 0, 7, 2), (0, 0, 0, 0), (2, 0, 6, 2), (0, 0, 0, 0), (1, 1, 1, 0), (2, 0, 9, 2), (0, 0, 0, 0), (7, 0, 8, 0), (7, 0, 6, 0), (7, 0, 0, 0), (4, 0, 10, 2), (0, 0, 0, 0), (2, 0, 2, 1), (9, 0, 0, 249), (0, 0, 0, 0), (0, 0, 0, 0), (3, 0, 0, 1), (12, 677, 7, 16), (0, 0, 0, 0), (0, 0, 0, 0), (1, 8, 2, 0), (0, 0, 0, 0), (2, 0, 9, 2), (0, 0, 0, 0), (7, 0, 2, 0), (1, 2, 1, 0), (2, 0, 1, 1), (7, 0, 2, 0), (7, 0, 0, 0), (14, 0, 0, 0), (1, 1000000, 2, 824), (0, 0, 0, 0), (10, 0, 3, 249), (0, 0, 0, 0), (0, 0, 0, 0), (2, 0, 5, 2), (0, 0, 0, 0), (3, 0, 0, 1), (12, 679, 7, 18), (0, 0, 0, 0), (0, 0, 0, 0), (2, 0, 10, 2), (0, 0, 0, 0), (14, 0, 0, 0), (7, 0, 0, 0), (2, 0, 8, 2), (0, 0, 0, 0), (10, 0, 3, 249), (0, 0, 0, 0), (0, 0, 0, 0), (2, 0, 5, 2), (0, 0, 0, 0), (3, 0, 0, 1), (12, 679, 7, 18), (0, 0, 0, 0), (0, 0, 0, 0), (2, 0, 10, 2), (0, 0, 0, 0), (14, 0, 0, 0), (7, 0, 0, 0), (4, 0, 8, 2), (0, 0, 0, 0), (2, 0, 3, 1), (9, 0, 0, 301), (0, 0, 0, 0), (0, 0, 0, 0), (3, 0, 0, 1), (12, 677, 7, 16), (0, 0, 0, 0), (0, 0, 0, 0), (1, 8, 2, 0), (0, 0, 0, 0), (2, 0, 9, 2), (0, 0, 0, 0), (7, 0, 2, 0), (1, 2, 1, 0), (2, 0, 1, 1), (7, 0, 2, 0), (7, 0, 0, 0), (1, 1, 1, 0), (7, 0, 0, 0), (14, 0, 0, 0), (1, 1000000, 2, 824), (0, 0, 0, 0), (10, 0, 3, 301), (0, 0, 0, 0), (0, 0, 0, 0), (2, 0, 4, 2), (0, 0, 0, 0), (3, 0, 0, 1), (12, 679, 7, 18), (0, 0, 0, 0), (0, 0, 0, 0), (2, 0, 10, 2), (0, 0, 0, 0), (14, 0, 0, 0), (7, 0, 0, 0), (2, 0, 8, 2), (0, 0, 0, 0), (10, 0, 3, 301), (0, 0, 0, 0), (0, 0, 0, 0), (2, 0, 4, 2), (0, 0, 0, 0), (3, 0, 0, 1), (12, 679, 7, 18), (0, 0, 0, 0), (0, 0, 0, 0), (2, 0, 10, 2), (0, 0, 0, 0), (14, 0, 0, 0), (7, 0, 0, 0), (4, 0, 8, 2), (0, 0, 0, 0), (1, 0, 1, 0), (4, 0, 11, 2), (0, 0, 0, 0), (2, 0, 11, 2), (0, 0, 0, 0), (1, 12, 2, 0), (0, 0, 0, 0), (10, 0, 3, 394), (0, 0, 0, 0), (0, 0, 0, 0), (2, 0, 2, 1), (9, 0, 0, 394), (0, 0, 0, 0), (0, 0, 0, 0), (2, 0, 3, 1), (9, 0, 0, 394), (0, 0, 0, 0), (0, 0, 0, 0), (3, 0, 0, 1), (2, 0, 6, 2), (0, 0, 0, 0), (2, 0, 11, 2), (0, 0, 0, 0), (28, 853, 122, 3), (0, 0, 0, 0), (0, 0, 0, 0), (9, 0, 1, 388), (0, 0, 0, 0), (0, 0, 0, 0), (3, 0, 0, 1), (12, 678, 7, 17), (0, 0, 0, 0), (0, 0, 0, 0), (1, 144, 3, 0), (0, 0, 0, 0), (0, 0, 0, 0), (2, 0, 1, 1), (7, 0, 2, 0), (1, 12, 2, 0), (0, 0, 0, 0), (2, 0, 9, 2), (0, 0, 0, 0), (7, 0, 2, 0), (7, 0, 0, 0), (2, 0, 11, 2), (0, 0, 0, 0), (7, 0, 0, 0), (14, 0, 0, 0), (1, 1000000, 2, 824), (0, 0, 0, 0), (10, 0, 2, 357), (0, 0, 0, 0), (0, 0, 0, 0), (11, 0, 0, 388), (0, 0, 0, 0), (0, 0, 0, 0), (3, 0, 0, 1), (12, 679, 7, 18), (0, 0, 0, 0), (0, 0, 0, 0), (2, 0, 10, 2), (0, 0, 0, 0), (1, 1, 1, 0), (2, 0, 11, 2), (0, 0, 0, 0), (7, 0, 8, 0), (7, 0, 6, 0), (14, 0, 0, 0), (2, 0, 8, 2), (0, 0, 0, 0), (10, 0, 3, 388), (0, 0, 0, 0), (0, 0, 0, 0), (3, 0, 0, 1), (12, 679, 7, 18), (0, 0, 0, 0), (0, 0, 0, 0), (2, 0, 10, 2), (0, 0, 0, 0), (1, 1, 1, 0), (2, 0, 11, 2), (0, 0, 0, 0), (7, 0, 8, 0), (7, 0, 6, 0), (14, 0, 0, 0), (4, 0, 8, 2), (0, 0, 0, 0), (6, 1, 11, 0), (0, 0, 0, 0), (0, 0, 0, 0), (11, 0, 0, 304), (0, 0, 0, 0), (0, 0, 0, 0), (6, 1, 9, 0), (0, 0, 0, 0), (0, 0, 0, 0), (11, 0, 0, 161), (0, 0, 0, 0), (0, 0, 0, 0), (3, 0, 0, 1), (12, 679, 7, 18), (0, 0, 0, 0), (0, 0, 0, 0), (1, 4096, 3, 0), (0, 0, 0, 0), (0, 0, 0, 0), (2, 0, 1, 1), (7, 0, 2, 0), (2, 0, 6, 2), (0, 0, 0, 0), (7, 0, 0, 0), (2, 0, 8, 2), (0, 0, 0, 0), (15, 0, 0, 0), (6, 1, 6, 0), (0, 0, 0, 0), (0, 0, 0, 0), (11, 0, 0, 114), (0, 0, 0, 0), (0, 0, 0, 0), (6, (-1), 1, 0), (0, 0, 0, 0), (0, 0, 0, 0), (11, 0, 0, 15), (0, 0, 0, 0), (0, 0, 0, 0), (3, 0, 0, 1), (12, 679, 7, 18), (0, 0, 0, 0), (0, 0, 0, 0), (1, 0, 1, 0), (14, 0, 0, 0), (1, 1000, 3, 0), (0, 0, 0, 0), (0, 0, 0, 0), (7, 0, 4, 0), (29, 0, 0, 0)]
/-- ReedBenchLaw.law([I)Z -/
def xk_128 : List xI := [(19, 80, 6, 0), (0, 0, 0, 0), (0, 0, 0, 0), (23, 0, 0, 0), (28, 82, 0, 1), (0, 0, 0, 0), (0, 0, 0, 0), (5, 0, 1, 1), (19, 655, 7, 0), (0, 0, 0, 0), (0, 0, 0, 0), (23, 0, 0, 0), (28, 657, 91, 1), (0, 0, 0, 0), (0, 0, 0, 0), (5, 0, 2, 1), (1, 0, 1, 0), (4, 0, 3, 1), (2, 0, 3, 1), (3, 0, 0, 1), (18, 0, 0, 0), (1, 5, 1, 0), (7, 0, 1, 0), (10, 0, 4, 596), (0, 0, 0, 0), (0, 0, 0, 0), (3, 0, 0, 1), (2, 0, 3, 1), (14, 0, 0, 0), (1, 15, 2, 0), (0, 0, 0, 0), (7, 0, 5, 0), (32, 0, 590, 80), (0, 0, 0, 0), (0, 0, 0, 0), (0, 0, 0, 0), (0, 0, 0, 0), (0, 0, 0, 0), (0, 0, 0, 0), (0, 0, 0, 0), (0, 0, 0, 0), (0, 0, 0, 0), (0, 0, 0, 0), (0, 0, 0, 0), (0, 0, 0, 0), (0, 0, 0, 0), (0, 0, 0, 0), (0, 0, 0, 0), (0, 0, 0, 0), (0, 0, 0, 0), (0, 0, 0, 0), (0, 0, 0, 0), (0, 0, 0, 0), (0, 0, 0, 0), (0, 0, 0, 0), (0, 0, 0, 0), (0, 0, 0, 0), (0, 0, 0, 0), (0, 0, 0, 0), (0, 0, 0, 0), (0, 0, 0, 0), (0, 0, 0, 0), (0, 0, 0, 0), (0, 0, 0, 0), (0, 0, 0, 0), (0, 0, 0, 0), (0, 0, 0, 0), (0, 0, 0, 0), (0, 0, 0, 0), (0, 0, 0, 0), (0, 0, 0, 0), (0, 0, 0, 0), (0, 0, 0, 0), (0, 0, 0, 0), (0, 0, 0, 0), (0, 0, 0, 0), (0, 0, 0, 0), (0, 0, 0, 0), (0, 0, 0, 0), (0, 0, 0, 0), (0, 0, 0, 0), (0, 0, 0, 0), (0, 0, 0, 0), (0, 0, 0, 0), (0, 0, 0, 0), (0, 0, 0, 0), (0, 0, 0, 0), (0, 0, 0, 0), (0, 0, 0, 0), (0, 0, 0, 0), (0, 0, 0, 0), (0, 0, 0, 0), (0, 0, 0, 0), (0, 0, 0, 0), (0, 0, 0, 0), (0, 0, 0, 0), (0, 0, 0, 0), (0, 0, 0, 0), (0, 0, 0, 0), (0, 0, 0, 0), (0, 0, 0, 0), (0, 0, 0, 0), (0, 0, 0, 0), (0, 0, 0, 0), (0, 0, 0, 0), (0, 0, 0, 0), (0, 0, 0, 0), (0, 0, 0, 0), (0, 0, 0, 0), (0, 0, 0, 0), (0, 0, 0, 0), (0, 0, 0, 0), (3, 0, 1, 1), (3, 0, 0, 1), (2, 0, 3, 1), (1, 1, 1, 0), (7, 0, 0, 0), (14, 0, 0, 0), (3, 0, 0, 1), (2, 0, 3, 1), (1, 2, 1, 0), (7, 0, 0, 0), (14, 0, 0, 0), (3, 0, 0, 1), (2, 0, 3, 1), (1, 3, 1, 0), (7, 0, 0, 0), (14, 0, 0, 0), (28, 281, 8, 4), (0, 0, 0, 0), (0, 0, 0, 0), (3, 0, 2, 1), (3, 0, 0, 1), (2, 0, 3, 1), (1, 1, 1, 0), (7, 0, 0, 0), (14, 0, 0, 0), (3, 0, 0, 1), (2, 0, 3, 1), (1, 2, 1, 0), (7, 0, 0, 0), (14, 0, 0, 0), (3, 0, 0, 1), (2, 0, 3, 1), (1, 3, 1, 0), (7, 0, 0, 0), (14, 0, 0, 0), (28, 739, 94, 4), (0, 0, 0, 0), (0, 0, 0, 0), (10, 0, 0, 590), (0, 0, 0, 0), (0, 0, 0, 0), (1, 0, 1, 0), (29, 0, 0, 0), (3, 0, 1, 1), (3, 0, 0, 1), (2, 0, 3, 1), (1, 1, 1, 0), (7, 0, 0, 0), (14, 0, 0, 0), (28, 318, 17, 2), (0, 0, 0, 0), (0, 0, 0, 0), (3, 0, 2, 1), (3, 0, 0, 1), (2, 0, 3, 1), (1, 1, 1, 0), (7, 0, 0, 0), (14, 0, 0, 0), (28, 747, 96, 2), (0, 0, 0, 0), (0, 0, 0, 0), (10, 0, 0, 590), (0, 0, 0, 0), (0, 0, 0, 0), (1, 0, 1, 0), (29, 0, 0, 0), (3, 0, 1, 1), (3, 0, 0, 1), (2, 0, 3, 1), (1, 1, 1, 0), (7, 0, 0, 0), (14, 0, 0, 0), (3, 0, 0, 1), (2, 0, 3, 1), (1, 2, 1, 0), (7, 0, 0, 0), (14, 0, 0, 0), (28, 330, 20, 3), (0, 0, 0, 0), (0, 0, 0, 0), (3, 0, 2, 1), (3, 0, 0, 1), (2, 0, 3, 1), (1, 1, 1, 0), (7, 0, 0, 0), (14, 0, 0, 0), (3, 0, 0, 1), (2, 0, 3, 1), (1, 2, 1, 0), (7, 0, 0, 0), (14, 0, 0, 0), (28, 763, 100, 3), (0, 0, 0, 0), (0, 0, 0, 0), (10, 0, 0, 590), (0, 0, 0, 0), (0, 0, 0, 0), (1, 0, 1, 0), (29, 0, 0, 0), (3, 0, 1, 1), (3, 0, 0, 1), (2, 0, 3, 1), (1, 1, 1, 0), (7, 0, 0, 0), (14, 0, 0, 0), (3, 0, 0, 1), (2, 0, 3, 1), (1, 2, 1, 0), (7, 0, 0, 0), (14, 0, 0, 0), (28, 334, 21, 3), (0, 0, 0, 0), (0, 0, 0, 0), (3, 0, 2, 1), (3, 0, 0, 1), (2, 0, 3, 1), (1, 1, 1, 0), (7, 0, 0, 0), (14, 0, 0, 0), (3, 0, 0, 1), (2, 0, 3, 1), (1, 2, 1, 0), (7, 0, 0, 0), (14, 0, 0, 0), (28, 767, 101, 3), (0, 0, 0, 0), (0, 0, 0, 0), (10, 0, 0, 590), (0, 0, 0, 0), (0, 0, 0, 0), (1, 0, 1, 0), (29, 0, 0, 0), (3, 0, 1, 1), (3, 0, 0, 1), (2, 0, 3, 1), (1, 1, 1, 0), (7, 0, 0, 0), (14, 0, 0, 0), (3, 0, 0, 1), (2, 0, 3, 1), (1, 2, 1, 0), (7, 0, 0, 0), (14, 0, 0, 0), (28, 338, 22, 3), (0, 0, 0, 0), (0, 0, 0, 0), (3, 0, 2, 1), (3, 0, 0, 1), (2, 0, 3, 1), (1, 1, 1, 0), (7, 0, 0, 0), (14, 0, 0, 0), (3, 0, 0, 1), (2, 0, 3, 1), (1, 2, 1, 0), (7, 0, 0, 0), (14, 0, 0, 0), (28, 771, 102, 3), (0, 0, 0, 0), (0, 0, 0, 0), (10, 0, 0, 590), (0, 0, 0, 0), (0, 0, 0, 0), (1, 0, 1, 0), (29, 0, 0, 0), (3, 0, 1, 1), (3, 0, 0, 1), (2, 0, 3, 1), (1, 1, 1, 0), (7, 0, 0, 0), (14, 0, 0, 0), (3, 0, 0, 1), (2, 0, 3, 1), (1, 2, 1, 0), (7, 0, 0, 0), (14, 0, 0, 0), (3, 0, 0, 1), (2, 0, 3, 1), (1, 3, 1, 0), (7, 0, 0, 0), (14, 0, 0, 0), (28, 344, 23, 4), (0, 0, 0, 0), (0, 0, 0, 0), (3, 0, 2, 1), (3, 0, 0, 1), (2, 0, 3, 1), (1, 1, 1, 0), (7, 0, 0, 0), (14, 0, 0, 0), (3, 0, 0, 1), (2, 0, 3, 1), (1, 2, 1, 0), (7, 0, 0, 0), (14, 0, 0, 0), (3, 0, 0, 1), (2, 0, 3, 1), (1, 3, 1, 0), (7, 0, 0, 0), (14, 0, 0, 0), (28, 775, 103, 4), (0, 0, 0, 0), (0, 0, 0, 0), (10, 0, 0, 590), (0, 0, 0, 0), (0, 0, 0, 0), (1, 0, 1, 0), (29, 0, 0, 0), (3, 0, 1, 1), (3, 0, 0, 1), (2, 0, 3, 1), (1, 1, 1, 0), (7, 0, 0, 0), (14, 0, 0, 0), (3, 0, 0, 1), (2, 0, 3, 1), (1, 2, 1, 0), (7, 0, 0, 0), (14, 0, 0, 0), (3, 0, 0, 1), (2, 0, 3, 1), (1, 3, 1, 0), (7, 0, 0, 0), (14, 0, 0, 0), (28, 348, 24, 4), (0, 0, 0, 0), (0, 0, 0, 0), (3, 0, 2, 1), (3, 0, 0, 1), (2, 0, 3, 1), (1, 1, 1, 0), (7, 0, 0, 0), (14, 0, 0, 0), (3, 0, 0, 1), (2, 0, 3, 1), (1, 2, 1, 0), (7, 0, 0, 0), (14, 0, 0, 0), (3, 0, 0, 1), (2, 0, 3, 1), (1, 3, 1, 0), (7, 0, 0, 0), (14, 0, 0, 0), (28, 779, 104, 4), (0, 0, 0, 0), (0, 0, 0, 0), (10, 0, 0, 590), (0, 0, 0, 0), (0, 0, 0, 0), (1, 0, 1, 0), (29, 0, 0, 0), (3, 0, 1, 1), (3, 0, 0, 1), (2, 0, 3, 1), (1, 1, 1, 0), (7, 0, 0, 0), (14, 0, 0, 0), (28, 362, 27, 2), (0, 0, 0, 0), (0, 0, 0, 0), (3, 0, 2, 1), (3, 0, 0, 1), (2, 0, 3, 1), (1, 1, 1, 0), (7, 0, 0, 0), (14, 0, 0, 0), (28, 796, 108, 2), (0, 0, 0, 0), (0, 0, 0, 0), (10, 0, 0, 590), (0, 0, 0, 0), (0, 0, 0, 0), (1, 0, 1, 0), (29, 0, 0, 0), (3, 0, 1, 1), (3, 0, 0, 1), (2, 0, 3, 1), (1, 1, 1, 0), (7, 0, 0, 0), (14, 0, 0, 0), (3, 0, 0, 1), (2, 0, 3, 1), (1, 2, 1, 0), (7, 0, 0, 0), (14, 0, 0, 0), (28, 393, 34, 3), (0, 0, 0, 0), (0, 0, 0, 0), (3, 0, 2, 1), (3, 0, 0, 1), (2, 0, 3, 1), (1, 1, 1, 0), (7, 0, 0, 0), (14, 0, 0, 0), (3, 0, 0, 1), (2, 0, 3, 1), (1, 2, 1, 0), (7, 0, 0, 0), (14, 0, 0, 0), (28, 808, 111, 3), (0, 0, 0, 0), (0, 0, 0, 0), (10, 0, 0, 590), (0, 0, 0, 0), (0, 0, 0, 0), (1, 0, 1, 0), (29, 0, 0, 0), (3, 0, 1, 1), (3, 0, 0, 1), (2, 0, 3, 1), (1, 1, 1, 0), (7, 0, 0, 0), (14, 0, 0, 0), (3, 0, 0, 1), (2, 0, 3, 1), (1, 2, 1, 0), (7, 0, 0, 0), (14, 0, 0, 0), (3, 0, 0, 1), (2, 0, 3, 1), (1, 3, 1, 0), (7, 0, 0, 0), (14, 0, 0, 0), (28, 398, 35, 4), (0, 0, 0, 0), (0, 0, 0, 0), (3, 0, 2, 1), (3, 0, 0, 1), (2, 0, 3, 1), (1, 1, 1, 0), (7, 0, 0, 0), (14, 0, 0, 0), (3, 0, 0, 1), (2, 0, 3, 1), (1, 2, 1, 0), (7, 0, 0, 0), (14, 0, 0, 0), (3, 0, 0, 1), (2, 0, 3, 1), (1, 3, 1, 0), (7, 0, 0, 0), (14, 0, 0, 0), (28, 812, 112, 4), (0, 0, 0, 0), (0, 0, 0, 0), (10, 0, 0, 590), (0, 0, 0, 0), (0, 0, 0, 0), (1, 0, 1, 0), (29, 0, 0, 0), (3, 0, 1, 1), (3, 0, 0, 1), (2, 0, 3, 1), (1, 1, 1, 0), (7, 0, 0, 0), (14, 0, 0, 0), (3, 0, 0, 1), (2, 0, 3, 1), (1, 2, 1, 0), (7, 0, 0, 0), (14, 0, 0, 0), (3, 0, 0, 1), (2, 0, 3, 1), (1, 3, 1, 0), (7, 0, 0, 0), (14, 0, 0, 0), (3, 0, 0, 1), (2, 0, 3, 1), (1, 4, 1, 0), (7, 0, 0, 0), (14, 0, 0, 0), (28, 427, 42, 5), (0, 0, 0, 0), (0, 0, 0, 0), (3, 0, 2, 1), (3, 0, 0, 1), (2, 0, 3, 1), (1, 1, 1, 0), (7, 0, 0, 0), (14, 0, 0, 0), (3, 0, 0, 1), (2, 0, 3, 1), (1, 2, 1, 0), (7, 0, 0, 0), (14, 0, 0, 0), (3, 0, 0, 1), (2, 0, 3, 1), (1, 3, 1, 0), (7, 0, 0, 0), (14, 0, 0, 0), (3, 0, 0, 1), (2, 0, 3, 1), (1, 4, 1, 0), (7, 0, 0, 0), (14, 0, 0, 0), (28, 825, 115, 5), (0, 0, 0, 0), (0, 0, 0, 0), (10, 0, 0, 590), (0, 0, 0, 0), (0, 0, 0, 0), (1, 0, 1, 0), (29, 0, 0, 0), (3, 0, 1, 1), (3, 0, 0, 1), (2, 0, 3, 1), (1, 1, 1, 0), (7, 0, 0, 0), (14, 0, 0, 0), (28, 481, 56, 2), (0, 0, 0, 0), (0, 0, 0, 0), (3, 0, 2, 1), (3, 0, 0, 1), (2, 0, 3, 1), (1, 1, 1, 0), (7, 0, 0, 0), (14, 0, 0, 0), (28, 833, 117, 2), (0, 0, 0, 0), (0, 0, 0, 0), (10, 0, 0, 590), (0, 0, 0, 0), (0, 0, 0, 0), (1, 0, 1, 0), (29, 0, 0, 0), (3, 0, 1, 1), (28, 581, 76, 1), (0, 0, 0, 0), (0, 0, 0, 0), (3, 0, 2, 1), (28, 861, 124, 1), (0, 0, 0, 0), (0, 0, 0, 0), (10, 0, 0, 590), (0, 0, 0, 0), (0, 0, 0, 0), (1, 0, 1, 0), (29, 0, 0, 0), (3, 0, 1, 1), (28, 585, 77, 1), (0, 0, 0, 0), (0, 0, 0, 0), (3, 0, 2, 1), (28, 865, 125, 1), (0, 0, 0, 0), (0, 0, 0, 0), (10, 0, 0, 590), (0, 0, 0, 0), (0, 0, 0, 0), (1, 0, 1, 0), (29, 0, 0, 0), (3, 0, 1, 1), (28, 615, 82, 1), (0, 0, 0, 0), (0, 0, 0, 0), (3, 0, 2, 1), (28, 873, 127, 1), (0, 0, 0, 0), (0, 0, 0, 0), (10, 0, 0, 590), (0, 0, 0, 0), (0, 0, 0, 0), (1, 0, 1, 0), (29, 0, 0, 0), (3, 0, 1, 1), (28, 647, 89, 1), (0, 0, 0, 0), (0, 0, 0, 0), (3, 0, 2, 1), (28, 731, 92, 1), (0, 0, 0, 0), (0, 0, 0, 0), (10, 0, 0, 590), (0, 0, 0, 0), (0, 0, 0, 0), (1, 0, 1, 0), (29, 0, 0, 0), (6, 5, 3, 0), (0, 0, 0, 0), (0, 0, 0, 0), (11, 0, 0, 18), (0, 0, 0, 0), (0, 0, 0, 0), (1, 1, 1, 0), (29, 0, 0, 0)]
def xprog : List (List xI) := [xk_0, xk_1, xk_2, xk_3, xk_4, xk_5, xk_6, xk_7, xk_8, xk_9, xk_10, xk_11, xk_12, xk_13, xk_14, xk_15, xk_16, xk_17, xk_18, xk_19, xk_20, xk_21, xk_22, xk_23, xk_24, xk_25, xk_26, xk_27, xk_28, xk_29, xk_30, xk_31, xk_32, xk_33, xk_34, xk_35, xk_36, xk_37, xk_38, xk_39, xk_40, xk_41, xk_42, xk_43, xk_44, xk_45, xk_46, xk_47, xk_48, xk_49, xk_50, xk_51, xk_52, xk_53, xk_54, xk_55, xk_56, xk_57, xk_58, xk_59, xk_60, xk_61, xk_62, xk_63, xk_64, xk_65, xk_66, xk_67, xk_68, xk_69, xk_70, xk_71, xk_72, xk_73, xk_74, xk_75, xk_76, xk_77, xk_78, xk_79, xk_80, xk_81, xk_82, xk_83, xk_84, xk_85, xk_86, xk_87, xk_88, xk_89, xk_90, xk_91, xk_92, xk_93, xk_94, xk_95, xk_96, xk_97, xk_98, xk_99, xk_100, xk_101, xk_102, xk_103, xk_104, xk_105, xk_106, xk_107, xk_108, xk_109, xk_110, xk_111, xk_112, xk_113, xk_114, xk_115, xk_116, xk_117, xk_118, xk_119, xk_120, xk_121, xk_122, xk_123, xk_124, xk_125, xk_126, xk_127, xk_128]
def xins (mi pc : Nat) : xI := xnth (xnth xprog mi []) pc (0, 0, 0, 0)
def xswt : List (Nat × Nat × List Nat) := [(27, 45, [84, 92, 103, 111, 119, 127]), (34, 25, [68, 73, 78, 83, 88, 93, 98]), (35, 49, [76, 82, 88]), (42, 67, [100, 106, 112, 118, 124]), (128, 32, [112, 155, 178, 211, 244, 277, 320, 363, 386, 419, 462, 515, 538, 551, 564, 577])]
def xsw (mi pc : Nat) : List Nat := match xswt.find? (fun q => q.1 == mi && q.2.1 == pc) with
  | some q => q.2.2
  | none => []
/-- of a method: maxLocals, answer (0 none, 1 int, 2 boolean), arguments with the receiver, kind (0 static, 1 virtual, 2 <init>), class, frames, words, cells, slots, bytes -/
def xinf : List (List Nat) := [[1, 0, 1, 2, 6, 4, 82, 145, 11169, 49], [2, 0, 1, 2, 4, 2, 40, 16, 112, 90], [1, 0, 1, 2, 3, 1, 20, 0, 0, 25], [4, 0, 2, 0, 99, 0, 0, 0, 0, 21], [2, 0, 1, 2, 1, 3, 61, 103, 726, 41], [1, 0, 1, 2, 5, 1, 20, 15, 1426, 33], [1, 0, 1, 2, 2, 2, 40, 7, 8882, 50], [1, 0, 1, 2, 0, 1, 20, 2, 672, 22], [6, 1, 4, 1, 6, 4, 101, 0, 0, 100], [3, 2, 3, 0, 6, 0, 0, 0, 0, 16], [1, 0, 1, 1, 6, 3, 81, 0, 0, 19], [2, 0, 2, 1, 1, 2, 60, 0, 0, 51], [3, 0, 2, 1, 4, 1, 38, 0, 0, 105], [2, 0, 2, 1, 3, 0, 0, 0, 0, 57], [2, 1, 2, 0, 99, 0, 0, 0, 0, 11], [1, 0, 1, 1, 2, 0, 0, 0, 0, 6], [4, 0, 4, 1, 3, 0, 0, 0, 0, 36], [2, 2, 2, 1, 6, 4, 101, 0, 0, 32], [2, 2, 2, 1, 4, 1, 21, 0, 0, 26], [2, 2, 2, 1, 4, 0, 0, 0, 0, 24], [3, 2, 3, 1, 6, 4, 101, 0, 0, 44], [3, 2, 3, 1, 6, 4, 101, 0, 0, 39], [4, 2, 3, 1, 6, 4, 101, 0, 0, 63], [5, 2, 4, 1, 6, 4, 101, 0, 0, 71], [4, 1, 4, 1, 6, 4, 101, 0, 0, 69], [3, 2, 3, 1, 3, 1, 22, 0, 0, 32], [5, 0, 4, 1, 3, 0, 0, 0, 0, 73], [2, 1, 2, 1, 6, 3, 64, 0, 0, 139], [3, 1, 2, 1, 6, 1, 21, 0, 0, 47], [2, 2, 2, 1, 4, 0, 0, 0, 0, 30], [3, 1, 1, 1, 4, 2, 42, 0, 0, 32], [1, 1, 1, 0, 99, 0, 0, 0, 0, 53], [3, 1, 1, 1, 4, 1, 21, 0, 0, 32], [2, 2, 2, 1, 4, 0, 0, 0, 0, 26], [4, 1, 3, 1, 6, 1, 21, 0, 0, 106], [5, 1, 4, 1, 6, 3, 75, 0, 0, 96], [6, 1, 4, 1, 5, 2, 50, 0, 0, 51], [10, 0, 4, 0, 5, 1, 21, 0, 0, 151], [2, 1, 2, 0, 5, 0, 0, 0, 0, 9], [1, 1, 1, 0, 5, 0, 0, 0, 0, 5], [1, 1, 1, 0, 5, 0, 0, 0, 0, 5], [1, 1, 1, 0, 5, 1, 20, 0, 0, 10], [6, 1, 5, 1, 6, 5, 110, 0, 0, 132], [2, 2, 2, 1, 4, 1, 21, 0, 0, 37], [5, 1, 5, 1, 5, 4, 86, 0, 0, 23], [4, 0, 4, 1, 5, 2, 50, 0, 0, 15], [11, 0, 4, 1, 5, 2, 50, 0, 0, 166], [2, 1, 2, 0, 99, 0, 0, 0, 0, 11], [7, 1, 4, 0, 5, 0, 0, 0, 0, 72], [5, 1, 3, 1, 5, 3, 62, 0, 0, 75], [3, 1, 2, 0, 5, 2, 40, 0, 0, 40], [1, 1, 1, 0, 5, 0, 0, 0, 0, 5], [1, 1, 1, 0, 5, 0, 0, 0, 0, 8], [1, 1, 1, 0, 5, 0, 0, 0, 0, 7], [1, 1, 1, 0, 5, 0, 0, 0, 0, 5], [1, 1, 1, 0, 5, 1, 20, 0, 0, 20], [2, 1, 2, 1, 6, 8, 181, 0, 0, 67], [3, 0, 3, 1, 2, 7, 159, 0, 0, 73], [4, 0, 3, 1, 0, 6, 136, 0, 0, 76], [6, 0, 4, 1, 0, 3, 75, 0, 0, 65], [2, 2, 2, 1, 4, 2, 42, 0, 0, 22], [5, 0, 4, 1, 0, 5, 112, 0, 0, 88], [3, 1, 3, 1, 0, 0, 0, 0, 0, 12], [7, 0, 5, 1, 0, 4, 86, 0, 0, 82], [3, 0, 2, 1, 2, 1, 21, 0, 0, 48], [5, 0, 2, 1, 2, 4, 87, 0, 0, 109], [5, 0, 5, 1, 2, 3, 63, 0, 0, 40], [5, 0, 4, 1, 2, 1, 24, 0, 0, 63], [5, 0, 4, 1, 2, 0, 0, 0, 0, 75], [6, 0, 4, 1, 2, 1, 24, 0, 0, 98], [4, 1, 4, 1, 0, 0, 0, 0, 0, 17], [1, 2, 1, 1, 2, 0, 0, 0, 0, 15], [4, 0, 2, 1, 2, 3, 63, 0, 0, 64], [6, 1, 3, 1, 2, 1, 23, 0, 0, 98], [4, 2, 4, 1, 2, 0, 0, 0, 0, 40], [4, 1, 3, 1, 2, 1, 23, 0, 0, 59], [1, 1, 1, 1, 6, 8, 181, 0, 0, 23], [1, 1, 1, 1, 6, 8, 181, 0, 0, 80], [4, 0, 3, 1, 2, 6, 136, 0, 0, 70], [7, 0, 4, 1, 2, 5, 110, 0, 0, 138], [3, 0, 3, 1, 3, 0, 0, 0, 0, 16], [6, 0, 4, 1, 2, 3, 75, 0, 0, 76], [1, 1, 1, 1, 6, 8, 181, 0, 0, 27], [2, 1, 2, 1, 2, 4, 101, 0, 0, 24], [6, 1, 3, 0, 99, 3, 76, 0, 0, 133], [8, 0, 4, 0, 99, 2, 49, 0, 0, 123], [1, 1, 1, 0, 99, 0, 0, 0, 0, 8], [7, 1, 5, 0, 99, 1, 23, 0, 0, 128], [7, 0, 4, 0, 99, 1, 22, 0, 0, 112], [1, 2, 1, 1, 6, 3, 81, 0, 0, 25], [2, 2, 2, 1, 1, 2, 60, 0, 0, 55], [1, 0, 1, 2, 7, 1, 20, 12, 42852, 249], [2, 2, 1, 1, 7, 1, 21, 0, 0, 64], [2, 0, 1, 1, 7, 0, 0, 0, 0, 75], [5, 1, 4, 1, 7, 1, 21, 0, 0, 164], [2, 0, 1, 1, 7, 0, 0, 0, 0, 89], [2, 2, 2, 1, 7, 2, 43, 0, 0, 48], [2, 2, 2, 1, 7, 0, 0, 0, 0, 20], [2, 2, 2, 1, 7, 1, 22, 0, 0, 15], [3, 1, 3, 1, 7, 0, 0, 0, 0, 15], [3, 2, 3, 1, 7, 1, 21, 0, 0, 52], [3, 2, 3, 1, 7, 1, 21, 0, 0, 48], [4, 2, 3, 1, 7, 1, 21, 0, 0, 94], [4, 2, 4, 1, 7, 1, 21, 0, 0, 70], [4, 1, 4, 1, 7, 3, 69, 0, 0, 56], [4, 2, 4, 1, 7, 1, 22, 0, 0, 34], [5, 0, 4, 1, 7, 2, 45, 0, 0, 88], [4, 1, 4, 1, 7, 1, 22, 0, 0, 33], [4, 1, 2, 1, 7, 2, 43, 0, 0, 221], [2, 2, 2, 1, 7, 0, 0, 0, 0, 18], [2, 2, 2, 1, 7, 0, 0, 0, 0, 27], [3, 1, 3, 1, 7, 1, 22, 0, 0, 39], [4, 1, 4, 1, 7, 4, 95, 0, 0, 88], [4, 2, 3, 1, 7, 3, 72, 0, 0, 104], [8, 0, 4, 1, 7, 2, 45, 0, 0, 195], [5, 1, 5, 1, 7, 4, 102, 0, 0, 149], [11, 2, 4, 1, 7, 3, 72, 0, 0, 373], [3, 1, 2, 1, 7, 7, 181, 0, 0, 67], [9, 2, 1, 1, 7, 6, 153, 0, 0, 430], [8, 0, 1, 1, 7, 5, 126, 0, 0, 360], [5, 0, 1, 1, 7, 4, 102, 0, 0, 268], [4, 0, 3, 1, 7, 0, 0, 0, 0, 69], [3, 2, 3, 1, 7, 0, 0, 0, 0, 15], [4, 2, 4, 1, 7, 0, 0, 0, 0, 40], [1, 1, 1, 1, 7, 6, 153, 0, 0, 35], [7, 1, 1, 1, 7, 7, 181, 0, 0, 326], [5, 0, 4, 1, 7, 0, 0, 0, 0, 40], [12, 1, 1, 1, 7, 5, 126, 0, 0, 438], [4, 2, 1, 0, 99, 11, 414, 600000, 7302250, 598]]
def xmi (mi j : Nat) : Nat := xnth (xnth xinf mi []) j 0
def xys : List MethodName := [⟨"ReedBench", "<init>", "()V"⟩, ⟨"ReedBench$State", "<init>", "()V"⟩, ⟨"ReedBench$Reed", "<init>", "()V"⟩, ⟨"java/util/Arrays", "fill", "([II)V"⟩, ⟨"ReedBench$History", "<init>", "()V"⟩, ⟨"ReedBench$Works", "<init>", "()V"⟩, ⟨"ReedBench$Plan", "<init>", "()V"⟩, ⟨"ReedBench$Costs", "<init>", "()V"⟩, ⟨"ReedBench", "reed", "(III)I"⟩, ⟨"ReedBench", "within", "(III)Z"⟩, ⟨"ReedBench", "remember", "()V"⟩, ⟨"ReedBench$History", "keep", "(LReedBench$State;)V"⟩, ⟨"ReedBench$State", "copyFrom", "(LReedBench$State;)V"⟩, ⟨"ReedBench$Reed", "copyFrom", "(LReedBench$Reed;)V"⟩, ⟨"java/lang/Math", "min", "(II)I"⟩, ⟨"ReedBench$Plan", "forget", "()V"⟩, ⟨"ReedBench$Reed", "begin", "(III)V"⟩, ⟨"ReedBench", "scrap", "(I)Z"⟩, ⟨"ReedBench$State", "isFree", "(I)Z"⟩, ⟨"ReedBench$State", "hasReed", "(I)Z"⟩, ⟨"ReedBench", "rates", "(II)Z"⟩, ⟨"ReedBench", "want", "(II)Z"⟩, ⟨"ReedBench", "tuning", "(II)Z"⟩, ⟨"ReedBench", "beat", "(III)Z"⟩, ⟨"ReedBench", "file", "(III)I"⟩, ⟨"ReedBench$Reed", "bears", "(II)Z"⟩, ⟨"ReedBench$Reed", "takeStrokes", "(III)V"⟩, ⟨"ReedBench", "look", "(I)I"⟩, ⟨"ReedBench", "beatBound", "(I)I"⟩, ⟨"ReedBench$State", "isBound", "(I)Z"⟩, ⟨"ReedBench$State", "freeReeds", "()I"⟩, ⟨"java/lang/Integer", "bitCount", "(I)I"⟩, ⟨"ReedBench$State", "wantedSlots", "()I"⟩, ⟨"ReedBench$State", "isWanted", "(I)Z"⟩, ⟨"ReedBench", "of", "(II)I"⟩, ⟨"ReedBench", "work", "(III)I"⟩, ⟨"ReedBench$Works", "slotKey", "(LReedBench$State;II)I"⟩, ⟨"ReedBench$Works", "fillNear", "(LReedBench$State;II[I)V"⟩, ⟨"ReedBench$Works", "keyOf", "(II)I"⟩, ⟨"ReedBench$Works", "strokesOf", "(I)I"⟩, ⟨"ReedBench$Works", "tipOf", "(I)I"⟩, ⟨"ReedBench$Works", "rootOf", "(I)I"⟩, ⟨"ReedBench", "pairWork", "(IIII)I"⟩, ⟨"ReedBench$State", "isWantedPair", "(I)Z"⟩, ⟨"ReedBench$Works", "pairKey", "(LReedBench$State;III)I"⟩, ⟨"ReedBench$Works", "fillFirst", "(LReedBench$State;II)V"⟩, ⟨"ReedBench$Works", "fillPartner", "(LReedBench$State;II)V"⟩, ⟨"java/lang/Math", "max", "(II)I"⟩, ⟨"ReedBench$Works", "leastPlace", "([IIII)I"⟩, ⟨"ReedBench$Works", "joinWithPartner", "(LReedBench$State;I)I"⟩, ⟨"ReedBench$Works", "joinedKey", "(II)I"⟩, ⟨"ReedBench$Works", "pairStrokesOf", "(I)I"⟩, ⟨"ReedBench$Works", "firstTipOf", "(I)I"⟩, ⟨"ReedBench$Works", "firstRootOf", "(I)I"⟩, ⟨"ReedBench$Works", "otherTipOf", "(I)I"⟩, ⟨"ReedBench$Works", "otherRootOf", "(I)I"⟩, ⟨"ReedBench", "best", "(I)I"⟩, ⟨"ReedBench$Plan", "settle", "(LReedBench$State;LReedBench$Works;)V"⟩, ⟨"ReedBench$Costs", "reckon", "(LReedBench$State;LReedBench$Works;)V"⟩, ⟨"ReedBench$Costs", "reckonSlot", "(LReedBench$State;LReedBench$Works;I)V"⟩, ⟨"ReedBench$State", "mustBeat", "(I)Z"⟩, ⟨"ReedBench$Costs", "reckonPair", "(LReedBench$State;LReedBench$Works;I)V"⟩, ⟨"ReedBench$Costs", "ofSlot", "(II)I"⟩, ⟨"ReedBench$Costs", "reckonPartner", "(LReedBench$State;LReedBench$Works;II)V"⟩, ⟨"ReedBench$Plan", "putInOrder", "(LReedBench$State;)V"⟩, ⟨"ReedBench$Plan", "fillRows", "(LReedBench$State;)V"⟩, ⟨"ReedBench$Plan", "fillNext", "(LReedBench$State;III)V"⟩, ⟨"ReedBench$Plan", "fillBySlot", "(III)V"⟩, ⟨"ReedBench$Plan", "offer", "(III)V"⟩, ⟨"ReedBench$Plan", "fillByPair", "(III)V"⟩, ⟨"ReedBench$Costs", "ofPair", "(III)I"⟩, ⟨"ReedBench$Plan", "exists", "()Z"⟩, ⟨"ReedBench$Plan", "choose", "(LReedBench$State;)V"⟩, ⟨"ReedBench$Plan", "choosePair", "(II)I"⟩, ⟨"ReedBench$Plan", "leads", "(III)Z"⟩, ⟨"ReedBench$Plan", "chooseSlot", "(II)I"⟩, ⟨"ReedBench", "lays", "()I"⟩, ⟨"ReedBench", "make", "()I"⟩, ⟨"ReedBench$Plan", "carryOut", "(LReedBench$State;LReedBench$Works;)V"⟩, ⟨"ReedBench$Plan", "setPair", "(LReedBench$State;LReedBench$Works;I)V"⟩, ⟨"ReedBench$Reed", "putInto", "(II)V"⟩, ⟨"ReedBench$Plan", "setSlot", "(LReedBench$State;LReedBench$Works;I)V"⟩, ⟨"ReedBench", "lacks", "()I"⟩, ⟨"ReedBench$Plan", "fewestLeftOut", "(LReedBench$State;)I"⟩, ⟨"ReedBench$LeftOut", "seek", "(LReedBench$State;LReedBench$Costs;[I)I"⟩, ⟨"ReedBench$LeftOut", "addPair", "(LReedBench$Costs;[III)V"⟩, ⟨"ReedBench$LeftOut", "weightOf", "(I)I"⟩, ⟨"ReedBench$LeftOut", "withReed", "(LReedBench$Costs;[IIII)I"⟩, ⟨"ReedBench$LeftOut", "addSlot", "(LReedBench$Costs;[III)V"⟩, ⟨"ReedBench", "undo", "()Z"⟩, ⟨"ReedBench$History", "takeBack", "(LReedBench$State;)Z"⟩, ⟨"ReedBenchModel", "<init>", "()V"⟩, ⟨"ReedBenchModel", "undo", "()Z"⟩, ⟨"ReedBenchModel", "begins", "()V"⟩, ⟨"ReedBenchModel", "reed", "(III)I"⟩, ⟨"ReedBenchModel", "keep", "()V"⟩, ⟨"ReedBenchModel", "scrap", "(I)Z"⟩, ⟨"ReedBenchModel", "isReed", "(I)Z"⟩, ⟨"ReedBenchModel", "isFree", "(I)Z"⟩, ⟨"ReedBenchModel", "reedAt", "(II)I"⟩, ⟨"ReedBenchModel", "rates", "(II)Z"⟩, ⟨"ReedBenchModel", "want", "(II)Z"⟩, ⟨"ReedBenchModel", "tuning", "(II)Z"⟩, ⟨"ReedBenchModel", "beat", "(III)Z"⟩, ⟨"ReedBenchModel", "file", "(III)I"⟩, ⟨"ReedBenchModel", "canFile", "(III)Z"⟩, ⟨"ReedBenchModel", "files", "(III)V"⟩, ⟨"ReedBenchModel", "pitch", "(III)I"⟩, ⟨"ReedBenchModel", "look", "(I)I"⟩, ⟨"ReedBenchModel", "isWanted", "(I)Z"⟩, ⟨"ReedBenchModel", "beats", "(I)Z"⟩, ⟨"ReedBenchModel", "of", "(II)I"⟩, ⟨"ReedBenchModel", "work", "(III)I"⟩, ⟨"ReedBenchModel", "works", "(II)Z"⟩, ⟨"ReedBenchModel", "reach", "(III)V"⟩, ⟨"ReedBenchModel", "pairWork", "(IIII)I"⟩, ⟨"ReedBenchModel", "pairWorks", "(III)Z"⟩, ⟨"ReedBenchModel", "best", "(I)I"⟩, ⟨"ReedBenchModel", "takesLay", "()Z"⟩, ⟨"ReedBenchModel", "findLays", "()V"⟩, ⟨"ReedBenchModel", "findCosts", "()V"⟩, ⟨"ReedBenchModel", "comes", "(II)V"⟩, ⟨"ReedBenchModel", "has", "(II)Z"⟩, ⟨"ReedBenchModel", "fits", "(III)Z"⟩, ⟨"ReedBenchModel", "lays", "()I"⟩, ⟨"ReedBenchModel", "make", "()I"⟩, ⟨"ReedBenchModel", "sets", "(III)V"⟩, ⟨"ReedBenchModel", "lacks", "()I"⟩, ⟨"ReedBenchLaw", "law", "([I)Z"⟩]
def xy (mi : Nat) : MethodName := xnth xys mi x
def xbs : List ByteArray := [prog_1_method_1_code, prog_7_method_1_code, prog_6_method_1_code, prog_14_method_103_code, prog_3_method_1_code, prog_8_method_1_code, prog_5_method_1_code, prog_2_method_1_code, prog_1_method_2_code, prog_1_method_18_code, prog_1_method_19_code, prog_3_method_2_code, prog_7_method_2_code, prog_6_method_3_code, prog_12_method_69_code, prog_5_method_2_code, prog_6_method_2_code, prog_1_method_3_code, prog_7_method_4_code, prog_7_method_3_code, prog_1_method_4_code, prog_1_method_5_code, prog_1_method_6_code, prog_1_method_7_code, prog_1_method_8_code, prog_6_method_4_code, prog_6_method_5_code, prog_1_method_9_code, prog_1_method_20_code, prog_7_method_7_code, prog_7_method_9_code, prog_11_method_49_code, prog_7_method_10_code, prog_7_method_5_code, prog_1_method_10_code, prog_1_method_11_code, prog_8_method_12_code, prog_8_method_18_code, prog_8_method_2_code, prog_8_method_3_code, prog_8_method_4_code, prog_8_method_5_code, prog_1_method_12_code, prog_7_method_6_code, prog_8_method_13_code, prog_8_method_14_code, prog_8_method_15_code, prog_12_method_65_code, prog_8_method_16_code, prog_8_method_17_code, prog_8_method_6_code, prog_8_method_7_code, prog_8_method_8_code, prog_8_method_9_code, prog_8_method_10_code, prog_8_method_11_code, prog_1_method_13_code, prog_5_method_3_code, prog_2_method_4_code, prog_2_method_5_code, prog_7_method_8_code, prog_2_method_6_code, prog_2_method_2_code, prog_2_method_7_code, prog_5_method_5_code, prog_5_method_6_code, prog_5_method_7_code, prog_5_method_8_code, prog_5_method_10_code, prog_5_method_9_code, prog_2_method_3_code, prog_5_method_4_code, prog_5_method_11_code, prog_5_method_13_code, prog_5_method_14_code, prog_5_method_12_code, prog_1_method_14_code, prog_1_method_15_code, prog_5_method_15_code, prog_5_method_17_code, prog_6_method_6_code, prog_5_method_16_code, prog_1_method_16_code, prog_5_method_18_code, prog_4_method_2_code, prog_4_method_5_code, prog_4_method_3_code, prog_4_method_6_code, prog_4_method_4_code, prog_1_method_17_code, prog_3_method_3_code, prog_10_method_1_code, prog_10_method_5_code, prog_10_method_3_code, prog_10_method_9_code, prog_10_method_4_code, prog_10_method_10_code, prog_10_method_7_code, prog_10_method_8_code, prog_10_method_6_code, prog_10_method_11_code, prog_10_method_12_code, prog_10_method_13_code, prog_10_method_14_code, prog_10_method_19_code, prog_10_method_17_code, prog_10_method_18_code, prog_10_method_16_code, prog_10_method_21_code, prog_10_method_20_code, prog_10_method_15_code, prog_10_method_22_code, prog_10_method_26_code, prog_10_method_24_code, prog_10_method_23_code, prog_10_method_27_code, prog_10_method_25_code, prog_10_method_34_code, prog_10_method_33_code, prog_10_method_31_code, prog_10_method_28_code, prog_10_method_30_code, prog_10_method_29_code, prog_10_method_32_code, prog_10_method_35_code, prog_10_method_37_code, prog_10_method_36_code, prog_10_method_38_code, code]
def xb (mi : Nat) : ByteArray := xnth xbs mi code
def xret (mi : Nat) : Option FieldType := match xmi mi 1 with
  | 0 => none
  | 1 => some .int
  | _ => some .boolean
def xNs : List Nat := [2, 3, 9, 7, 8, 3, 4, 23]
def xN (ci : Nat) : Nat := xnth xNs ci 0
def xrfs : List (List Bool) := [[true, true], [true, false, false], [true, true, true, true, true, false, false, false, false], [false, false, false, false, false, false, false], [true, true, true, true, false, false, false, false], [true, true, true], [true, true, true, true], [false, true, true, false, false, true, true, true, true, true, false, false, false, false, false, false, true, true, true, true, false, false, true]]
def xrf (ci k : Nat) : Bool := xnth (xnth xrfs ci []) k false
def xbf (ci k : Nat) : Bool := (ci == 2 && k == 8) || (ci == 7 && k == 4)
abbrev xcl : List vw_C := [(RX0, TX0, 2), (RX1, TX1, 3), (RX3, TX3, 9), (RX4, TX4, 7), (RX5, TX5, 8), (RX6, TX6, 3), (RX7, TX7, 4), (RX8, TX8, 23)]
end
section
/-! ===== what an instruction does ===== -/
def xsem (t : Nat) (a : Int) (b c mi pc : Nat) (k : Nat × Nat) (ls : xL) (st : List xV) (M : xM) : Option xO := match t with
  | 1 => xgo (pc + b) k ls (.inl a :: st) M
  | 2 => match xnth ls b none with
    | some (.inl x) => xgo (pc + c) k ls (.inl x :: st) M
    | _ => none
  | 3 => match xnth ls b none with
    | some (.inr (x + 1)) => xgo (pc + c) k ls (.inr (x + 1) :: st) M
    | _ => none
  | 4 => match st with
    | .inl x :: r => xgo (pc + c) k (ls.set b (some (.inl x))) r M
    | _ => none
  | 5 => match st with
    | .inr (x + 1) :: r => xgo (pc + c) k (ls.set b (some (.inr (x + 1)))) r M
    | _ => none
  | 6 => match xnth ls b none with
    | some (.inl x) => xgo (pc + 3) k (ls.set b (some (.inl (x + a)))) st M
    | _ => none
  | 7 => match st with
    | .inl y :: .inl x :: r => match xbin b x y with
      | some z => xgo (pc + 1) k ls (.inl z :: r) M
      | none => none
    | _ => none
  | 8 => match st with
    | .inl x :: r => xgo (pc + 1) k ls (.inl (-x) :: r) M
    | _ => none
  | 9 => match st with
    | .inl x :: r => if xok x ∨ (b ≤ 1 ∧ x = 0) then xgo (if xcmp b x 0 then c else pc + 3) k ls r M else none
    | _ => none
  | 10 => match st with
    | .inl y :: .inl x :: r => if (xok x ∧ xok y) ∨ (b ≤ 1 ∧ x = y) then xgo (if xcmp b x y then c else pc + 3) k ls r M else none
    | _ => none
  | 11 => xgo c k ls st M
  | 12 => match st with
    | .inr p :: r => if (xat M p).1 = 10 + b then xgo (pc + 3) k ls ((if xrf b c then .inr ((xat M p).2.2 c) else .inl (M.2 p c)) :: r) M else none
    | _ => none
  | 13 => match st with
    | .inl x :: .inr p :: r => if (xat M p).1 = 10 + b ∧ xrf b c = false ∧ (xbf b c = true → x = 0 ∨ x = 1) then xgo (pc + 3) k ls r (xwr M p c x) else none
    | .inr (v + 1) :: .inr p :: r => if (xat M p).1 = 10 + b ∧ xrf b c = true then xgo (pc + 3) k ls r (xwref M p c (v + 1)) else none
    | _ => none
  | 14 => match st with
    | .inl i :: .inr p :: r => if ((xat M p).1 = 1 ∨ (xat M p).1 = 5) ∧ 0 ≤ i ∧ i < (xat M p).2.1 ∧ xok i then xgo (pc + 1) k ls (.inl (M.2 p i.toNat) :: r) M else none
    | _ => none
  | 15 => match st with
    | .inl x :: .inl i :: .inr p :: r => if (xat M p).1 = 1 ∧ 0 ≤ i ∧ i < (xat M p).2.1 ∧ xok i then xgo (pc + 1) k ls r (xwr M p i.toNat x) else none
    | _ => none
  | 16 => match st with
    | .inl i :: .inr p :: r => if ((xat M p).1 = 2 ∨ (xat M p).1 = 3 ∨ (xat M p).1 = 4) ∧ 0 ≤ i ∧ i < (xat M p).2.1 ∧ xok i then xgo (pc + 1) k ls (.inr ((xat M p).2.2 i.toNat) :: r) M else none
    | _ => none
  | 17 => match st with
    | .inr (v + 1) :: .inl i :: .inr p :: r => if ((xat M p).1 = 2 ∧ (xat M (v + 1)).1 = 13 ∨ (xat M p).1 = 3 ∧ (xat M (v + 1)).1 = 14) ∧ 0 ≤ i ∧ i < (xat M p).2.1 ∧ xok i then xgo (pc + 1) k ls r (xwref M p i.toNat (v + 1)) else none
    | _ => none
  | 18 => match st with
    | .inr p :: r => if (xat M p).1 = 1 ∨ (xat M p).1 = 5 then xgo (pc + 1) k ls (.inl (xat M p).2.1 :: r) M else none
    | _ => none
  | 19 => if k.1 + 1 ≤ xmi mi 7 ∧ k.2 + xN b ≤ xmi mi 8 then xgo (pc + 3) (k.1 + 1, k.2 + xN b) ls (.inr M.1.length :: st) (xnew M (10 + b) (xN b)) else none
  | 20 => match st with
    | .inl n :: r => if 0 ≤ n ∧ n ≤ 134217728 ∧ k.1 + 1 ≤ xmi mi 7 ∧ k.2 + n.toNat ≤ xmi mi 8 then xgo (pc + 2) (k.1 + 1, k.2 + n.toNat) ls (.inr M.1.length :: r) (xnew M 1 n.toNat) else none
    | _ => none
  | 21 => match st with
    | .inl n :: r => if 0 ≤ n ∧ n ≤ 134217728 ∧ k.1 + 1 ≤ xmi mi 7 ∧ k.2 + n.toNat ≤ xmi mi 8 then xgo (pc + 3) (k.1 + 1, k.2 + n.toNat) ls (.inr M.1.length :: r) (xnew M b n.toNat) else none
    | _ => none
  | 22 => match st with
    | .inl q :: .inl n :: r => if (0 ≤ n ∧ n ≤ 134217728) ∧ (0 ≤ q ∧ q ≤ 134217728) ∧ k.1 + (1 + n.toNat) ≤ xmi mi 7 ∧ k.2 + (n.toNat + n.toNat * q.toNat) ≤ xmi mi 8 then xgo (pc + 4) (k.1 + 1 + n.toNat, k.2 + n.toNat + n.toNat * q.toNat) ls (.inr M.1.length :: r) (xnew2 M n.toNat q.toNat) else none
    | _ => none
  | 23 => match st with
    | v :: r => xgo (pc + 1) k ls (v :: v :: r) M
    | _ => none
  | 24 => match st with
    | _ :: r => xgo (pc + 1) k ls r M
    | _ => none
  | 25 => match st with
    | v :: w :: r => xgo (pc + 1) k ls (v :: w :: v :: w :: r) M
    | _ => none
  | 26 => match st with
    | .inr (_ + 1) :: r => if 1 ≤ xmi mi 5 ∧ 20 ≤ xmi mi 6 ∧ r.length ≤ 8 then xgo (pc + 3) k ls r M else none
    | _ => none
  | 27 => match st with
    | .inl n :: .inl dp :: .inr d :: .inl sp :: .inr s :: r => if ((xat M s).1 = 1 ∧ (xat M d).1 = 1) ∧ (0 ≤ sp ∧ xok sp) ∧ (0 ≤ dp ∧ xok dp) ∧ (0 ≤ n ∧ xok n) ∧ sp + n ≤ (xat M s).2.1 ∧ dp + n ≤ (xat M d).2.1 ∧ 1 ≤ xmi mi 5 ∧ 38 ≤ xmi mi 6 ∧ r.length ≤ 8 then xgo (pc + 3) k ls r (xcpy M s sp.toNat d dp.toNat n.toNat) else none
    | _ => none
  | 28 => if c ≤ st.length ∧ st.length ≤ c + 8 ∧ xmi b 5 + 1 ≤ xmi mi 5 ∧ 8 + (xmi b 0 + 11) + xmi b 6 ≤ xmi mi 6 ∧ k.1 + xmi b 7 ≤ xmi mi 7 ∧ k.2 + xmi b 8 ≤ xmi mi 8 then
      (match xmi b 3, (st.take c).reverse with
        | 0, as => some (.inr (.inl (b, as, st.drop c)))
        | 1, .inr p :: as => if (xat M p).1 = 10 + xmi b 4 then some (.inr (.inl (b, .inr p :: as, st.drop c))) else none
        | 2, .inr (p + 1) :: as => some (.inr (.inl (b, .inr (p + 1) :: as, st.drop c)))
        | _, _ => none)
    else none
  | 29 => match st with
    | [.inl x] => if xmi mi 1 = 1 ∨ (xmi mi 1 = 2 ∧ (x = 0 ∨ x = 1)) then some (.inr (.inr [.inl x])) else none
    | _ => none
  | 30 => match st with
    | [] => if xmi mi 1 = 0 then some (.inr (.inr [])) else none
    | _ => none
  | 31 => xgo (pc + 3) k ls (.inr 2 :: st) M
  | 32 => match st with
    | .inl x :: r => if xok x then xgo (if x < a ∨ a + (xsw mi pc).length ≤ x then b else xnth (xsw mi pc) (x - a).toNat 0) k ls r M else none
    | _ => none
  | 33 => match st with
    | .inl y :: .inl x :: r => if xok x ∧ xok y ∧ 1 ≤ xmi mi 5 ∧ 21 ≤ xmi mi 6 ∧ r.length ≤ 8 then xgo (pc + 3) k ls (.inl (if y < x then y else x) :: r) M else none
    | _ => none
  | 34 => match st with
    | .inl y :: .inl x :: r => if xok x ∧ xok y ∧ 1 ≤ xmi mi 5 ∧ 21 ≤ xmi mi 6 ∧ r.length ≤ 8 then xgo (pc + 3) k ls (.inl (if x < y then y else x) :: r) M else none
    | _ => none
  | _ => none
def xstep (mi pc : Nat) (k : Nat × Nat) (ls : xL) (st : List xV) (M : xM) : Option xO := xsem (xins mi pc).1 (xins mi pc).2.1 (xins mi pc).2.2.1 (xins mi pc).2.2.2 mi pc k ls st M
def xloc (mi : Nat) (as : List xV) : xL := as.map some ++ List.replicate (xmi mi 0 - as.length) none
def xrun : Nat → Nat → Nat → Nat × Nat → xL → List xV → xM → Option (List xV × xM)
  | 0, _, _, _, _, _, _ => none
  | n + 1, mi, pc, k, ls, st, M => match xstep mi pc k ls st M with
    | none => none
    | some (.inl (pc', k', ls', st', M')) => xrun n mi pc' k' ls' st' M'
    | some (.inr (.inl (j, as, r))) => match xrun n j 0 (0, 0) (xloc j as) [] M with
      | none => none
      | some (v, M') => xrun n mi (pc + 3) (k.1 + xmi j 7, k.2 + xmi j 8) ls (v ++ r) M'
    | some (.inr (.inr v)) => some (v, M)
theorem xrun_mono : ∀ (n : Nat) (mi pc : Nat) (k : Nat × Nat) (ls : xL) (st : List xV) (M : xM) (r : List xV × xM), xrun n mi pc k ls st M = some r → ∀ m, n ≤ m → xrun m mi pc k ls st M = some r
  | 0, _, _, _, _, _, _, _, h, _, _ => by simp [xrun] at h
  | n + 1, mi, pc, k, ls, st, M, r, h, m, hm => by
    obtain ⟨m', rfl⟩ : ∃ m', m = m' + 1 := ⟨m - 1, by omega⟩
    have hm' : n ≤ m' := by omega
    unfold xrun at h ⊢
    cases hs : xstep mi pc k ls st M with
    | none => rw [hs] at h; cases h
    | some o =>
      rw [hs] at h
      rcases o with ⟨pc', k', ls', st', M'⟩ | ⟨j, as, r'⟩ | v
      · exact xrun_mono n _ _ _ _ _ _ _ h m' hm'
      · dsimp only at h ⊢
        cases hc : xrun n j 0 (0, 0) (xloc j as) [] M with
        | none => rw [hc] at h; cases h
        | some q =>
          obtain ⟨v, M'⟩ := q
          rw [hc] at h
          rw [xrun_mono n _ _ _ _ _ _ _ hc m' hm']
          exact xrun_mono n _ _ _ _ _ _ _ h m' hm'
      · exact h
end
section
/-! ===== every entry of the pure code is what the bytes say ===== -/
def xcd (b : Nat) : Jvm.ClassFile.Cond := match b with
  | 0 => .eq
  | 1 => .ne
  | 2 => .lt
  | 3 => .ge
  | 4 => .gt
  | _ => .le
def xT (ci : Nat) : u_T := (xnth xcl ci (RX0, TX0, 2)).2.1
def xCn (ci : Nat) : String := (xnth xcl ci (RX0, TX0, 2)).1
def xdc (cc : ByteArray) (pc : Nat) (i : Instr) (n : Nat) : Bool := decide (decode cc pc = .ok (i, n))
def xbi (b : Nat) : Instr := match b with
  | 0 => .iadd
  | 1 => .isub
  | 2 => .imul
  | 3 => .idiv
  | 4 => .irem
  | 5 => .iand
  | 6 => .ior
  | 7 => .ixor
  | 8 => .ishl
  | 9 => .ishr
  | _ => .iushr
def xfl (own : String) (cc : ByteArray) (pc : Nat) (put fin ini : Bool) (ref nm ds : String) : Option Jvm.Cond → Bool
  | some (.fieldLink o i r n d) => decide (o = own) && (decide (r = ref) && (decide (n = nm) && (decide (d = ds) && (xdc cc pc (if put then .putfield i else .getfield i) 3 && (!put || (!fin || (ini && decide (ref = own))))))))
  | some (.fieldLinkNest o i r n d _) => decide (o = own) && (decide (r = ref) && (decide (n = nm) && (decide (d = ds) && (xdc cc pc (if put then .putfield i else .getfield i) 3 && (!put || !fin)))))
  | _ => false
def xiv (kd i : Nat) : Instr := match kd with
  | 0 => .invokestatic i
  | 1 => .invokevirtual i
  | _ => .invokespecial i
def xlk (own : String) (cc : ByteArray) (pc kd : Nat) (y : MethodName) : Option Jvm.Cond → Bool
  | some (.methodLink o i z) => decide (o = own) && (decide (z = y) && xdc cc pc (xiv kd i) 3)
  | some (.methodLinkNest o i z _) => decide (o = own) && (decide (z = y) && xdc cc pc (xiv kd i) 3)
  | _ => false
def xlk0 (own : String) (cc : ByteArray) (pc kd : Nat) (y : MethodName) : Option Jvm.Cond → Bool
  | some (.methodLink o i z) => decide (o = own) && (decide (z = y) && xdc cc pc (xiv kd i) 3)
  | _ => false
def xcl1 (own C : String) (cc : ByteArray) (pc : Nat) (f : Nat → Instr) (n : Nat) : Option Jvm.Cond → Bool
  | some (.classLink o i c) => decide (o = own) && (decide (c = C) && xdc cc pc (f i) n)
  | _ => false
def xkc (own : String) (cc : ByteArray) (pc : Nat) (a : Int) (b : Nat) : Option Jvm.Cond → Bool
  | some (.constant o i v) => decide (o = own) && (decide (v = Int32.ofInt a) && (decide (b = 2) && xdc cc pc (.ldc i) 2 || decide (b = 3) && xdc cc pc (.ldc_w i) 3))
  | _ => false
def xgs (own : String) (cc : ByteArray) (pc : Nat) : Option Jvm.Cond → Bool
  | some (.fieldLink o i r n d) => decide (o = own) && (decide (r = "ReedBench") && (decide (n = "ABOVE_KEY") && (decide (d = "[I") && xdc cc pc (.getstatic i) 3)))
  | _ => false
def xwd (i : Nat) : Option Jvm.Cond := lw_tbl[i]?
def xokb (own : String) (ini : Bool) (mL : Nat) (cc : ByteArray) (mi pc : Nat) (i : xI) : Bool := match i with
  | (0, _, _, _) => true
  | (1, a, b, c) => (decide (b = 1) && xdc cc pc (.iconst a) 1) || ((decide (b = 2) && (decide ((Int8.ofInt a).toInt32 = Int32.ofInt a) && xdc cc pc (.bipush a) 2)) || ((decide (b = 3) && (decide ((Int16.ofInt a).toInt32 = Int32.ofInt a) && xdc cc pc (.sipush a) 3)) || xkc own cc pc a b (xwd c)))
  | (2, _, b, c) => (decide (c = 1) && (decide (b < 4) && xdc cc pc (.iload_n (Fin.ofNat 4 b)) 1)) || (decide (c = 2) && xdc cc pc (.iload b) 2)
  | (3, _, b, c) => (decide (c = 1) && (decide (b < 4) && xdc cc pc (.aload_n (Fin.ofNat 4 b)) 1)) || (decide (c = 2) && xdc cc pc (.aload b) 2)
  | (4, _, b, c) => decide (b < mL) && ((decide (c = 1) && (decide (b < 4) && xdc cc pc (.istore_n (Fin.ofNat 4 b)) 1)) || (decide (c = 2) && xdc cc pc (.istore b) 2))
  | (5, _, b, c) => decide (b < mL) && ((decide (c = 1) && (decide (b < 4) && xdc cc pc (.astore_n (Fin.ofNat 4 b)) 1)) || (decide (c = 2) && xdc cc pc (.astore b) 2))
  | (6, a, b, _) => decide (b < mL) && xdc cc pc (.iinc b a) 3
  | (7, _, b, _) => decide (b < 11) && xdc cc pc (xbi b) 1
  | (8, _, _, _) => xdc cc pc .ineg 1
  | (9, _, b, c) => decide (b < 6) && xdc cc pc (.ifCond (xcd b) ((c : Int) - pc)) 3
  | (10, _, b, c) => decide (b < 6) && xdc cc pc (.if_icmp (xcd b) ((c : Int) - pc)) 3
  | (11, _, _, c) => xdc cc pc (.goto ((c : Int) - pc)) 3
  | (12, a, b, c) => decide (b < 8) && (decide (c < xN b) && xfl own cc pc false (xT b c).2.2.2 ini (xT b c).1 (xT b c).2.1 (xT b c).2.2.1 (xwd a.toNat))
  | (13, a, b, c) => decide (b < 8) && (decide (c < xN b) && xfl own cc pc true (xT b c).2.2.2 ini (xT b c).1 (xT b c).2.1 (xT b c).2.2.1 (xwd a.toNat))
  | (14, _, _, _) => xdc cc pc .iaload 1
  | (15, _, _, _) => xdc cc pc .iastore 1
  | (16, _, _, _) => xdc cc pc .aaload 1
  | (17, _, _, _) => xdc cc pc .aastore 1
  | (18, _, _, _) => xdc cc pc .arraylength 1
  | (19, a, b, _) => decide (b < 8) && xcl1 own (xCn b) cc pc .new 3 (xwd a.toNat)
  | (20, _, _, _) => xdc cc pc (.newarray .int) 2
  | (21, a, b, _) => (decide (b = 2) && xcl1 own "ReedBench$Reed" cc pc .anewarray 3 (xwd a.toNat)) || (decide (b = 3) && xcl1 own "ReedBench$State" cc pc .anewarray 3 (xwd a.toNat))
  | (22, a, _, _) => xcl1 own "[[I" cc pc (fun i => .multianewarray i 2) 4 (xwd a.toNat)
  | (23, _, _, _) => xdc cc pc .dup 1
  | (24, _, _, _) => xdc cc pc .pop 1
  | (25, _, _, _) => xdc cc pc .dup2 1
  | (26, a, _, _) => xlk0 own cc pc 2 objectInit (xwd a.toNat)
  | (27, a, _, _) => xlk0 own cc pc 0 arraycopyName (xwd a.toNat)
  | (28, a, b, c) => (decide (b < 128) && (decide (b ≠ 14) && decide (b ≠ 47))) && (decide (c = xmi b 2) && xlk own cc pc (xmi b 3) (xy b) (xwd a.toNat))
  | (29, _, _, _) => xdc cc pc .ireturn 1
  | (30, _, _, _) => xdc cc pc .return_ 1
  | (31, a, _, _) => xgs own cc pc (xwd a.toNat)
  | (32, a, b, c) => xdc cc pc (.tableswitch ((b : Int) - pc) a (a + (xsw mi pc).length - 1) ((xsw mi pc).map (fun (t : Nat) => (t : Int) - (pc : Int))).toArray) c
  | (33, a, _, _) => xlk0 own cc pc 0 Lib.Math.min.name (xwd a.toNat)
  | (34, a, _, _) => xlk0 own cc pc 0 Lib.Math.max.name (xwd a.toNat)
  | _ => false
def xokm (mi : Nat) : Bool := (List.range (xmi mi 9)).all (fun pc => xokb (xy mi).cls (decide ((xy mi).name = "<init>")) (xmi mi 0) (xb mi) mi pc (xins mi pc))
end
section
set_option maxRecDepth 100000 in
theorem xokm_0 : xokm 0 = true := by decide +kernel
set_option maxRecDepth 100000 in
theorem xokm_1 : xokm 1 = true := by decide +kernel
set_option maxRecDepth 100000 in
theorem xokm_2 : xokm 2 = true := by decide +kernel
set_option maxRecDepth 100000 in
theorem xokm_3 : xokm 3 = true := by decide +kernel
set_option maxRecDepth 100000 in
theorem xokm_4 : xokm 4 = true := by decide +kernel
set_option maxRecDepth 100000 in
theorem xokm_5 : xokm 5 = true := by decide +kernel
set_option maxRecDepth 100000 in
theorem xokm_6 : xokm 6 = true := by decide +kernel
set_option maxRecDepth 100000 in
theorem xokm_7 : xokm 7 = true := by decide +kernel
set_option maxRecDepth 100000 in
theorem xokm_8 : xokm 8 = true := by decide +kernel
set_option maxRecDepth 100000 in
theorem xokm_9 : xokm 9 = true := by decide +kernel
set_option maxRecDepth 100000 in
theorem xokm_10 : xokm 10 = true := by decide +kernel
set_option maxRecDepth 100000 in
theorem xokm_11 : xokm 11 = true := by decide +kernel
set_option maxRecDepth 100000 in
theorem xokm_12 : xokm 12 = true := by decide +kernel
set_option maxRecDepth 100000 in
theorem xokm_13 : xokm 13 = true := by decide +kernel
set_option maxRecDepth 100000 in
theorem xokm_14 : xokm 14 = true := by decide +kernel
set_option maxRecDepth 100000 in
theorem xokm_15 : xokm 15 = true := by decide +kernel
set_option maxRecDepth 100000 in
theorem xokm_16 : xokm 16 = true := by decide +kernel
set_option maxRecDepth 100000 in
theorem xokm_17 : xokm 17 = true := by decide +kernel
set_option maxRecDepth 100000 in
theorem xokm_18 : xokm 18 = true := by decide +kernel
set_option maxRecDepth 100000 in
theorem xokm_19 : xokm 19 = true := by decide +kernel
set_option maxRecDepth 100000 in
theorem xokm_20 : xokm 20 = true := by decide +kernel
set_option maxRecDepth 100000 in
theorem xokm_21 : xokm 21 = true := by decide +kernel
set_option maxRecDepth 100000 in
theorem xokm_22 : xokm 22 = true := by decide +kernel
set_option maxRecDepth 100000 in
theorem xokm_23 : xokm 23 = true := by decide +kernel
set_option maxRecDepth 100000 in
theorem xokm_24 : xokm 24 = true := by decide +kernel
set_option maxRecDepth 100000 in
theorem xokm_25 : xokm 25 = true := by decide +kernel
set_option maxRecDepth 100000 in
theorem xokm_26 : xokm 26 = true := by decide +kernel
set_option maxRecDepth 100000 in
theorem xokm_27 : xokm 27 = true := by decide +kernel
set_option maxRecDepth 100000 in
theorem xokm_28 : xokm 28 = true := by decide +kernel
set_option maxRecDepth 100000 in
theorem xokm_29 : xokm 29 = true := by decide +kernel
set_option maxRecDepth 100000 in
theorem xokm_30 : xokm 30 = true := by decide +kernel
set_option maxRecDepth 100000 in
theorem xokm_31 : xokm 31 = true := by decide +kernel
set_option maxRecDepth 100000 in
theorem xokm_32 : xokm 32 = true := by decide +kernel
set_option maxRecDepth 100000 in
theorem xokm_33 : xokm 33 = true := by decide +kernel
set_option maxRecDepth 100000 in
theorem xokm_34 : xokm 34 = true := by decide +kernel
set_option maxRecDepth 100000 in
theorem xokm_35 : xokm 35 = true := by decide +kernel
set_option maxRecDepth 100000 in
theorem xokm_36 : xokm 36 = true := by decide +kernel
set_option maxRecDepth 100000 in
theorem xokm_37 : xokm 37 = true := by decide +kernel
set_option maxRecDepth 100000 in
theorem xokm_38 : xokm 38 = true := by decide +kernel
set_option maxRecDepth 100000 in
theorem xokm_39 : xokm 39 = true := by decide +kernel
set_option maxRecDepth 100000 in
theorem xokm_40 : xokm 40 = true := by decide +kernel
set_option maxRecDepth 100000 in
theorem xokm_41 : xokm 41 = true := by decide +kernel
set_option maxRecDepth 100000 in
theorem xokm_42 : xokm 42 = true := by decide +kernel
set_option maxRecDepth 100000 in
theorem xokm_43 : xokm 43 = true := by decide +kernel
set_option maxRecDepth 100000 in
theorem xokm_44 : xokm 44 = true := by decide +kernel
set_option maxRecDepth 100000 in
theorem xokm_45 : xokm 45 = true := by decide +kernel
set_option maxRecDepth 100000 in
theorem xokm_46 : xokm 46 = true := by decide +kernel
set_option maxRecDepth 100000 in
theorem xokm_47 : xokm 47 = true := by decide +kernel
set_option maxRecDepth 100000 in
theorem xokm_48 : xokm 48 = true := by decide +kernel
set_option maxRecDepth 100000 in
theorem xokm_49 : xokm 49 = true := by decide +kernel
set_option maxRecDepth 100000 in
theorem xokm_50 : xokm 50 = true := by decide +kernel
set_option maxRecDepth 100000 in
theorem xokm_51 : xokm 51 = true := by decide +kernel
set_option maxRecDepth 100000 in
theorem xokm_52 : xokm 52 = true := by decide +kernel
set_option maxRecDepth 100000 in
theorem xokm_53 : xokm 53 = true := by decide +kernel
set_option maxRecDepth 100000 in
theorem xokm_54 : xokm 54 = true := by decide +kernel
set_option maxRecDepth 100000 in
theorem xokm_55 : xokm 55 = true := by decide +kernel
set_option maxRecDepth 100000 in
theorem xokm_56 : xokm 56 = true := by decide +kernel
set_option maxRecDepth 100000 in
theorem xokm_57 : xokm 57 = true := by decide +kernel
set_option maxRecDepth 100000 in
theorem xokm_58 : xokm 58 = true := by decide +kernel
set_option maxRecDepth 100000 in
theorem xokm_59 : xokm 59 = true := by decide +kernel
set_option maxRecDepth 100000 in
theorem xokm_60 : xokm 60 = true := by decide +kernel
set_option maxRecDepth 100000 in
theorem xokm_61 : xokm 61 = true := by decide +kernel
set_option maxRecDepth 100000 in
theorem xokm_62 : xokm 62 = true := by decide +kernel
set_option maxRecDepth 100000 in
theorem xokm_63 : xokm 63 = true := by decide +kernel
set_option maxRecDepth 100000 in
theorem xokm_64 : xokm 64 = true := by decide +kernel
set_option maxRecDepth 100000 in
theorem xokm_65 : xokm 65 = true := by decide +kernel
set_option maxRecDepth 100000 in
theorem xokm_66 : xokm 66 = true := by decide +kernel
set_option maxRecDepth 100000 in
theorem xokm_67 : xokm 67 = true := by decide +kernel
set_option maxRecDepth 100000 in
theorem xokm_68 : xokm 68 = true := by decide +kernel
set_option maxRecDepth 100000 in
theorem xokm_69 : xokm 69 = true := by decide +kernel
set_option maxRecDepth 100000 in
theorem xokm_70 : xokm 70 = true := by decide +kernel
set_option maxRecDepth 100000 in
theorem xokm_71 : xokm 71 = true := by decide +kernel
set_option maxRecDepth 100000 in
theorem xokm_72 : xokm 72 = true := by decide +kernel
set_option maxRecDepth 100000 in
theorem xokm_73 : xokm 73 = true := by decide +kernel
set_option maxRecDepth 100000 in
theorem xokm_74 : xokm 74 = true := by decide +kernel
set_option maxRecDepth 100000 in
theorem xokm_75 : xokm 75 = true := by decide +kernel
set_option maxRecDepth 100000 in
theorem xokm_76 : xokm 76 = true := by decide +kernel
set_option maxRecDepth 100000 in
theorem xokm_77 : xokm 77 = true := by decide +kernel
set_option maxRecDepth 100000 in
theorem xokm_78 : xokm 78 = true := by decide +kernel
set_option maxRecDepth 100000 in
theorem xokm_79 : xokm 79 = true := by decide +kernel
set_option maxRecDepth 100000 in
theorem xokm_80 : xokm 80 = true := by decide +kernel
set_option maxRecDepth 100000 in
theorem xokm_81 : xokm 81 = true := by decide +kernel
set_option maxRecDepth 100000 in
theorem xokm_82 : xokm 82 = true := by decide +kernel
set_option maxRecDepth 100000 in
theorem xokm_83 : xokm 83 = true := by decide +kernel
set_option maxRecDepth 100000 in
theorem xokm_84 : xokm 84 = true := by decide +kernel
set_option maxRecDepth 100000 in
theorem xokm_85 : xokm 85 = true := by decide +kernel
set_option maxRecDepth 100000 in
theorem xokm_86 : xokm 86 = true := by decide +kernel
set_option maxRecDepth 100000 in
theorem xokm_87 : xokm 87 = true := by decide +kernel
set_option maxRecDepth 100000 in
theorem xokm_88 : xokm 88 = true := by decide +kernel
set_option maxRecDepth 100000 in
theorem xokm_89 : xokm 89 = true := by decide +kernel
set_option maxRecDepth 100000 in
theorem xokm_90 : xokm 90 = true := by decide +kernel
set_option maxRecDepth 100000 in
theorem xokm_91 : xokm 91 = true := by decide +kernel
set_option maxRecDepth 100000 in
theorem xokm_92 : xokm 92 = true := by decide +kernel
set_option maxRecDepth 100000 in
theorem xokm_93 : xokm 93 = true := by decide +kernel
set_option maxRecDepth 100000 in
theorem xokm_94 : xokm 94 = true := by decide +kernel
set_option maxRecDepth 100000 in
theorem xokm_95 : xokm 95 = true := by decide +kernel
set_option maxRecDepth 100000 in
theorem xokm_96 : xokm 96 = true := by decide +kernel
set_option maxRecDepth 100000 in
theorem xokm_97 : xokm 97 = true := by decide +kernel
set_option maxRecDepth 100000 in
theorem xokm_98 : xokm 98 = true := by decide +kernel
set_option maxRecDepth 100000 in
theorem xokm_99 : xokm 99 = true := by decide +kernel
set_option maxRecDepth 100000 in
theorem xokm_100 : xokm 100 = true := by decide +kernel
set_option maxRecDepth 100000 in
theorem xokm_101 : xokm 101 = true := by decide +kernel
set_option maxRecDepth 100000 in
theorem xokm_102 : xokm 102 = true := by decide +kernel
set_option maxRecDepth 100000 in
theorem xokm_103 : xokm 103 = true := by decide +kernel
set_option maxRecDepth 100000 in
theorem xokm_104 : xokm 104 = true := by decide +kernel
set_option maxRecDepth 100000 in
theorem xokm_105 : xokm 105 = true := by decide +kernel
set_option maxRecDepth 100000 in
theorem xokm_106 : xokm 106 = true := by decide +kernel
set_option maxRecDepth 100000 in
theorem xokm_107 : xokm 107 = true := by decide +kernel
set_option maxRecDepth 100000 in
theorem xokm_108 : xokm 108 = true := by decide +kernel
set_option maxRecDepth 100000 in
theorem xokm_109 : xokm 109 = true := by decide +kernel
set_option maxRecDepth 100000 in
theorem xokm_110 : xokm 110 = true := by decide +kernel
set_option maxRecDepth 100000 in
theorem xokm_111 : xokm 111 = true := by decide +kernel
set_option maxRecDepth 100000 in
theorem xokm_112 : xokm 112 = true := by decide +kernel
set_option maxRecDepth 100000 in
theorem xokm_113 : xokm 113 = true := by decide +kernel
set_option maxRecDepth 100000 in
theorem xokm_114 : xokm 114 = true := by decide +kernel
set_option maxRecDepth 100000 in
theorem xokm_115 : xokm 115 = true := by decide +kernel
set_option maxRecDepth 100000 in
theorem xokm_116 : xokm 116 = true := by decide +kernel
set_option maxRecDepth 100000 in
theorem xokm_117 : xokm 117 = true := by decide +kernel
set_option maxRecDepth 100000 in
theorem xokm_118 : xokm 118 = true := by decide +kernel
set_option maxRecDepth 100000 in
theorem xokm_119 : xokm 119 = true := by decide +kernel
set_option maxRecDepth 100000 in
theorem xokm_120 : xokm 120 = true := by decide +kernel
set_option maxRecDepth 100000 in
theorem xokm_121 : xokm 121 = true := by decide +kernel
set_option maxRecDepth 100000 in
theorem xokm_122 : xokm 122 = true := by decide +kernel
set_option maxRecDepth 100000 in
theorem xokm_123 : xokm 123 = true := by decide +kernel
set_option maxRecDepth 100000 in
theorem xokm_124 : xokm 124 = true := by decide +kernel
set_option maxRecDepth 100000 in
theorem xokm_125 : xokm 125 = true := by decide +kernel
set_option maxRecDepth 100000 in
theorem xokm_126 : xokm 126 = true := by decide +kernel
set_option maxRecDepth 100000 in
theorem xokm_127 : xokm 127 = true := by decide +kernel
set_option maxRecDepth 100000 in
theorem xokm_128 : xokm 128 = true := by decide +kernel
end
section
/-! ===== the words of each method, by their places in lw_tbl ===== -/
def xmw : List (List Nat) := [[84, 67, 83, 0], [92, 68, 91, 0], [99, 69, 98, 0], [137, 70, 136, 0], [185, 71, 184, 0], [204, 72, 203, 0], [222, 73, 221, 0], [228, 74, 227, 0], [284, 67, 282, 283], [287, 67, 286, 0], [291, 67, 290, 0], [295, 71, 294, 1], [299, 68, 298, 2], [303, 69, 302, 3], [309, 77, 308, 0], [313, 73, 312, 4], [317, 69, 316, 5], [321, 67, 319, 320], [325, 68, 324, 6], [329, 68, 328, 7], [333, 67, 331, 332], [337, 67, 335, 336], [341, 67, 339, 340], [347, 67, 345, 346], [351, 67, 349, 350], [355, 69, 354, 8], [361, 69, 360, 9], [365, 67, 363, 364], [369, 67, 368, 10], [373, 68, 372, 11], [377, 68, 376, 12], [381, 78, 380, 0], [388, 68, 387, 13], [392, 68, 391, 14], [396, 67, 394, 395], [401, 67, 399, 400], [406, 72, 405, 15], [409, 72, 408, 0], [413, 72, 412, 0], [418, 72, 417, 0], [421, 72, 420, 0], [424, 72, 423, 0], [430, 67, 428, 429], [434, 68, 433, 16], [438, 72, 437, 17], [442, 72, 441, 18], [446, 72, 445, 19], [450, 77, 449, 0], [453, 72, 452, 0], [457, 72, 456, 20], [460, 72, 459, 0], [464, 72, 463, 0], [467, 72, 466, 0], [470, 72, 469, 0], [473, 72, 472, 0], [476, 72, 475, 0], [484, 67, 482, 483], [488, 73, 487, 21], [492, 74, 491, 22], [499, 74, 498, 23], [506, 68, 505, 24], [512, 74, 511, 25], [516, 74, 515, 26], [522, 74, 521, 27], [528, 73, 527, 28], [533, 73, 532, 29], [540, 73, 539, 30], [545, 73, 544, 31], [550, 73, 549, 32], [554, 73, 553, 33], [558, 74, 557, 34], [563, 73, 562, 35], [567, 73, 566, 36], [571, 73, 570, 37], [575, 73, 574, 38], [579, 73, 578, 39], [584, 67, 582, 583], [588, 67, 586, 587], [592, 73, 591, 40], [596, 73, 595, 41], [607, 69, 606, 42], [611, 73, 610, 43], [618, 67, 616, 617], [622, 73, 621, 44], [625, 79, 624, 0], [632, 79, 631, 0], [635, 79, 634, 0], [639, 79, 638, 0], [646, 79, 645, 0], [650, 67, 648, 649], [654, 71, 653, 45], [659, 75, 658, 0], [734, 75, 732, 733], [738, 75, 737, 46], [742, 75, 740, 741], [746, 75, 745, 47], [750, 75, 748, 749], [754, 75, 753, 48], [758, 75, 757, 49], [762, 75, 761, 50], [766, 75, 764, 765], [770, 75, 768, 769], [774, 75, 772, 773], [778, 75, 776, 777], [782, 75, 780, 781], [786, 75, 785, 51], [791, 75, 790, 52], [795, 75, 794, 53], [799, 75, 797, 798], [803, 75, 802, 54], [807, 75, 806, 55], [811, 75, 809, 810], [815, 75, 813, 814], [819, 75, 818, 56], [823, 75, 822, 57], [828, 75, 826, 827], [832, 75, 831, 58], [836, 75, 834, 835], [840, 75, 839, 59], [844, 75, 843, 60], [848, 75, 847, 61], [852, 75, 851, 62], [856, 75, 855, 63], [860, 75, 859, 64], [864, 75, 862, 863], [868, 75, 866, 867], [872, 75, 871, 65], [876, 75, 874, 875]]
def xmwi (mi j : Nat) : Option Jvm.Cond := xwd (xnth (xnth xmw mi []) j 0)
def xmokb (mi : Nat) : Bool := mi == 14 || (mi == 47 || 
  (decide (xmwi mi 1 = some (.initialized (xy mi).cls)) && ((match xmi mi 3 with
    | 0 => decide (xmwi mi 2 = some (.static (xy mi)))
    | 1 => decide (xmwi mi 2 = some (.instanceMethod (xy mi))) && (decide (xmwi mi 3 = some (.selects (xy mi).cls (xy mi) (xy mi))) && (decide (xCn (xmi mi 4) = (xy mi).cls) && decide (xmi mi 4 < 8)))
    | 2 => decide (xmwi mi 2 = some (.instanceMethod (xy mi))) && (decide ((xy mi).name = "<init>") && decide (xmi mi 1 = 0))
    | _ => false) && (plainName (xy mi).cls && (decide ((xy mi).cls ≠ "java/lang/invoke/MethodHandle") && (decide ((xy mi).cls ≠ "java/lang/invoke/VarHandle") && (decide ((parseMethodDescriptor (xy mi).desc).map (fun d => d.parameters.length) = some (if xmi mi 3 = 0 then xmi mi 2 else xmi mi 2 - 1)) && (decide (xmi mi 2 ≤ xmi mi 0) && decide (xmi mi 3 = 0 ∨ 1 ≤ xmi mi 2)))))))))
theorem xmok_0 : xmokb 0 = true := by decide +kernel
theorem xmok_1 : xmokb 1 = true := by decide +kernel
theorem xmok_2 : xmokb 2 = true := by decide +kernel
theorem xmok_3 : xmokb 3 = true := by decide +kernel
theorem xmok_4 : xmokb 4 = true := by decide +kernel
theorem xmok_5 : xmokb 5 = true := by decide +kernel
theorem xmok_6 : xmokb 6 = true := by decide +kernel
theorem xmok_7 : xmokb 7 = true := by decide +kernel
theorem xmok_8 : xmokb 8 = true := by decide +kernel
theorem xmok_9 : xmokb 9 = true := by decide +kernel
theorem xmok_10 : xmokb 10 = true := by decide +kernel
theorem xmok_11 : xmokb 11 = true := by decide +kernel
theorem xmok_12 : xmokb 12 = true := by decide +kernel
theorem xmok_13 : xmokb 13 = true := by decide +kernel
theorem xmok_14 : xmokb 14 = true := by decide +kernel
theorem xmok_15 : xmokb 15 = true := by decide +kernel
theorem xmok_16 : xmokb 16 = true := by decide +kernel
theorem xmok_17 : xmokb 17 = true := by decide +kernel
theorem xmok_18 : xmokb 18 = true := by decide +kernel
theorem xmok_19 : xmokb 19 = true := by decide +kernel
theorem xmok_20 : xmokb 20 = true := by decide +kernel
theorem xmok_21 : xmokb 21 = true := by decide +kernel
theorem xmok_22 : xmokb 22 = true := by decide +kernel
theorem xmok_23 : xmokb 23 = true := by decide +kernel
theorem xmok_24 : xmokb 24 = true := by decide +kernel
theorem xmok_25 : xmokb 25 = true := by decide +kernel
theorem xmok_26 : xmokb 26 = true := by decide +kernel
theorem xmok_27 : xmokb 27 = true := by decide +kernel
theorem xmok_28 : xmokb 28 = true := by decide +kernel
theorem xmok_29 : xmokb 29 = true := by decide +kernel
theorem xmok_30 : xmokb 30 = true := by decide +kernel
theorem xmok_31 : xmokb 31 = true := by decide +kernel
theorem xmok_32 : xmokb 32 = true := by decide +kernel
theorem xmok_33 : xmokb 33 = true := by decide +kernel
theorem xmok_34 : xmokb 34 = true := by decide +kernel
theorem xmok_35 : xmokb 35 = true := by decide +kernel
theorem xmok_36 : xmokb 36 = true := by decide +kernel
theorem xmok_37 : xmokb 37 = true := by decide +kernel
theorem xmok_38 : xmokb 38 = true := by decide +kernel
theorem xmok_39 : xmokb 39 = true := by decide +kernel
theorem xmok_40 : xmokb 40 = true := by decide +kernel
theorem xmok_41 : xmokb 41 = true := by decide +kernel
theorem xmok_42 : xmokb 42 = true := by decide +kernel
theorem xmok_43 : xmokb 43 = true := by decide +kernel
theorem xmok_44 : xmokb 44 = true := by decide +kernel
theorem xmok_45 : xmokb 45 = true := by decide +kernel
theorem xmok_46 : xmokb 46 = true := by decide +kernel
theorem xmok_47 : xmokb 47 = true := by decide +kernel
theorem xmok_48 : xmokb 48 = true := by decide +kernel
theorem xmok_49 : xmokb 49 = true := by decide +kernel
theorem xmok_50 : xmokb 50 = true := by decide +kernel
theorem xmok_51 : xmokb 51 = true := by decide +kernel
theorem xmok_52 : xmokb 52 = true := by decide +kernel
theorem xmok_53 : xmokb 53 = true := by decide +kernel
theorem xmok_54 : xmokb 54 = true := by decide +kernel
theorem xmok_55 : xmokb 55 = true := by decide +kernel
theorem xmok_56 : xmokb 56 = true := by decide +kernel
theorem xmok_57 : xmokb 57 = true := by decide +kernel
theorem xmok_58 : xmokb 58 = true := by decide +kernel
theorem xmok_59 : xmokb 59 = true := by decide +kernel
theorem xmok_60 : xmokb 60 = true := by decide +kernel
theorem xmok_61 : xmokb 61 = true := by decide +kernel
theorem xmok_62 : xmokb 62 = true := by decide +kernel
theorem xmok_63 : xmokb 63 = true := by decide +kernel
theorem xmok_64 : xmokb 64 = true := by decide +kernel
theorem xmok_65 : xmokb 65 = true := by decide +kernel
theorem xmok_66 : xmokb 66 = true := by decide +kernel
theorem xmok_67 : xmokb 67 = true := by decide +kernel
theorem xmok_68 : xmokb 68 = true := by decide +kernel
theorem xmok_69 : xmokb 69 = true := by decide +kernel
theorem xmok_70 : xmokb 70 = true := by decide +kernel
theorem xmok_71 : xmokb 71 = true := by decide +kernel
theorem xmok_72 : xmokb 72 = true := by decide +kernel
theorem xmok_73 : xmokb 73 = true := by decide +kernel
theorem xmok_74 : xmokb 74 = true := by decide +kernel
theorem xmok_75 : xmokb 75 = true := by decide +kernel
theorem xmok_76 : xmokb 76 = true := by decide +kernel
theorem xmok_77 : xmokb 77 = true := by decide +kernel
theorem xmok_78 : xmokb 78 = true := by decide +kernel
theorem xmok_79 : xmokb 79 = true := by decide +kernel
theorem xmok_80 : xmokb 80 = true := by decide +kernel
theorem xmok_81 : xmokb 81 = true := by decide +kernel
theorem xmok_82 : xmokb 82 = true := by decide +kernel
theorem xmok_83 : xmokb 83 = true := by decide +kernel
theorem xmok_84 : xmokb 84 = true := by decide +kernel
theorem xmok_85 : xmokb 85 = true := by decide +kernel
theorem xmok_86 : xmokb 86 = true := by decide +kernel
theorem xmok_87 : xmokb 87 = true := by decide +kernel
theorem xmok_88 : xmokb 88 = true := by decide +kernel
theorem xmok_89 : xmokb 89 = true := by decide +kernel
theorem xmok_90 : xmokb 90 = true := by decide +kernel
theorem xmok_91 : xmokb 91 = true := by decide +kernel
theorem xmok_92 : xmokb 92 = true := by decide +kernel
theorem xmok_93 : xmokb 93 = true := by decide +kernel
theorem xmok_94 : xmokb 94 = true := by decide +kernel
theorem xmok_95 : xmokb 95 = true := by decide +kernel
theorem xmok_96 : xmokb 96 = true := by decide +kernel
theorem xmok_97 : xmokb 97 = true := by decide +kernel
theorem xmok_98 : xmokb 98 = true := by decide +kernel
theorem xmok_99 : xmokb 99 = true := by decide +kernel
theorem xmok_100 : xmokb 100 = true := by decide +kernel
theorem xmok_101 : xmokb 101 = true := by decide +kernel
theorem xmok_102 : xmokb 102 = true := by decide +kernel
theorem xmok_103 : xmokb 103 = true := by decide +kernel
theorem xmok_104 : xmokb 104 = true := by decide +kernel
theorem xmok_105 : xmokb 105 = true := by decide +kernel
theorem xmok_106 : xmokb 106 = true := by decide +kernel
theorem xmok_107 : xmokb 107 = true := by decide +kernel
theorem xmok_108 : xmokb 108 = true := by decide +kernel
theorem xmok_109 : xmokb 109 = true := by decide +kernel
theorem xmok_110 : xmokb 110 = true := by decide +kernel
theorem xmok_111 : xmokb 111 = true := by decide +kernel
theorem xmok_112 : xmokb 112 = true := by decide +kernel
theorem xmok_113 : xmokb 113 = true := by decide +kernel
theorem xmok_114 : xmokb 114 = true := by decide +kernel
theorem xmok_115 : xmokb 115 = true := by decide +kernel
theorem xmok_116 : xmokb 116 = true := by decide +kernel
theorem xmok_117 : xmokb 117 = true := by decide +kernel
theorem xmok_118 : xmokb 118 = true := by decide +kernel
theorem xmok_119 : xmokb 119 = true := by decide +kernel
theorem xmok_120 : xmokb 120 = true := by decide +kernel
theorem xmok_121 : xmokb 121 = true := by decide +kernel
theorem xmok_122 : xmokb 122 = true := by decide +kernel
theorem xmok_123 : xmokb 123 = true := by decide +kernel
theorem xmok_124 : xmokb 124 = true := by decide +kernel
theorem xmok_125 : xmokb 125 = true := by decide +kernel
theorem xmok_126 : xmokb 126 = true := by decide +kernel
theorem xmok_127 : xmokb 127 = true := by decide +kernel
set_option maxRecDepth 100000 in
theorem xmco_0 : xmwi 0 0 = some (.code (xy 0) (xb 0) (xmi 0 0) (xret 0)) := rfl
set_option maxRecDepth 100000 in
theorem xmco_1 : xmwi 1 0 = some (.code (xy 1) (xb 1) (xmi 1 0) (xret 1)) := rfl
set_option maxRecDepth 100000 in
theorem xmco_2 : xmwi 2 0 = some (.code (xy 2) (xb 2) (xmi 2 0) (xret 2)) := rfl
set_option maxRecDepth 100000 in
theorem xmco_3 : xmwi 3 0 = some (.code (xy 3) (xb 3) (xmi 3 0) (xret 3)) := rfl
set_option maxRecDepth 100000 in
theorem xmco_4 : xmwi 4 0 = some (.code (xy 4) (xb 4) (xmi 4 0) (xret 4)) := rfl
set_option maxRecDepth 100000 in
theorem xmco_5 : xmwi 5 0 = some (.code (xy 5) (xb 5) (xmi 5 0) (xret 5)) := rfl
set_option maxRecDepth 100000 in
theorem xmco_6 : xmwi 6 0 = some (.code (xy 6) (xb 6) (xmi 6 0) (xret 6)) := rfl
set_option maxRecDepth 100000 in
theorem xmco_7 : xmwi 7 0 = some (.code (xy 7) (xb 7) (xmi 7 0) (xret 7)) := rfl
set_option maxRecDepth 100000 in
theorem xmco_8 : xmwi 8 0 = some (.code (xy 8) (xb 8) (xmi 8 0) (xret 8)) := rfl
set_option maxRecDepth 100000 in
theorem xmco_9 : xmwi 9 0 = some (.code (xy 9) (xb 9) (xmi 9 0) (xret 9)) := rfl
set_option maxRecDepth 100000 in
theorem xmco_10 : xmwi 10 0 = some (.code (xy 10) (xb 10) (xmi 10 0) (xret 10)) := rfl
set_option maxRecDepth 100000 in
theorem xmco_11 : xmwi 11 0 = some (.code (xy 11) (xb 11) (xmi 11 0) (xret 11)) := rfl
set_option maxRecDepth 100000 in
theorem xmco_12 : xmwi 12 0 = some (.code (xy 12) (xb 12) (xmi 12 0) (xret 12)) := rfl
set_option maxRecDepth 100000 in
theorem xmco_13 : xmwi 13 0 = some (.code (xy 13) (xb 13) (xmi 13 0) (xret 13)) := rfl
set_option maxRecDepth 100000 in
theorem xmco_15 : xmwi 15 0 = some (.code (xy 15) (xb 15) (xmi 15 0) (xret 15)) := rfl
set_option maxRecDepth 100000 in
theorem xmco_16 : xmwi 16 0 = some (.code (xy 16) (xb 16) (xmi 16 0) (xret 16)) := rfl
set_option maxRecDepth 100000 in
theorem xmco_17 : xmwi 17 0 = some (.code (xy 17) (xb 17) (xmi 17 0) (xret 17)) := rfl
set_option maxRecDepth 100000 in
theorem xmco_18 : xmwi 18 0 = some (.code (xy 18) (xb 18) (xmi 18 0) (xret 18)) := rfl
set_option maxRecDepth 100000 in
theorem xmco_19 : xmwi 19 0 = some (.code (xy 19) (xb 19) (xmi 19 0) (xret 19)) := rfl
set_option maxRecDepth 100000 in
theorem xmco_20 : xmwi 20 0 = some (.code (xy 20) (xb 20) (xmi 20 0) (xret 20)) := rfl
set_option maxRecDepth 100000 in
theorem xmco_21 : xmwi 21 0 = some (.code (xy 21) (xb 21) (xmi 21 0) (xret 21)) := rfl
set_option maxRecDepth 100000 in
theorem xmco_22 : xmwi 22 0 = some (.code (xy 22) (xb 22) (xmi 22 0) (xret 22)) := rfl
set_option maxRecDepth 100000 in
theorem xmco_23 : xmwi 23 0 = some (.code (xy 23) (xb 23) (xmi 23 0) (xret 23)) := rfl
set_option maxRecDepth 100000 in
theorem xmco_24 : xmwi 24 0 = some (.code (xy 24) (xb 24) (xmi 24 0) (xret 24)) := rfl
set_option maxRecDepth 100000 in
theorem xmco_25 : xmwi 25 0 = some (.code (xy 25) (xb 25) (xmi 25 0) (xret 25)) := rfl
set_option maxRecDepth 100000 in
theorem xmco_26 : xmwi 26 0 = some (.code (xy 26) (xb 26) (xmi 26 0) (xret 26)) := rfl
set_option maxRecDepth 100000 in
theorem xmco_27 : xmwi 27 0 = some (.code (xy 27) (xb 27) (xmi 27 0) (xret 27)) := rfl
set_option maxRecDepth 100000 in
theorem xmco_28 : xmwi 28 0 = some (.code (xy 28) (xb 28) (xmi 28 0) (xret 28)) := rfl
set_option maxRecDepth 100000 in
theorem xmco_29 : xmwi 29 0 = some (.code (xy 29) (xb 29) (xmi 29 0) (xret 29)) := rfl
set_option maxRecDepth 100000 in
theorem xmco_30 : xmwi 30 0 = some (.code (xy 30) (xb 30) (xmi 30 0) (xret 30)) := rfl
set_option maxRecDepth 100000 in
theorem xmco_31 : xmwi 31 0 = some (.code (xy 31) (xb 31) (xmi 31 0) (xret 31)) := rfl
set_option maxRecDepth 100000 in
theorem xmco_32 : xmwi 32 0 = some (.code (xy 32) (xb 32) (xmi 32 0) (xret 32)) := rfl
set_option maxRecDepth 100000 in
theorem xmco_33 : xmwi 33 0 = some (.code (xy 33) (xb 33) (xmi 33 0) (xret 33)) := rfl
set_option maxRecDepth 100000 in
theorem xmco_34 : xmwi 34 0 = some (.code (xy 34) (xb 34) (xmi 34 0) (xret 34)) := rfl
set_option maxRecDepth 100000 in
theorem xmco_35 : xmwi 35 0 = some (.code (xy 35) (xb 35) (xmi 35 0) (xret 35)) := rfl
set_option maxRecDepth 100000 in
theorem xmco_36 : xmwi 36 0 = some (.code (xy 36) (xb 36) (xmi 36 0) (xret 36)) := rfl
set_option maxRecDepth 100000 in
theorem xmco_37 : xmwi 37 0 = some (.code (xy 37) (xb 37) (xmi 37 0) (xret 37)) := rfl
set_option maxRecDepth 100000 in
theorem xmco_38 : xmwi 38 0 = some (.code (xy 38) (xb 38) (xmi 38 0) (xret 38)) := rfl
set_option maxRecDepth 100000 in
theorem xmco_39 : xmwi 39 0 = some (.code (xy 39) (xb 39) (xmi 39 0) (xret 39)) := rfl
set_option maxRecDepth 100000 in
theorem xmco_40 : xmwi 40 0 = some (.code (xy 40) (xb 40) (xmi 40 0) (xret 40)) := rfl
set_option maxRecDepth 100000 in
theorem xmco_41 : xmwi 41 0 = some (.code (xy 41) (xb 41) (xmi 41 0) (xret 41)) := rfl
set_option maxRecDepth 100000 in
theorem xmco_42 : xmwi 42 0 = some (.code (xy 42) (xb 42) (xmi 42 0) (xret 42)) := rfl
set_option maxRecDepth 100000 in
theorem xmco_43 : xmwi 43 0 = some (.code (xy 43) (xb 43) (xmi 43 0) (xret 43)) := rfl
set_option maxRecDepth 100000 in
theorem xmco_44 : xmwi 44 0 = some (.code (xy 44) (xb 44) (xmi 44 0) (xret 44)) := rfl
set_option maxRecDepth 100000 in
theorem xmco_45 : xmwi 45 0 = some (.code (xy 45) (xb 45) (xmi 45 0) (xret 45)) := rfl
set_option maxRecDepth 100000 in
theorem xmco_46 : xmwi 46 0 = some (.code (xy 46) (xb 46) (xmi 46 0) (xret 46)) := rfl
set_option maxRecDepth 100000 in
theorem xmco_48 : xmwi 48 0 = some (.code (xy 48) (xb 48) (xmi 48 0) (xret 48)) := rfl
set_option maxRecDepth 100000 in
theorem xmco_49 : xmwi 49 0 = some (.code (xy 49) (xb 49) (xmi 49 0) (xret 49)) := rfl
set_option maxRecDepth 100000 in
theorem xmco_50 : xmwi 50 0 = some (.code (xy 50) (xb 50) (xmi 50 0) (xret 50)) := rfl
set_option maxRecDepth 100000 in
theorem xmco_51 : xmwi 51 0 = some (.code (xy 51) (xb 51) (xmi 51 0) (xret 51)) := rfl
set_option maxRecDepth 100000 in
theorem xmco_52 : xmwi 52 0 = some (.code (xy 52) (xb 52) (xmi 52 0) (xret 52)) := rfl
set_option maxRecDepth 100000 in
theorem xmco_53 : xmwi 53 0 = some (.code (xy 53) (xb 53) (xmi 53 0) (xret 53)) := rfl
set_option maxRecDepth 100000 in
theorem xmco_54 : xmwi 54 0 = some (.code (xy 54) (xb 54) (xmi 54 0) (xret 54)) := rfl
set_option maxRecDepth 100000 in
theorem xmco_55 : xmwi 55 0 = some (.code (xy 55) (xb 55) (xmi 55 0) (xret 55)) := rfl
set_option maxRecDepth 100000 in
theorem xmco_56 : xmwi 56 0 = some (.code (xy 56) (xb 56) (xmi 56 0) (xret 56)) := rfl
set_option maxRecDepth 100000 in
theorem xmco_57 : xmwi 57 0 = some (.code (xy 57) (xb 57) (xmi 57 0) (xret 57)) := rfl
set_option maxRecDepth 100000 in
theorem xmco_58 : xmwi 58 0 = some (.code (xy 58) (xb 58) (xmi 58 0) (xret 58)) := rfl
set_option maxRecDepth 100000 in
theorem xmco_59 : xmwi 59 0 = some (.code (xy 59) (xb 59) (xmi 59 0) (xret 59)) := rfl
set_option maxRecDepth 100000 in
theorem xmco_60 : xmwi 60 0 = some (.code (xy 60) (xb 60) (xmi 60 0) (xret 60)) := rfl
set_option maxRecDepth 100000 in
theorem xmco_61 : xmwi 61 0 = some (.code (xy 61) (xb 61) (xmi 61 0) (xret 61)) := rfl
set_option maxRecDepth 100000 in
theorem xmco_62 : xmwi 62 0 = some (.code (xy 62) (xb 62) (xmi 62 0) (xret 62)) := rfl
set_option maxRecDepth 100000 in
theorem xmco_63 : xmwi 63 0 = some (.code (xy 63) (xb 63) (xmi 63 0) (xret 63)) := rfl
set_option maxRecDepth 100000 in
theorem xmco_64 : xmwi 64 0 = some (.code (xy 64) (xb 64) (xmi 64 0) (xret 64)) := rfl
set_option maxRecDepth 100000 in
theorem xmco_65 : xmwi 65 0 = some (.code (xy 65) (xb 65) (xmi 65 0) (xret 65)) := rfl
set_option maxRecDepth 100000 in
theorem xmco_66 : xmwi 66 0 = some (.code (xy 66) (xb 66) (xmi 66 0) (xret 66)) := rfl
set_option maxRecDepth 100000 in
theorem xmco_67 : xmwi 67 0 = some (.code (xy 67) (xb 67) (xmi 67 0) (xret 67)) := rfl
set_option maxRecDepth 100000 in
theorem xmco_68 : xmwi 68 0 = some (.code (xy 68) (xb 68) (xmi 68 0) (xret 68)) := rfl
set_option maxRecDepth 100000 in
theorem xmco_69 : xmwi 69 0 = some (.code (xy 69) (xb 69) (xmi 69 0) (xret 69)) := rfl
set_option maxRecDepth 100000 in
theorem xmco_70 : xmwi 70 0 = some (.code (xy 70) (xb 70) (xmi 70 0) (xret 70)) := rfl
set_option maxRecDepth 100000 in
theorem xmco_71 : xmwi 71 0 = some (.code (xy 71) (xb 71) (xmi 71 0) (xret 71)) := rfl
set_option maxRecDepth 100000 in
theorem xmco_72 : xmwi 72 0 = some (.code (xy 72) (xb 72) (xmi 72 0) (xret 72)) := rfl
set_option maxRecDepth 100000 in
theorem xmco_73 : xmwi 73 0 = some (.code (xy 73) (xb 73) (xmi 73 0) (xret 73)) := rfl
set_option maxRecDepth 100000 in
theorem xmco_74 : xmwi 74 0 = some (.code (xy 74) (xb 74) (xmi 74 0) (xret 74)) := rfl
set_option maxRecDepth 100000 in
theorem xmco_75 : xmwi 75 0 = some (.code (xy 75) (xb 75) (xmi 75 0) (xret 75)) := rfl
set_option maxRecDepth 100000 in
theorem xmco_76 : xmwi 76 0 = some (.code (xy 76) (xb 76) (xmi 76 0) (xret 76)) := rfl
set_option maxRecDepth 100000 in
theorem xmco_77 : xmwi 77 0 = some (.code (xy 77) (xb 77) (xmi 77 0) (xret 77)) := rfl
set_option maxRecDepth 100000 in
theorem xmco_78 : xmwi 78 0 = some (.code (xy 78) (xb 78) (xmi 78 0) (xret 78)) := rfl
set_option maxRecDepth 100000 in
theorem xmco_79 : xmwi 79 0 = some (.code (xy 79) (xb 79) (xmi 79 0) (xret 79)) := rfl
set_option maxRecDepth 100000 in
theorem xmco_80 : xmwi 80 0 = some (.code (xy 80) (xb 80) (xmi 80 0) (xret 80)) := rfl
set_option maxRecDepth 100000 in
theorem xmco_81 : xmwi 81 0 = some (.code (xy 81) (xb 81) (xmi 81 0) (xret 81)) := rfl
set_option maxRecDepth 100000 in
theorem xmco_82 : xmwi 82 0 = some (.code (xy 82) (xb 82) (xmi 82 0) (xret 82)) := rfl
set_option maxRecDepth 100000 in
theorem xmco_83 : xmwi 83 0 = some (.code (xy 83) (xb 83) (xmi 83 0) (xret 83)) := rfl
set_option maxRecDepth 100000 in
theorem xmco_84 : xmwi 84 0 = some (.code (xy 84) (xb 84) (xmi 84 0) (xret 84)) := rfl
set_option maxRecDepth 100000 in
theorem xmco_85 : xmwi 85 0 = some (.code (xy 85) (xb 85) (xmi 85 0) (xret 85)) := rfl
set_option maxRecDepth 100000 in
theorem xmco_86 : xmwi 86 0 = some (.code (xy 86) (xb 86) (xmi 86 0) (xret 86)) := rfl
set_option maxRecDepth 100000 in
theorem xmco_87 : xmwi 87 0 = some (.code (xy 87) (xb 87) (xmi 87 0) (xret 87)) := rfl
set_option maxRecDepth 100000 in
theorem xmco_88 : xmwi 88 0 = some (.code (xy 88) (xb 88) (xmi 88 0) (xret 88)) := rfl
set_option maxRecDepth 100000 in
theorem xmco_89 : xmwi 89 0 = some (.code (xy 89) (xb 89) (xmi 89 0) (xret 89)) := rfl
set_option maxRecDepth 100000 in
theorem xmco_90 : xmwi 90 0 = some (.code (xy 90) (xb 90) (xmi 90 0) (xret 90)) := rfl
set_option maxRecDepth 100000 in
theorem xmco_91 : xmwi 91 0 = some (.code (xy 91) (xb 91) (xmi 91 0) (xret 91)) := rfl
set_option maxRecDepth 100000 in
theorem xmco_92 : xmwi 92 0 = some (.code (xy 92) (xb 92) (xmi 92 0) (xret 92)) := rfl
set_option maxRecDepth 100000 in
theorem xmco_93 : xmwi 93 0 = some (.code (xy 93) (xb 93) (xmi 93 0) (xret 93)) := rfl
set_option maxRecDepth 100000 in
theorem xmco_94 : xmwi 94 0 = some (.code (xy 94) (xb 94) (xmi 94 0) (xret 94)) := rfl
set_option maxRecDepth 100000 in
theorem xmco_95 : xmwi 95 0 = some (.code (xy 95) (xb 95) (xmi 95 0) (xret 95)) := rfl
set_option maxRecDepth 100000 in
theorem xmco_96 : xmwi 96 0 = some (.code (xy 96) (xb 96) (xmi 96 0) (xret 96)) := rfl
set_option maxRecDepth 100000 in
theorem xmco_97 : xmwi 97 0 = some (.code (xy 97) (xb 97) (xmi 97 0) (xret 97)) := rfl
set_option maxRecDepth 100000 in
theorem xmco_98 : xmwi 98 0 = some (.code (xy 98) (xb 98) (xmi 98 0) (xret 98)) := rfl
set_option maxRecDepth 100000 in
theorem xmco_99 : xmwi 99 0 = some (.code (xy 99) (xb 99) (xmi 99 0) (xret 99)) := rfl
set_option maxRecDepth 100000 in
theorem xmco_100 : xmwi 100 0 = some (.code (xy 100) (xb 100) (xmi 100 0) (xret 100)) := rfl
set_option maxRecDepth 100000 in
theorem xmco_101 : xmwi 101 0 = some (.code (xy 101) (xb 101) (xmi 101 0) (xret 101)) := rfl
set_option maxRecDepth 100000 in
theorem xmco_102 : xmwi 102 0 = some (.code (xy 102) (xb 102) (xmi 102 0) (xret 102)) := rfl
set_option maxRecDepth 100000 in
theorem xmco_103 : xmwi 103 0 = some (.code (xy 103) (xb 103) (xmi 103 0) (xret 103)) := rfl
set_option maxRecDepth 100000 in
theorem xmco_104 : xmwi 104 0 = some (.code (xy 104) (xb 104) (xmi 104 0) (xret 104)) := rfl
set_option maxRecDepth 100000 in
theorem xmco_105 : xmwi 105 0 = some (.code (xy 105) (xb 105) (xmi 105 0) (xret 105)) := rfl
set_option maxRecDepth 100000 in
theorem xmco_106 : xmwi 106 0 = some (.code (xy 106) (xb 106) (xmi 106 0) (xret 106)) := rfl
set_option maxRecDepth 100000 in
theorem xmco_107 : xmwi 107 0 = some (.code (xy 107) (xb 107) (xmi 107 0) (xret 107)) := rfl
set_option maxRecDepth 100000 in
theorem xmco_108 : xmwi 108 0 = some (.code (xy 108) (xb 108) (xmi 108 0) (xret 108)) := rfl
set_option maxRecDepth 100000 in
theorem xmco_109 : xmwi 109 0 = some (.code (xy 109) (xb 109) (xmi 109 0) (xret 109)) := rfl
set_option maxRecDepth 100000 in
theorem xmco_110 : xmwi 110 0 = some (.code (xy 110) (xb 110) (xmi 110 0) (xret 110)) := rfl
set_option maxRecDepth 100000 in
theorem xmco_111 : xmwi 111 0 = some (.code (xy 111) (xb 111) (xmi 111 0) (xret 111)) := rfl
set_option maxRecDepth 100000 in
theorem xmco_112 : xmwi 112 0 = some (.code (xy 112) (xb 112) (xmi 112 0) (xret 112)) := rfl
set_option maxRecDepth 100000 in
theorem xmco_113 : xmwi 113 0 = some (.code (xy 113) (xb 113) (xmi 113 0) (xret 113)) := rfl
set_option maxRecDepth 100000 in
theorem xmco_114 : xmwi 114 0 = some (.code (xy 114) (xb 114) (xmi 114 0) (xret 114)) := rfl
set_option maxRecDepth 100000 in
theorem xmco_115 : xmwi 115 0 = some (.code (xy 115) (xb 115) (xmi 115 0) (xret 115)) := rfl
set_option maxRecDepth 100000 in
theorem xmco_116 : xmwi 116 0 = some (.code (xy 116) (xb 116) (xmi 116 0) (xret 116)) := rfl
set_option maxRecDepth 100000 in
theorem xmco_117 : xmwi 117 0 = some (.code (xy 117) (xb 117) (xmi 117 0) (xret 117)) := rfl
set_option maxRecDepth 100000 in
theorem xmco_118 : xmwi 118 0 = some (.code (xy 118) (xb 118) (xmi 118 0) (xret 118)) := rfl
set_option maxRecDepth 100000 in
theorem xmco_119 : xmwi 119 0 = some (.code (xy 119) (xb 119) (xmi 119 0) (xret 119)) := rfl
set_option maxRecDepth 100000 in
theorem xmco_120 : xmwi 120 0 = some (.code (xy 120) (xb 120) (xmi 120 0) (xret 120)) := rfl
set_option maxRecDepth 100000 in
theorem xmco_121 : xmwi 121 0 = some (.code (xy 121) (xb 121) (xmi 121 0) (xret 121)) := rfl
set_option maxRecDepth 100000 in
theorem xmco_122 : xmwi 122 0 = some (.code (xy 122) (xb 122) (xmi 122 0) (xret 122)) := rfl
set_option maxRecDepth 100000 in
theorem xmco_123 : xmwi 123 0 = some (.code (xy 123) (xb 123) (xmi 123 0) (xret 123)) := rfl
set_option maxRecDepth 100000 in
theorem xmco_124 : xmwi 124 0 = some (.code (xy 124) (xb 124) (xmi 124 0) (xret 124)) := rfl
set_option maxRecDepth 100000 in
theorem xmco_125 : xmwi 125 0 = some (.code (xy 125) (xb 125) (xmi 125 0) (xret 125)) := rfl
set_option maxRecDepth 100000 in
theorem xmco_126 : xmwi 126 0 = some (.code (xy 126) (xb 126) (xmi 126 0) (xret 126)) := rfl
set_option maxRecDepth 100000 in
theorem xmco_127 : xmwi 127 0 = some (.code (xy 127) (xb 127) (xmi 127 0) (xret 127)) := rfl
theorem xmok (mi : Nat) (h : mi < 128) : xmokb mi = true := by
  rcases Nat.lt_or_ge mi 64 with h64 | h64
  ·
    rcases Nat.lt_or_ge mi 32 with h32 | h32
    ·
      rcases Nat.lt_or_ge mi 16 with h16 | h16
      ·
        rcases Nat.lt_or_ge mi 8 with h8 | h8
        ·
          rcases Nat.lt_or_ge mi 4 with h4 | h4
          ·
            rcases Nat.lt_or_ge mi 2 with h2 | h2
            ·
              rcases Nat.lt_or_ge mi 1 with h1 | h1
              ·
                exact (show mi = 0 by omega) ▸ xmok_0
              ·
                exact (show mi = 1 by omega) ▸ xmok_1
            ·
              rcases Nat.lt_or_ge mi 3 with h3 | h3
              ·
                exact (show mi = 2 by omega) ▸ xmok_2
              ·
                exact (show mi = 3 by omega) ▸ xmok_3
          ·
            rcases Nat.lt_or_ge mi 6 with h6 | h6
            ·
              rcases Nat.lt_or_ge mi 5 with h5 | h5
              ·
                exact (show mi = 4 by omega) ▸ xmok_4
              ·
                exact (show mi = 5 by omega) ▸ xmok_5
            ·
              rcases Nat.lt_or_ge mi 7 with h7 | h7
              ·
                exact (show mi = 6 by omega) ▸ xmok_6
              ·
                exact (show mi = 7 by omega) ▸ xmok_7
        ·
          rcases Nat.lt_or_ge mi 12 with h12 | h12
          ·
            rcases Nat.lt_or_ge mi 10 with h10 | h10
            ·
              rcases Nat.lt_or_ge mi 9 with h9 | h9
              ·
                exact (show mi = 8 by omega) ▸ xmok_8
              ·
                exact (show mi = 9 by omega) ▸ xmok_9
            ·
              rcases Nat.lt_or_ge mi 11 with h11 | h11
              ·
                exact (show mi = 10 by omega) ▸ xmok_10
              ·
                exact (show mi = 11 by omega) ▸ xmok_11
          ·
            rcases Nat.lt_or_ge mi 14 with h14 | h14
            ·
              rcases Nat.lt_or_ge mi 13 with h13 | h13
              ·
                exact (show mi = 12 by omega) ▸ xmok_12
              ·
                exact (show mi = 13 by omega) ▸ xmok_13
            ·
              rcases Nat.lt_or_ge mi 15 with h15 | h15
              ·
                exact (show mi = 14 by omega) ▸ xmok_14
              ·
                exact (show mi = 15 by omega) ▸ xmok_15
      ·
        rcases Nat.lt_or_ge mi 24 with h24 | h24
        ·
          rcases Nat.lt_or_ge mi 20 with h20 | h20
          ·
            rcases Nat.lt_or_ge mi 18 with h18 | h18
            ·
              rcases Nat.lt_or_ge mi 17 with h17 | h17
              ·
                exact (show mi = 16 by omega) ▸ xmok_16
              ·
                exact (show mi = 17 by omega) ▸ xmok_17
            ·
              rcases Nat.lt_or_ge mi 19 with h19 | h19
              ·
                exact (show mi = 18 by omega) ▸ xmok_18
              ·
                exact (show mi = 19 by omega) ▸ xmok_19
          ·
            rcases Nat.lt_or_ge mi 22 with h22 | h22
            ·
              rcases Nat.lt_or_ge mi 21 with h21 | h21
              ·
                exact (show mi = 20 by omega) ▸ xmok_20
              ·
                exact (show mi = 21 by omega) ▸ xmok_21
            ·
              rcases Nat.lt_or_ge mi 23 with h23 | h23
              ·
                exact (show mi = 22 by omega) ▸ xmok_22
              ·
                exact (show mi = 23 by omega) ▸ xmok_23
        ·
          rcases Nat.lt_or_ge mi 28 with h28 | h28
          ·
            rcases Nat.lt_or_ge mi 26 with h26 | h26
            ·
              rcases Nat.lt_or_ge mi 25 with h25 | h25
              ·
                exact (show mi = 24 by omega) ▸ xmok_24
              ·
                exact (show mi = 25 by omega) ▸ xmok_25
            ·
              rcases Nat.lt_or_ge mi 27 with h27 | h27
              ·
                exact (show mi = 26 by omega) ▸ xmok_26
              ·
                exact (show mi = 27 by omega) ▸ xmok_27
          ·
            rcases Nat.lt_or_ge mi 30 with h30 | h30
            ·
              rcases Nat.lt_or_ge mi 29 with h29 | h29
              ·
                exact (show mi = 28 by omega) ▸ xmok_28
              ·
                exact (show mi = 29 by omega) ▸ xmok_29
            ·
              rcases Nat.lt_or_ge mi 31 with h31 | h31
              ·
                exact (show mi = 30 by omega) ▸ xmok_30
              ·
                exact (show mi = 31 by omega) ▸ xmok_31
    ·
      rcases Nat.lt_or_ge mi 48 with h48 | h48
      ·
        rcases Nat.lt_or_ge mi 40 with h40 | h40
        ·
          rcases Nat.lt_or_ge mi 36 with h36 | h36
          ·
            rcases Nat.lt_or_ge mi 34 with h34 | h34
            ·
              rcases Nat.lt_or_ge mi 33 with h33 | h33
              ·
                exact (show mi = 32 by omega) ▸ xmok_32
              ·
                exact (show mi = 33 by omega) ▸ xmok_33
            ·
              rcases Nat.lt_or_ge mi 35 with h35 | h35
              ·
                exact (show mi = 34 by omega) ▸ xmok_34
              ·
                exact (show mi = 35 by omega) ▸ xmok_35
          ·
            rcases Nat.lt_or_ge mi 38 with h38 | h38
            ·
              rcases Nat.lt_or_ge mi 37 with h37 | h37
              ·
                exact (show mi = 36 by omega) ▸ xmok_36
              ·
                exact (show mi = 37 by omega) ▸ xmok_37
            ·
              rcases Nat.lt_or_ge mi 39 with h39 | h39
              ·
                exact (show mi = 38 by omega) ▸ xmok_38
              ·
                exact (show mi = 39 by omega) ▸ xmok_39
        ·
          rcases Nat.lt_or_ge mi 44 with h44 | h44
          ·
            rcases Nat.lt_or_ge mi 42 with h42 | h42
            ·
              rcases Nat.lt_or_ge mi 41 with h41 | h41
              ·
                exact (show mi = 40 by omega) ▸ xmok_40
              ·
                exact (show mi = 41 by omega) ▸ xmok_41
            ·
              rcases Nat.lt_or_ge mi 43 with h43 | h43
              ·
                exact (show mi = 42 by omega) ▸ xmok_42
              ·
                exact (show mi = 43 by omega) ▸ xmok_43
          ·
            rcases Nat.lt_or_ge mi 46 with h46 | h46
            ·
              rcases Nat.lt_or_ge mi 45 with h45 | h45
              ·
                exact (show mi = 44 by omega) ▸ xmok_44
              ·
                exact (show mi = 45 by omega) ▸ xmok_45
            ·
              rcases Nat.lt_or_ge mi 47 with h47 | h47
              ·
                exact (show mi = 46 by omega) ▸ xmok_46
              ·
                exact (show mi = 47 by omega) ▸ xmok_47
      ·
        rcases Nat.lt_or_ge mi 56 with h56 | h56
        ·
          rcases Nat.lt_or_ge mi 52 with h52 | h52
          ·
            rcases Nat.lt_or_ge mi 50 with h50 | h50
            ·
              rcases Nat.lt_or_ge mi 49 with h49 | h49
              ·
                exact (show mi = 48 by omega) ▸ xmok_48
              ·
                exact (show mi = 49 by omega) ▸ xmok_49
            ·
              rcases Nat.lt_or_ge mi 51 with h51 | h51
              ·
                exact (show mi = 50 by omega) ▸ xmok_50
              ·
                exact (show mi = 51 by omega) ▸ xmok_51
          ·
            rcases Nat.lt_or_ge mi 54 with h54 | h54
            ·
              rcases Nat.lt_or_ge mi 53 with h53 | h53
              ·
                exact (show mi = 52 by omega) ▸ xmok_52
              ·
                exact (show mi = 53 by omega) ▸ xmok_53
            ·
              rcases Nat.lt_or_ge mi 55 with h55 | h55
              ·
                exact (show mi = 54 by omega) ▸ xmok_54
              ·
                exact (show mi = 55 by omega) ▸ xmok_55
        ·
          rcases Nat.lt_or_ge mi 60 with h60 | h60
          ·
            rcases Nat.lt_or_ge mi 58 with h58 | h58
            ·
              rcases Nat.lt_or_ge mi 57 with h57 | h57
              ·
                exact (show mi = 56 by omega) ▸ xmok_56
              ·
                exact (show mi = 57 by omega) ▸ xmok_57
            ·
              rcases Nat.lt_or_ge mi 59 with h59 | h59
              ·
                exact (show mi = 58 by omega) ▸ xmok_58
              ·
                exact (show mi = 59 by omega) ▸ xmok_59
          ·
            rcases Nat.lt_or_ge mi 62 with h62 | h62
            ·
              rcases Nat.lt_or_ge mi 61 with h61 | h61
              ·
                exact (show mi = 60 by omega) ▸ xmok_60
              ·
                exact (show mi = 61 by omega) ▸ xmok_61
            ·
              rcases Nat.lt_or_ge mi 63 with h63 | h63
              ·
                exact (show mi = 62 by omega) ▸ xmok_62
              ·
                exact (show mi = 63 by omega) ▸ xmok_63
  ·
    rcases Nat.lt_or_ge mi 96 with h96 | h96
    ·
      rcases Nat.lt_or_ge mi 80 with h80 | h80
      ·
        rcases Nat.lt_or_ge mi 72 with h72 | h72
        ·
          rcases Nat.lt_or_ge mi 68 with h68 | h68
          ·
            rcases Nat.lt_or_ge mi 66 with h66 | h66
            ·
              rcases Nat.lt_or_ge mi 65 with h65 | h65
              ·
                exact (show mi = 64 by omega) ▸ xmok_64
              ·
                exact (show mi = 65 by omega) ▸ xmok_65
            ·
              rcases Nat.lt_or_ge mi 67 with h67 | h67
              ·
                exact (show mi = 66 by omega) ▸ xmok_66
              ·
                exact (show mi = 67 by omega) ▸ xmok_67
          ·
            rcases Nat.lt_or_ge mi 70 with h70 | h70
            ·
              rcases Nat.lt_or_ge mi 69 with h69 | h69
              ·
                exact (show mi = 68 by omega) ▸ xmok_68
              ·
                exact (show mi = 69 by omega) ▸ xmok_69
            ·
              rcases Nat.lt_or_ge mi 71 with h71 | h71
              ·
                exact (show mi = 70 by omega) ▸ xmok_70
              ·
                exact (show mi = 71 by omega) ▸ xmok_71
        ·
          rcases Nat.lt_or_ge mi 76 with h76 | h76
          ·
            rcases Nat.lt_or_ge mi 74 with h74 | h74
            ·
              rcases Nat.lt_or_ge mi 73 with h73 | h73
              ·
                exact (show mi = 72 by omega) ▸ xmok_72
              ·
                exact (show mi = 73 by omega) ▸ xmok_73
            ·
              rcases Nat.lt_or_ge mi 75 with h75 | h75
              ·
                exact (show mi = 74 by omega) ▸ xmok_74
              ·
                exact (show mi = 75 by omega) ▸ xmok_75
          ·
            rcases Nat.lt_or_ge mi 78 with h78 | h78
            ·
              rcases Nat.lt_or_ge mi 77 with h77 | h77
              ·
                exact (show mi = 76 by omega) ▸ xmok_76
              ·
                exact (show mi = 77 by omega) ▸ xmok_77
            ·
              rcases Nat.lt_or_ge mi 79 with h79 | h79
              ·
                exact (show mi = 78 by omega) ▸ xmok_78
              ·
                exact (show mi = 79 by omega) ▸ xmok_79
      ·
        rcases Nat.lt_or_ge mi 88 with h88 | h88
        ·
          rcases Nat.lt_or_ge mi 84 with h84 | h84
          ·
            rcases Nat.lt_or_ge mi 82 with h82 | h82
            ·
              rcases Nat.lt_or_ge mi 81 with h81 | h81
              ·
                exact (show mi = 80 by omega) ▸ xmok_80
              ·
                exact (show mi = 81 by omega) ▸ xmok_81
            ·
              rcases Nat.lt_or_ge mi 83 with h83 | h83
              ·
                exact (show mi = 82 by omega) ▸ xmok_82
              ·
                exact (show mi = 83 by omega) ▸ xmok_83
          ·
            rcases Nat.lt_or_ge mi 86 with h86 | h86
            ·
              rcases Nat.lt_or_ge mi 85 with h85 | h85
              ·
                exact (show mi = 84 by omega) ▸ xmok_84
              ·
                exact (show mi = 85 by omega) ▸ xmok_85
            ·
              rcases Nat.lt_or_ge mi 87 with h87 | h87
              ·
                exact (show mi = 86 by omega) ▸ xmok_86
              ·
                exact (show mi = 87 by omega) ▸ xmok_87
        ·
          rcases Nat.lt_or_ge mi 92 with h92 | h92
          ·
            rcases Nat.lt_or_ge mi 90 with h90 | h90
            ·
              rcases Nat.lt_or_ge mi 89 with h89 | h89
              ·
                exact (show mi = 88 by omega) ▸ xmok_88
              ·
                exact (show mi = 89 by omega) ▸ xmok_89
            ·
              rcases Nat.lt_or_ge mi 91 with h91 | h91
              ·
                exact (show mi = 90 by omega) ▸ xmok_90
              ·
                exact (show mi = 91 by omega) ▸ xmok_91
          ·
            rcases Nat.lt_or_ge mi 94 with h94 | h94
            ·
              rcases Nat.lt_or_ge mi 93 with h93 | h93
              ·
                exact (show mi = 92 by omega) ▸ xmok_92
              ·
                exact (show mi = 93 by omega) ▸ xmok_93
            ·
              rcases Nat.lt_or_ge mi 95 with h95 | h95
              ·
                exact (show mi = 94 by omega) ▸ xmok_94
              ·
                exact (show mi = 95 by omega) ▸ xmok_95
    ·
      rcases Nat.lt_or_ge mi 112 with h112 | h112
      ·
        rcases Nat.lt_or_ge mi 104 with h104 | h104
        ·
          rcases Nat.lt_or_ge mi 100 with h100 | h100
          ·
            rcases Nat.lt_or_ge mi 98 with h98 | h98
            ·
              rcases Nat.lt_or_ge mi 97 with h97 | h97
              ·
                exact (show mi = 96 by omega) ▸ xmok_96
              ·
                exact (show mi = 97 by omega) ▸ xmok_97
            ·
              rcases Nat.lt_or_ge mi 99 with h99 | h99
              ·
                exact (show mi = 98 by omega) ▸ xmok_98
              ·
                exact (show mi = 99 by omega) ▸ xmok_99
          ·
            rcases Nat.lt_or_ge mi 102 with h102 | h102
            ·
              rcases Nat.lt_or_ge mi 101 with h101 | h101
              ·
                exact (show mi = 100 by omega) ▸ xmok_100
              ·
                exact (show mi = 101 by omega) ▸ xmok_101
            ·
              rcases Nat.lt_or_ge mi 103 with h103 | h103
              ·
                exact (show mi = 102 by omega) ▸ xmok_102
              ·
                exact (show mi = 103 by omega) ▸ xmok_103
        ·
          rcases Nat.lt_or_ge mi 108 with h108 | h108
          ·
            rcases Nat.lt_or_ge mi 106 with h106 | h106
            ·
              rcases Nat.lt_or_ge mi 105 with h105 | h105
              ·
                exact (show mi = 104 by omega) ▸ xmok_104
              ·
                exact (show mi = 105 by omega) ▸ xmok_105
            ·
              rcases Nat.lt_or_ge mi 107 with h107 | h107
              ·
                exact (show mi = 106 by omega) ▸ xmok_106
              ·
                exact (show mi = 107 by omega) ▸ xmok_107
          ·
            rcases Nat.lt_or_ge mi 110 with h110 | h110
            ·
              rcases Nat.lt_or_ge mi 109 with h109 | h109
              ·
                exact (show mi = 108 by omega) ▸ xmok_108
              ·
                exact (show mi = 109 by omega) ▸ xmok_109
            ·
              rcases Nat.lt_or_ge mi 111 with h111 | h111
              ·
                exact (show mi = 110 by omega) ▸ xmok_110
              ·
                exact (show mi = 111 by omega) ▸ xmok_111
      ·
        rcases Nat.lt_or_ge mi 120 with h120 | h120
        ·
          rcases Nat.lt_or_ge mi 116 with h116 | h116
          ·
            rcases Nat.lt_or_ge mi 114 with h114 | h114
            ·
              rcases Nat.lt_or_ge mi 113 with h113 | h113
              ·
                exact (show mi = 112 by omega) ▸ xmok_112
              ·
                exact (show mi = 113 by omega) ▸ xmok_113
            ·
              rcases Nat.lt_or_ge mi 115 with h115 | h115
              ·
                exact (show mi = 114 by omega) ▸ xmok_114
              ·
                exact (show mi = 115 by omega) ▸ xmok_115
          ·
            rcases Nat.lt_or_ge mi 118 with h118 | h118
            ·
              rcases Nat.lt_or_ge mi 117 with h117 | h117
              ·
                exact (show mi = 116 by omega) ▸ xmok_116
              ·
                exact (show mi = 117 by omega) ▸ xmok_117
            ·
              rcases Nat.lt_or_ge mi 119 with h119 | h119
              ·
                exact (show mi = 118 by omega) ▸ xmok_118
              ·
                exact (show mi = 119 by omega) ▸ xmok_119
        ·
          rcases Nat.lt_or_ge mi 124 with h124 | h124
          ·
            rcases Nat.lt_or_ge mi 122 with h122 | h122
            ·
              rcases Nat.lt_or_ge mi 121 with h121 | h121
              ·
                exact (show mi = 120 by omega) ▸ xmok_120
              ·
                exact (show mi = 121 by omega) ▸ xmok_121
            ·
              rcases Nat.lt_or_ge mi 123 with h123 | h123
              ·
                exact (show mi = 122 by omega) ▸ xmok_122
              ·
                exact (show mi = 123 by omega) ▸ xmok_123
          ·
            rcases Nat.lt_or_ge mi 126 with h126 | h126
            ·
              rcases Nat.lt_or_ge mi 125 with h125 | h125
              ·
                exact (show mi = 124 by omega) ▸ xmok_124
              ·
                exact (show mi = 125 by omega) ▸ xmok_125
            ·
              rcases Nat.lt_or_ge mi 127 with h127 | h127
              ·
                exact (show mi = 126 by omega) ▸ xmok_126
              ·
                exact (show mi = 127 by omega) ▸ xmok_127
theorem xmco (mi : Nat) (h : mi < 128) (n14 : mi ≠ 14) (n47 : mi ≠ 47) : xmwi mi 0 = some (.code (xy mi) (xb mi) (xmi mi 0) (xret mi)) := by
  rcases Nat.lt_or_ge mi 64 with h64 | h64
  ·
    rcases Nat.lt_or_ge mi 32 with h32 | h32
    ·
      rcases Nat.lt_or_ge mi 16 with h16 | h16
      ·
        rcases Nat.lt_or_ge mi 8 with h8 | h8
        ·
          rcases Nat.lt_or_ge mi 4 with h4 | h4
          ·
            rcases Nat.lt_or_ge mi 2 with h2 | h2
            ·
              rcases Nat.lt_or_ge mi 1 with h1 | h1
              ·
                exact (show mi = 0 by omega) ▸ xmco_0
              ·
                exact (show mi = 1 by omega) ▸ xmco_1
            ·
              rcases Nat.lt_or_ge mi 3 with h3 | h3
              ·
                exact (show mi = 2 by omega) ▸ xmco_2
              ·
                exact (show mi = 3 by omega) ▸ xmco_3
          ·
            rcases Nat.lt_or_ge mi 6 with h6 | h6
            ·
              rcases Nat.lt_or_ge mi 5 with h5 | h5
              ·
                exact (show mi = 4 by omega) ▸ xmco_4
              ·
                exact (show mi = 5 by omega) ▸ xmco_5
            ·
              rcases Nat.lt_or_ge mi 7 with h7 | h7
              ·
                exact (show mi = 6 by omega) ▸ xmco_6
              ·
                exact (show mi = 7 by omega) ▸ xmco_7
        ·
          rcases Nat.lt_or_ge mi 12 with h12 | h12
          ·
            rcases Nat.lt_or_ge mi 10 with h10 | h10
            ·
              rcases Nat.lt_or_ge mi 9 with h9 | h9
              ·
                exact (show mi = 8 by omega) ▸ xmco_8
              ·
                exact (show mi = 9 by omega) ▸ xmco_9
            ·
              rcases Nat.lt_or_ge mi 11 with h11 | h11
              ·
                exact (show mi = 10 by omega) ▸ xmco_10
              ·
                exact (show mi = 11 by omega) ▸ xmco_11
          ·
            rcases Nat.lt_or_ge mi 14 with h14 | h14
            ·
              rcases Nat.lt_or_ge mi 13 with h13 | h13
              ·
                exact (show mi = 12 by omega) ▸ xmco_12
              ·
                exact (show mi = 13 by omega) ▸ xmco_13
            ·
              rcases Nat.lt_or_ge mi 15 with h15 | h15
              ·
                exact absurd (show mi = 14 by omega) n14
              ·
                exact (show mi = 15 by omega) ▸ xmco_15
      ·
        rcases Nat.lt_or_ge mi 24 with h24 | h24
        ·
          rcases Nat.lt_or_ge mi 20 with h20 | h20
          ·
            rcases Nat.lt_or_ge mi 18 with h18 | h18
            ·
              rcases Nat.lt_or_ge mi 17 with h17 | h17
              ·
                exact (show mi = 16 by omega) ▸ xmco_16
              ·
                exact (show mi = 17 by omega) ▸ xmco_17
            ·
              rcases Nat.lt_or_ge mi 19 with h19 | h19
              ·
                exact (show mi = 18 by omega) ▸ xmco_18
              ·
                exact (show mi = 19 by omega) ▸ xmco_19
          ·
            rcases Nat.lt_or_ge mi 22 with h22 | h22
            ·
              rcases Nat.lt_or_ge mi 21 with h21 | h21
              ·
                exact (show mi = 20 by omega) ▸ xmco_20
              ·
                exact (show mi = 21 by omega) ▸ xmco_21
            ·
              rcases Nat.lt_or_ge mi 23 with h23 | h23
              ·
                exact (show mi = 22 by omega) ▸ xmco_22
              ·
                exact (show mi = 23 by omega) ▸ xmco_23
        ·
          rcases Nat.lt_or_ge mi 28 with h28 | h28
          ·
            rcases Nat.lt_or_ge mi 26 with h26 | h26
            ·
              rcases Nat.lt_or_ge mi 25 with h25 | h25
              ·
                exact (show mi = 24 by omega) ▸ xmco_24
              ·
                exact (show mi = 25 by omega) ▸ xmco_25
            ·
              rcases Nat.lt_or_ge mi 27 with h27 | h27
              ·
                exact (show mi = 26 by omega) ▸ xmco_26
              ·
                exact (show mi = 27 by omega) ▸ xmco_27
          ·
            rcases Nat.lt_or_ge mi 30 with h30 | h30
            ·
              rcases Nat.lt_or_ge mi 29 with h29 | h29
              ·
                exact (show mi = 28 by omega) ▸ xmco_28
              ·
                exact (show mi = 29 by omega) ▸ xmco_29
            ·
              rcases Nat.lt_or_ge mi 31 with h31 | h31
              ·
                exact (show mi = 30 by omega) ▸ xmco_30
              ·
                exact (show mi = 31 by omega) ▸ xmco_31
    ·
      rcases Nat.lt_or_ge mi 48 with h48 | h48
      ·
        rcases Nat.lt_or_ge mi 40 with h40 | h40
        ·
          rcases Nat.lt_or_ge mi 36 with h36 | h36
          ·
            rcases Nat.lt_or_ge mi 34 with h34 | h34
            ·
              rcases Nat.lt_or_ge mi 33 with h33 | h33
              ·
                exact (show mi = 32 by omega) ▸ xmco_32
              ·
                exact (show mi = 33 by omega) ▸ xmco_33
            ·
              rcases Nat.lt_or_ge mi 35 with h35 | h35
              ·
                exact (show mi = 34 by omega) ▸ xmco_34
              ·
                exact (show mi = 35 by omega) ▸ xmco_35
          ·
            rcases Nat.lt_or_ge mi 38 with h38 | h38
            ·
              rcases Nat.lt_or_ge mi 37 with h37 | h37
              ·
                exact (show mi = 36 by omega) ▸ xmco_36
              ·
                exact (show mi = 37 by omega) ▸ xmco_37
            ·
              rcases Nat.lt_or_ge mi 39 with h39 | h39
              ·
                exact (show mi = 38 by omega) ▸ xmco_38
              ·
                exact (show mi = 39 by omega) ▸ xmco_39
        ·
          rcases Nat.lt_or_ge mi 44 with h44 | h44
          ·
            rcases Nat.lt_or_ge mi 42 with h42 | h42
            ·
              rcases Nat.lt_or_ge mi 41 with h41 | h41
              ·
                exact (show mi = 40 by omega) ▸ xmco_40
              ·
                exact (show mi = 41 by omega) ▸ xmco_41
            ·
              rcases Nat.lt_or_ge mi 43 with h43 | h43
              ·
                exact (show mi = 42 by omega) ▸ xmco_42
              ·
                exact (show mi = 43 by omega) ▸ xmco_43
          ·
            rcases Nat.lt_or_ge mi 46 with h46 | h46
            ·
              rcases Nat.lt_or_ge mi 45 with h45 | h45
              ·
                exact (show mi = 44 by omega) ▸ xmco_44
              ·
                exact (show mi = 45 by omega) ▸ xmco_45
            ·
              rcases Nat.lt_or_ge mi 47 with h47 | h47
              ·
                exact (show mi = 46 by omega) ▸ xmco_46
              ·
                exact absurd (show mi = 47 by omega) n47
      ·
        rcases Nat.lt_or_ge mi 56 with h56 | h56
        ·
          rcases Nat.lt_or_ge mi 52 with h52 | h52
          ·
            rcases Nat.lt_or_ge mi 50 with h50 | h50
            ·
              rcases Nat.lt_or_ge mi 49 with h49 | h49
              ·
                exact (show mi = 48 by omega) ▸ xmco_48
              ·
                exact (show mi = 49 by omega) ▸ xmco_49
            ·
              rcases Nat.lt_or_ge mi 51 with h51 | h51
              ·
                exact (show mi = 50 by omega) ▸ xmco_50
              ·
                exact (show mi = 51 by omega) ▸ xmco_51
          ·
            rcases Nat.lt_or_ge mi 54 with h54 | h54
            ·
              rcases Nat.lt_or_ge mi 53 with h53 | h53
              ·
                exact (show mi = 52 by omega) ▸ xmco_52
              ·
                exact (show mi = 53 by omega) ▸ xmco_53
            ·
              rcases Nat.lt_or_ge mi 55 with h55 | h55
              ·
                exact (show mi = 54 by omega) ▸ xmco_54
              ·
                exact (show mi = 55 by omega) ▸ xmco_55
        ·
          rcases Nat.lt_or_ge mi 60 with h60 | h60
          ·
            rcases Nat.lt_or_ge mi 58 with h58 | h58
            ·
              rcases Nat.lt_or_ge mi 57 with h57 | h57
              ·
                exact (show mi = 56 by omega) ▸ xmco_56
              ·
                exact (show mi = 57 by omega) ▸ xmco_57
            ·
              rcases Nat.lt_or_ge mi 59 with h59 | h59
              ·
                exact (show mi = 58 by omega) ▸ xmco_58
              ·
                exact (show mi = 59 by omega) ▸ xmco_59
          ·
            rcases Nat.lt_or_ge mi 62 with h62 | h62
            ·
              rcases Nat.lt_or_ge mi 61 with h61 | h61
              ·
                exact (show mi = 60 by omega) ▸ xmco_60
              ·
                exact (show mi = 61 by omega) ▸ xmco_61
            ·
              rcases Nat.lt_or_ge mi 63 with h63 | h63
              ·
                exact (show mi = 62 by omega) ▸ xmco_62
              ·
                exact (show mi = 63 by omega) ▸ xmco_63
  ·
    rcases Nat.lt_or_ge mi 96 with h96 | h96
    ·
      rcases Nat.lt_or_ge mi 80 with h80 | h80
      ·
        rcases Nat.lt_or_ge mi 72 with h72 | h72
        ·
          rcases Nat.lt_or_ge mi 68 with h68 | h68
          ·
            rcases Nat.lt_or_ge mi 66 with h66 | h66
            ·
              rcases Nat.lt_or_ge mi 65 with h65 | h65
              ·
                exact (show mi = 64 by omega) ▸ xmco_64
              ·
                exact (show mi = 65 by omega) ▸ xmco_65
            ·
              rcases Nat.lt_or_ge mi 67 with h67 | h67
              ·
                exact (show mi = 66 by omega) ▸ xmco_66
              ·
                exact (show mi = 67 by omega) ▸ xmco_67
          ·
            rcases Nat.lt_or_ge mi 70 with h70 | h70
            ·
              rcases Nat.lt_or_ge mi 69 with h69 | h69
              ·
                exact (show mi = 68 by omega) ▸ xmco_68
              ·
                exact (show mi = 69 by omega) ▸ xmco_69
            ·
              rcases Nat.lt_or_ge mi 71 with h71 | h71
              ·
                exact (show mi = 70 by omega) ▸ xmco_70
              ·
                exact (show mi = 71 by omega) ▸ xmco_71
        ·
          rcases Nat.lt_or_ge mi 76 with h76 | h76
          ·
            rcases Nat.lt_or_ge mi 74 with h74 | h74
            ·
              rcases Nat.lt_or_ge mi 73 with h73 | h73
              ·
                exact (show mi = 72 by omega) ▸ xmco_72
              ·
                exact (show mi = 73 by omega) ▸ xmco_73
            ·
              rcases Nat.lt_or_ge mi 75 with h75 | h75
              ·
                exact (show mi = 74 by omega) ▸ xmco_74
              ·
                exact (show mi = 75 by omega) ▸ xmco_75
          ·
            rcases Nat.lt_or_ge mi 78 with h78 | h78
            ·
              rcases Nat.lt_or_ge mi 77 with h77 | h77
              ·
                exact (show mi = 76 by omega) ▸ xmco_76
              ·
                exact (show mi = 77 by omega) ▸ xmco_77
            ·
              rcases Nat.lt_or_ge mi 79 with h79 | h79
              ·
                exact (show mi = 78 by omega) ▸ xmco_78
              ·
                exact (show mi = 79 by omega) ▸ xmco_79
      ·
        rcases Nat.lt_or_ge mi 88 with h88 | h88
        ·
          rcases Nat.lt_or_ge mi 84 with h84 | h84
          ·
            rcases Nat.lt_or_ge mi 82 with h82 | h82
            ·
              rcases Nat.lt_or_ge mi 81 with h81 | h81
              ·
                exact (show mi = 80 by omega) ▸ xmco_80
              ·
                exact (show mi = 81 by omega) ▸ xmco_81
            ·
              rcases Nat.lt_or_ge mi 83 with h83 | h83
              ·
                exact (show mi = 82 by omega) ▸ xmco_82
              ·
                exact (show mi = 83 by omega) ▸ xmco_83
          ·
            rcases Nat.lt_or_ge mi 86 with h86 | h86
            ·
              rcases Nat.lt_or_ge mi 85 with h85 | h85
              ·
                exact (show mi = 84 by omega) ▸ xmco_84
              ·
                exact (show mi = 85 by omega) ▸ xmco_85
            ·
              rcases Nat.lt_or_ge mi 87 with h87 | h87
              ·
                exact (show mi = 86 by omega) ▸ xmco_86
              ·
                exact (show mi = 87 by omega) ▸ xmco_87
        ·
          rcases Nat.lt_or_ge mi 92 with h92 | h92
          ·
            rcases Nat.lt_or_ge mi 90 with h90 | h90
            ·
              rcases Nat.lt_or_ge mi 89 with h89 | h89
              ·
                exact (show mi = 88 by omega) ▸ xmco_88
              ·
                exact (show mi = 89 by omega) ▸ xmco_89
            ·
              rcases Nat.lt_or_ge mi 91 with h91 | h91
              ·
                exact (show mi = 90 by omega) ▸ xmco_90
              ·
                exact (show mi = 91 by omega) ▸ xmco_91
          ·
            rcases Nat.lt_or_ge mi 94 with h94 | h94
            ·
              rcases Nat.lt_or_ge mi 93 with h93 | h93
              ·
                exact (show mi = 92 by omega) ▸ xmco_92
              ·
                exact (show mi = 93 by omega) ▸ xmco_93
            ·
              rcases Nat.lt_or_ge mi 95 with h95 | h95
              ·
                exact (show mi = 94 by omega) ▸ xmco_94
              ·
                exact (show mi = 95 by omega) ▸ xmco_95
    ·
      rcases Nat.lt_or_ge mi 112 with h112 | h112
      ·
        rcases Nat.lt_or_ge mi 104 with h104 | h104
        ·
          rcases Nat.lt_or_ge mi 100 with h100 | h100
          ·
            rcases Nat.lt_or_ge mi 98 with h98 | h98
            ·
              rcases Nat.lt_or_ge mi 97 with h97 | h97
              ·
                exact (show mi = 96 by omega) ▸ xmco_96
              ·
                exact (show mi = 97 by omega) ▸ xmco_97
            ·
              rcases Nat.lt_or_ge mi 99 with h99 | h99
              ·
                exact (show mi = 98 by omega) ▸ xmco_98
              ·
                exact (show mi = 99 by omega) ▸ xmco_99
          ·
            rcases Nat.lt_or_ge mi 102 with h102 | h102
            ·
              rcases Nat.lt_or_ge mi 101 with h101 | h101
              ·
                exact (show mi = 100 by omega) ▸ xmco_100
              ·
                exact (show mi = 101 by omega) ▸ xmco_101
            ·
              rcases Nat.lt_or_ge mi 103 with h103 | h103
              ·
                exact (show mi = 102 by omega) ▸ xmco_102
              ·
                exact (show mi = 103 by omega) ▸ xmco_103
        ·
          rcases Nat.lt_or_ge mi 108 with h108 | h108
          ·
            rcases Nat.lt_or_ge mi 106 with h106 | h106
            ·
              rcases Nat.lt_or_ge mi 105 with h105 | h105
              ·
                exact (show mi = 104 by omega) ▸ xmco_104
              ·
                exact (show mi = 105 by omega) ▸ xmco_105
            ·
              rcases Nat.lt_or_ge mi 107 with h107 | h107
              ·
                exact (show mi = 106 by omega) ▸ xmco_106
              ·
                exact (show mi = 107 by omega) ▸ xmco_107
          ·
            rcases Nat.lt_or_ge mi 110 with h110 | h110
            ·
              rcases Nat.lt_or_ge mi 109 with h109 | h109
              ·
                exact (show mi = 108 by omega) ▸ xmco_108
              ·
                exact (show mi = 109 by omega) ▸ xmco_109
            ·
              rcases Nat.lt_or_ge mi 111 with h111 | h111
              ·
                exact (show mi = 110 by omega) ▸ xmco_110
              ·
                exact (show mi = 111 by omega) ▸ xmco_111
      ·
        rcases Nat.lt_or_ge mi 120 with h120 | h120
        ·
          rcases Nat.lt_or_ge mi 116 with h116 | h116
          ·
            rcases Nat.lt_or_ge mi 114 with h114 | h114
            ·
              rcases Nat.lt_or_ge mi 113 with h113 | h113
              ·
                exact (show mi = 112 by omega) ▸ xmco_112
              ·
                exact (show mi = 113 by omega) ▸ xmco_113
            ·
              rcases Nat.lt_or_ge mi 115 with h115 | h115
              ·
                exact (show mi = 114 by omega) ▸ xmco_114
              ·
                exact (show mi = 115 by omega) ▸ xmco_115
          ·
            rcases Nat.lt_or_ge mi 118 with h118 | h118
            ·
              rcases Nat.lt_or_ge mi 117 with h117 | h117
              ·
                exact (show mi = 116 by omega) ▸ xmco_116
              ·
                exact (show mi = 117 by omega) ▸ xmco_117
            ·
              rcases Nat.lt_or_ge mi 119 with h119 | h119
              ·
                exact (show mi = 118 by omega) ▸ xmco_118
              ·
                exact (show mi = 119 by omega) ▸ xmco_119
        ·
          rcases Nat.lt_or_ge mi 124 with h124 | h124
          ·
            rcases Nat.lt_or_ge mi 122 with h122 | h122
            ·
              rcases Nat.lt_or_ge mi 121 with h121 | h121
              ·
                exact (show mi = 120 by omega) ▸ xmco_120
              ·
                exact (show mi = 121 by omega) ▸ xmco_121
            ·
              rcases Nat.lt_or_ge mi 123 with h123 | h123
              ·
                exact (show mi = 122 by omega) ▸ xmco_122
              ·
                exact (show mi = 123 by omega) ▸ xmco_123
          ·
            rcases Nat.lt_or_ge mi 126 with h126 | h126
            ·
              rcases Nat.lt_or_ge mi 125 with h125 | h125
              ·
                exact (show mi = 124 by omega) ▸ xmco_124
              ·
                exact (show mi = 125 by omega) ▸ xmco_125
            ·
              rcases Nat.lt_or_ge mi 127 with h127 | h127
              ·
                exact (show mi = 126 by omega) ▸ xmco_126
              ·
                exact (show mi = 127 by omega) ▸ xmco_127
theorem xok_all (mi : Nat) (h : mi < 129) : xokm mi = true := by
  rcases Nat.lt_or_ge mi 64 with h64 | h64
  ·
    rcases Nat.lt_or_ge mi 32 with h32 | h32
    ·
      rcases Nat.lt_or_ge mi 16 with h16 | h16
      ·
        rcases Nat.lt_or_ge mi 8 with h8 | h8
        ·
          rcases Nat.lt_or_ge mi 4 with h4 | h4
          ·
            rcases Nat.lt_or_ge mi 2 with h2 | h2
            ·
              rcases Nat.lt_or_ge mi 1 with h1 | h1
              ·
                exact (show mi = 0 by omega) ▸ xokm_0
              ·
                exact (show mi = 1 by omega) ▸ xokm_1
            ·
              rcases Nat.lt_or_ge mi 3 with h3 | h3
              ·
                exact (show mi = 2 by omega) ▸ xokm_2
              ·
                exact (show mi = 3 by omega) ▸ xokm_3
          ·
            rcases Nat.lt_or_ge mi 6 with h6 | h6
            ·
              rcases Nat.lt_or_ge mi 5 with h5 | h5
              ·
                exact (show mi = 4 by omega) ▸ xokm_4
              ·
                exact (show mi = 5 by omega) ▸ xokm_5
            ·
              rcases Nat.lt_or_ge mi 7 with h7 | h7
              ·
                exact (show mi = 6 by omega) ▸ xokm_6
              ·
                exact (show mi = 7 by omega) ▸ xokm_7
        ·
          rcases Nat.lt_or_ge mi 12 with h12 | h12
          ·
            rcases Nat.lt_or_ge mi 10 with h10 | h10
            ·
              rcases Nat.lt_or_ge mi 9 with h9 | h9
              ·
                exact (show mi = 8 by omega) ▸ xokm_8
              ·
                exact (show mi = 9 by omega) ▸ xokm_9
            ·
              rcases Nat.lt_or_ge mi 11 with h11 | h11
              ·
                exact (show mi = 10 by omega) ▸ xokm_10
              ·
                exact (show mi = 11 by omega) ▸ xokm_11
          ·
            rcases Nat.lt_or_ge mi 14 with h14 | h14
            ·
              rcases Nat.lt_or_ge mi 13 with h13 | h13
              ·
                exact (show mi = 12 by omega) ▸ xokm_12
              ·
                exact (show mi = 13 by omega) ▸ xokm_13
            ·
              rcases Nat.lt_or_ge mi 15 with h15 | h15
              ·
                exact (show mi = 14 by omega) ▸ xokm_14
              ·
                exact (show mi = 15 by omega) ▸ xokm_15
      ·
        rcases Nat.lt_or_ge mi 24 with h24 | h24
        ·
          rcases Nat.lt_or_ge mi 20 with h20 | h20
          ·
            rcases Nat.lt_or_ge mi 18 with h18 | h18
            ·
              rcases Nat.lt_or_ge mi 17 with h17 | h17
              ·
                exact (show mi = 16 by omega) ▸ xokm_16
              ·
                exact (show mi = 17 by omega) ▸ xokm_17
            ·
              rcases Nat.lt_or_ge mi 19 with h19 | h19
              ·
                exact (show mi = 18 by omega) ▸ xokm_18
              ·
                exact (show mi = 19 by omega) ▸ xokm_19
          ·
            rcases Nat.lt_or_ge mi 22 with h22 | h22
            ·
              rcases Nat.lt_or_ge mi 21 with h21 | h21
              ·
                exact (show mi = 20 by omega) ▸ xokm_20
              ·
                exact (show mi = 21 by omega) ▸ xokm_21
            ·
              rcases Nat.lt_or_ge mi 23 with h23 | h23
              ·
                exact (show mi = 22 by omega) ▸ xokm_22
              ·
                exact (show mi = 23 by omega) ▸ xokm_23
        ·
          rcases Nat.lt_or_ge mi 28 with h28 | h28
          ·
            rcases Nat.lt_or_ge mi 26 with h26 | h26
            ·
              rcases Nat.lt_or_ge mi 25 with h25 | h25
              ·
                exact (show mi = 24 by omega) ▸ xokm_24
              ·
                exact (show mi = 25 by omega) ▸ xokm_25
            ·
              rcases Nat.lt_or_ge mi 27 with h27 | h27
              ·
                exact (show mi = 26 by omega) ▸ xokm_26
              ·
                exact (show mi = 27 by omega) ▸ xokm_27
          ·
            rcases Nat.lt_or_ge mi 30 with h30 | h30
            ·
              rcases Nat.lt_or_ge mi 29 with h29 | h29
              ·
                exact (show mi = 28 by omega) ▸ xokm_28
              ·
                exact (show mi = 29 by omega) ▸ xokm_29
            ·
              rcases Nat.lt_or_ge mi 31 with h31 | h31
              ·
                exact (show mi = 30 by omega) ▸ xokm_30
              ·
                exact (show mi = 31 by omega) ▸ xokm_31
    ·
      rcases Nat.lt_or_ge mi 48 with h48 | h48
      ·
        rcases Nat.lt_or_ge mi 40 with h40 | h40
        ·
          rcases Nat.lt_or_ge mi 36 with h36 | h36
          ·
            rcases Nat.lt_or_ge mi 34 with h34 | h34
            ·
              rcases Nat.lt_or_ge mi 33 with h33 | h33
              ·
                exact (show mi = 32 by omega) ▸ xokm_32
              ·
                exact (show mi = 33 by omega) ▸ xokm_33
            ·
              rcases Nat.lt_or_ge mi 35 with h35 | h35
              ·
                exact (show mi = 34 by omega) ▸ xokm_34
              ·
                exact (show mi = 35 by omega) ▸ xokm_35
          ·
            rcases Nat.lt_or_ge mi 38 with h38 | h38
            ·
              rcases Nat.lt_or_ge mi 37 with h37 | h37
              ·
                exact (show mi = 36 by omega) ▸ xokm_36
              ·
                exact (show mi = 37 by omega) ▸ xokm_37
            ·
              rcases Nat.lt_or_ge mi 39 with h39 | h39
              ·
                exact (show mi = 38 by omega) ▸ xokm_38
              ·
                exact (show mi = 39 by omega) ▸ xokm_39
        ·
          rcases Nat.lt_or_ge mi 44 with h44 | h44
          ·
            rcases Nat.lt_or_ge mi 42 with h42 | h42
            ·
              rcases Nat.lt_or_ge mi 41 with h41 | h41
              ·
                exact (show mi = 40 by omega) ▸ xokm_40
              ·
                exact (show mi = 41 by omega) ▸ xokm_41
            ·
              rcases Nat.lt_or_ge mi 43 with h43 | h43
              ·
                exact (show mi = 42 by omega) ▸ xokm_42
              ·
                exact (show mi = 43 by omega) ▸ xokm_43
          ·
            rcases Nat.lt_or_ge mi 46 with h46 | h46
            ·
              rcases Nat.lt_or_ge mi 45 with h45 | h45
              ·
                exact (show mi = 44 by omega) ▸ xokm_44
              ·
                exact (show mi = 45 by omega) ▸ xokm_45
            ·
              rcases Nat.lt_or_ge mi 47 with h47 | h47
              ·
                exact (show mi = 46 by omega) ▸ xokm_46
              ·
                exact (show mi = 47 by omega) ▸ xokm_47
      ·
        rcases Nat.lt_or_ge mi 56 with h56 | h56
        ·
          rcases Nat.lt_or_ge mi 52 with h52 | h52
          ·
            rcases Nat.lt_or_ge mi 50 with h50 | h50
            ·
              rcases Nat.lt_or_ge mi 49 with h49 | h49
              ·
                exact (show mi = 48 by omega) ▸ xokm_48
              ·
                exact (show mi = 49 by omega) ▸ xokm_49
            ·
              rcases Nat.lt_or_ge mi 51 with h51 | h51
              ·
                exact (show mi = 50 by omega) ▸ xokm_50
              ·
                exact (show mi = 51 by omega) ▸ xokm_51
          ·
            rcases Nat.lt_or_ge mi 54 with h54 | h54
            ·
              rcases Nat.lt_or_ge mi 53 with h53 | h53
              ·
                exact (show mi = 52 by omega) ▸ xokm_52
              ·
                exact (show mi = 53 by omega) ▸ xokm_53
            ·
              rcases Nat.lt_or_ge mi 55 with h55 | h55
              ·
                exact (show mi = 54 by omega) ▸ xokm_54
              ·
                exact (show mi = 55 by omega) ▸ xokm_55
        ·
          rcases Nat.lt_or_ge mi 60 with h60 | h60
          ·
            rcases Nat.lt_or_ge mi 58 with h58 | h58
            ·
              rcases Nat.lt_or_ge mi 57 with h57 | h57
              ·
                exact (show mi = 56 by omega) ▸ xokm_56
              ·
                exact (show mi = 57 by omega) ▸ xokm_57
            ·
              rcases Nat.lt_or_ge mi 59 with h59 | h59
              ·
                exact (show mi = 58 by omega) ▸ xokm_58
              ·
                exact (show mi = 59 by omega) ▸ xokm_59
          ·
            rcases Nat.lt_or_ge mi 62 with h62 | h62
            ·
              rcases Nat.lt_or_ge mi 61 with h61 | h61
              ·
                exact (show mi = 60 by omega) ▸ xokm_60
              ·
                exact (show mi = 61 by omega) ▸ xokm_61
            ·
              rcases Nat.lt_or_ge mi 63 with h63 | h63
              ·
                exact (show mi = 62 by omega) ▸ xokm_62
              ·
                exact (show mi = 63 by omega) ▸ xokm_63
  ·
    rcases Nat.lt_or_ge mi 96 with h96 | h96
    ·
      rcases Nat.lt_or_ge mi 80 with h80 | h80
      ·
        rcases Nat.lt_or_ge mi 72 with h72 | h72
        ·
          rcases Nat.lt_or_ge mi 68 with h68 | h68
          ·
            rcases Nat.lt_or_ge mi 66 with h66 | h66
            ·
              rcases Nat.lt_or_ge mi 65 with h65 | h65
              ·
                exact (show mi = 64 by omega) ▸ xokm_64
              ·
                exact (show mi = 65 by omega) ▸ xokm_65
            ·
              rcases Nat.lt_or_ge mi 67 with h67 | h67
              ·
                exact (show mi = 66 by omega) ▸ xokm_66
              ·
                exact (show mi = 67 by omega) ▸ xokm_67
          ·
            rcases Nat.lt_or_ge mi 70 with h70 | h70
            ·
              rcases Nat.lt_or_ge mi 69 with h69 | h69
              ·
                exact (show mi = 68 by omega) ▸ xokm_68
              ·
                exact (show mi = 69 by omega) ▸ xokm_69
            ·
              rcases Nat.lt_or_ge mi 71 with h71 | h71
              ·
                exact (show mi = 70 by omega) ▸ xokm_70
              ·
                exact (show mi = 71 by omega) ▸ xokm_71
        ·
          rcases Nat.lt_or_ge mi 76 with h76 | h76
          ·
            rcases Nat.lt_or_ge mi 74 with h74 | h74
            ·
              rcases Nat.lt_or_ge mi 73 with h73 | h73
              ·
                exact (show mi = 72 by omega) ▸ xokm_72
              ·
                exact (show mi = 73 by omega) ▸ xokm_73
            ·
              rcases Nat.lt_or_ge mi 75 with h75 | h75
              ·
                exact (show mi = 74 by omega) ▸ xokm_74
              ·
                exact (show mi = 75 by omega) ▸ xokm_75
          ·
            rcases Nat.lt_or_ge mi 78 with h78 | h78
            ·
              rcases Nat.lt_or_ge mi 77 with h77 | h77
              ·
                exact (show mi = 76 by omega) ▸ xokm_76
              ·
                exact (show mi = 77 by omega) ▸ xokm_77
            ·
              rcases Nat.lt_or_ge mi 79 with h79 | h79
              ·
                exact (show mi = 78 by omega) ▸ xokm_78
              ·
                exact (show mi = 79 by omega) ▸ xokm_79
      ·
        rcases Nat.lt_or_ge mi 88 with h88 | h88
        ·
          rcases Nat.lt_or_ge mi 84 with h84 | h84
          ·
            rcases Nat.lt_or_ge mi 82 with h82 | h82
            ·
              rcases Nat.lt_or_ge mi 81 with h81 | h81
              ·
                exact (show mi = 80 by omega) ▸ xokm_80
              ·
                exact (show mi = 81 by omega) ▸ xokm_81
            ·
              rcases Nat.lt_or_ge mi 83 with h83 | h83
              ·
                exact (show mi = 82 by omega) ▸ xokm_82
              ·
                exact (show mi = 83 by omega) ▸ xokm_83
          ·
            rcases Nat.lt_or_ge mi 86 with h86 | h86
            ·
              rcases Nat.lt_or_ge mi 85 with h85 | h85
              ·
                exact (show mi = 84 by omega) ▸ xokm_84
              ·
                exact (show mi = 85 by omega) ▸ xokm_85
            ·
              rcases Nat.lt_or_ge mi 87 with h87 | h87
              ·
                exact (show mi = 86 by omega) ▸ xokm_86
              ·
                exact (show mi = 87 by omega) ▸ xokm_87
        ·
          rcases Nat.lt_or_ge mi 92 with h92 | h92
          ·
            rcases Nat.lt_or_ge mi 90 with h90 | h90
            ·
              rcases Nat.lt_or_ge mi 89 with h89 | h89
              ·
                exact (show mi = 88 by omega) ▸ xokm_88
              ·
                exact (show mi = 89 by omega) ▸ xokm_89
            ·
              rcases Nat.lt_or_ge mi 91 with h91 | h91
              ·
                exact (show mi = 90 by omega) ▸ xokm_90
              ·
                exact (show mi = 91 by omega) ▸ xokm_91
          ·
            rcases Nat.lt_or_ge mi 94 with h94 | h94
            ·
              rcases Nat.lt_or_ge mi 93 with h93 | h93
              ·
                exact (show mi = 92 by omega) ▸ xokm_92
              ·
                exact (show mi = 93 by omega) ▸ xokm_93
            ·
              rcases Nat.lt_or_ge mi 95 with h95 | h95
              ·
                exact (show mi = 94 by omega) ▸ xokm_94
              ·
                exact (show mi = 95 by omega) ▸ xokm_95
    ·
      rcases Nat.lt_or_ge mi 112 with h112 | h112
      ·
        rcases Nat.lt_or_ge mi 104 with h104 | h104
        ·
          rcases Nat.lt_or_ge mi 100 with h100 | h100
          ·
            rcases Nat.lt_or_ge mi 98 with h98 | h98
            ·
              rcases Nat.lt_or_ge mi 97 with h97 | h97
              ·
                exact (show mi = 96 by omega) ▸ xokm_96
              ·
                exact (show mi = 97 by omega) ▸ xokm_97
            ·
              rcases Nat.lt_or_ge mi 99 with h99 | h99
              ·
                exact (show mi = 98 by omega) ▸ xokm_98
              ·
                exact (show mi = 99 by omega) ▸ xokm_99
          ·
            rcases Nat.lt_or_ge mi 102 with h102 | h102
            ·
              rcases Nat.lt_or_ge mi 101 with h101 | h101
              ·
                exact (show mi = 100 by omega) ▸ xokm_100
              ·
                exact (show mi = 101 by omega) ▸ xokm_101
            ·
              rcases Nat.lt_or_ge mi 103 with h103 | h103
              ·
                exact (show mi = 102 by omega) ▸ xokm_102
              ·
                exact (show mi = 103 by omega) ▸ xokm_103
        ·
          rcases Nat.lt_or_ge mi 108 with h108 | h108
          ·
            rcases Nat.lt_or_ge mi 106 with h106 | h106
            ·
              rcases Nat.lt_or_ge mi 105 with h105 | h105
              ·
                exact (show mi = 104 by omega) ▸ xokm_104
              ·
                exact (show mi = 105 by omega) ▸ xokm_105
            ·
              rcases Nat.lt_or_ge mi 107 with h107 | h107
              ·
                exact (show mi = 106 by omega) ▸ xokm_106
              ·
                exact (show mi = 107 by omega) ▸ xokm_107
          ·
            rcases Nat.lt_or_ge mi 110 with h110 | h110
            ·
              rcases Nat.lt_or_ge mi 109 with h109 | h109
              ·
                exact (show mi = 108 by omega) ▸ xokm_108
              ·
                exact (show mi = 109 by omega) ▸ xokm_109
            ·
              rcases Nat.lt_or_ge mi 111 with h111 | h111
              ·
                exact (show mi = 110 by omega) ▸ xokm_110
              ·
                exact (show mi = 111 by omega) ▸ xokm_111
      ·
        rcases Nat.lt_or_ge mi 120 with h120 | h120
        ·
          rcases Nat.lt_or_ge mi 116 with h116 | h116
          ·
            rcases Nat.lt_or_ge mi 114 with h114 | h114
            ·
              rcases Nat.lt_or_ge mi 113 with h113 | h113
              ·
                exact (show mi = 112 by omega) ▸ xokm_112
              ·
                exact (show mi = 113 by omega) ▸ xokm_113
            ·
              rcases Nat.lt_or_ge mi 115 with h115 | h115
              ·
                exact (show mi = 114 by omega) ▸ xokm_114
              ·
                exact (show mi = 115 by omega) ▸ xokm_115
          ·
            rcases Nat.lt_or_ge mi 118 with h118 | h118
            ·
              rcases Nat.lt_or_ge mi 117 with h117 | h117
              ·
                exact (show mi = 116 by omega) ▸ xokm_116
              ·
                exact (show mi = 117 by omega) ▸ xokm_117
            ·
              rcases Nat.lt_or_ge mi 119 with h119 | h119
              ·
                exact (show mi = 118 by omega) ▸ xokm_118
              ·
                exact (show mi = 119 by omega) ▸ xokm_119
        ·
          rcases Nat.lt_or_ge mi 124 with h124 | h124
          ·
            rcases Nat.lt_or_ge mi 122 with h122 | h122
            ·
              rcases Nat.lt_or_ge mi 121 with h121 | h121
              ·
                exact (show mi = 120 by omega) ▸ xokm_120
              ·
                exact (show mi = 121 by omega) ▸ xokm_121
            ·
              rcases Nat.lt_or_ge mi 123 with h123 | h123
              ·
                exact (show mi = 122 by omega) ▸ xokm_122
              ·
                exact (show mi = 123 by omega) ▸ xokm_123
          ·
            rcases Nat.lt_or_ge mi 126 with h126 | h126
            ·
              rcases Nat.lt_or_ge mi 125 with h125 | h125
              ·
                exact (show mi = 124 by omega) ▸ xokm_124
              ·
                exact (show mi = 125 by omega) ▸ xokm_125
            ·
              rcases Nat.lt_or_ge mi 127 with h127 | h127
              ·
                exact (show mi = 126 by omega) ▸ xokm_126
              ·
                rcases Nat.lt_or_ge mi 128 with h128 | h128
                ·
                  exact (show mi = 127 by omega) ▸ xokm_127
                ·
                  exact (show mi = 128 by omega) ▸ xokm_128
theorem xnth_of_le {α : Type} : ∀ (l : List α) (n : Nat) (d : α), l.length ≤ n → xnth l n d = d
  | [], _, _, _ => rfl
  | _ :: t, 0, _, h => by simp at h
  | _ :: t, n + 1, d, h => xnth_of_le t n d (by simpa using h)
theorem xnth_get {α : Type} : ∀ (l : List α) (n : Nat) (d : α), xnth l n d = l.getD n d
  | [], _, _ => by simp [xnth]
  | _ :: t, 0, _ => by simp [xnth]
  | _ :: t, n + 1, d => by simp [xnth, xnth_get t n d]
set_option maxRecDepth 100000 in
theorem xlens : (List.range 129).all (fun mi => decide ((xnth xprog mi []).length ≤ xmi mi 9)) = true := by decide +kernel
theorem xins_ok (mi pc : Nat) : xokb (xy mi).cls (decide ((xy mi).name = "<init>")) (xmi mi 0) (xb mi) mi pc (xins mi pc) = true := by
  by_cases h : mi < 129
  · by_cases hp : pc < xmi mi 9
    · exact List.all_eq_true.mp (xok_all mi h) pc (List.mem_range.mpr hp)
    · have h1 := List.all_eq_true.mp xlens mi (List.mem_range.mpr h)
      have h2 : xins mi pc = (0, 0, 0, 0) := xnth_of_le _ _ _ (Nat.le_trans (of_decide_eq_true h1) (Nat.not_lt.mp hp))
      rw [h2]; rfl
  · have h1 : xnth xprog mi [] = [] := xnth_of_le _ _ _ (by have : xprog.length = 129 := rfl; omega)
    have h2 : xins mi pc = (0, 0, 0, 0) := by unfold xins; rw [h1]; rfl
    rw [h2]; rfl
theorem xwd_mem {i : Nat} {w : Jvm.Cond} (h : xwd i = some w) : w ∈ lw_tbl := List.mem_of_getElem? h
def xkp (w : Jvm.Cond) : Bool := goodWord w || (match w with
  | .fieldLinkNest .. => true
  | .methodLinkNest .. => true
  | .arrayOver _ => true
  | _ => false)
def xwl : List Jvm.Cond := lw_tbl.filter xkp
set_option maxRecDepth 100000 in
theorem xus_0 : ∀ w ∈ u_ws RX0 TX0 2, w ∈ xwl := by decide +kernel
set_option maxRecDepth 100000 in
theorem xus_1 : ∀ w ∈ u_ws RX1 TX1 3, w ∈ xwl := by decide +kernel
set_option maxRecDepth 100000 in
theorem xus_2 : ∀ w ∈ u_ws RX3 TX3 9, w ∈ xwl := by decide +kernel
set_option maxRecDepth 100000 in
theorem xus_3 : ∀ w ∈ u_ws RX4 TX4 7, w ∈ xwl := by decide +kernel
set_option maxRecDepth 100000 in
theorem xus_4 : ∀ w ∈ u_ws RX5 TX5 8, w ∈ xwl := by decide +kernel
set_option maxRecDepth 100000 in
theorem xus_5 : ∀ w ∈ u_ws RX6 TX6 3, w ∈ xwl := by decide +kernel
set_option maxRecDepth 100000 in
theorem xus_6 : ∀ w ∈ u_ws RX7 TX7 4, w ∈ xwl := by decide +kernel
set_option maxRecDepth 100000 in
theorem xus_7 : ∀ w ∈ u_ws RX8 TX8 23, w ∈ xwl := by decide +kernel
def xiw : List (Nat × Nat) := [(225, 74), (182, 71), (219, 73), (96, 69), (89, 68), (201, 72), (81, 67), (656, 75)]
theorem xiw_ok : (List.range 8).all (fun c => decide (xwd (xnth xiw c (0, 0)).1 = some (.instantiable (xCn c) (xN c))) && decide (xwd (xnth xiw c (0, 0)).2 = some (.initialized (xCn c)))) = true := by decide +kernel
set_option maxRecDepth 100000 in
theorem xw_int : xwd 134 = some (.arrayClass .int) := rfl
set_option maxRecDepth 100000 in
theorem xw_reed : xwd 95 = some (.arrayOver (.object "ReedBench$Reed")) := rfl
set_option maxRecDepth 100000 in
theorem xw_state : xwd 188 = some (.arrayOver (.object "ReedBench$State")) := rfl
set_option maxRecDepth 100000 in
theorem xw_aint : xwd 207 = some (.arrayOver (.array .int)) := rfl
set_option maxRecDepth 100000 in
theorem xw_nat : xwd 306 = some (.native arraycopyName) := rfl
set_option maxRecDepth 100000 in
theorem xw_cst : xwd 305 = some (.static arraycopyName) := rfl
set_option maxRecDepth 100000 in
theorem xw_csi : xwd 76 = some (.initialized "java/lang/System") := rfl
set_option maxRecDepth 100000 in
theorem xw_obi : xwd 86 = some (.instanceMethod objectInit) := rfl
set_option maxRecDepth 100000 in
theorem xw_obc : xwd 87 = some (.code objectInit ⟨#[0xb1]⟩ 1 none) := rfl
set_option maxRecDepth 100000 in
theorem xw_mis : xwd 308 = some (.static Lib.Math.min.name) := rfl
set_option maxRecDepth 100000 in
theorem xw_mic : xwd 309 = some (.code Lib.Math.min.name Lib.Math.min.code 2 (some .int)) := rfl
set_option maxRecDepth 100000 in
theorem xw_mas : xwd 449 = some (.static Lib.Math.max.name) := rfl
set_option maxRecDepth 100000 in
theorem xw_mac : xwd 450 = some (.code Lib.Math.max.name Lib.Math.max.code 2 (some .int)) := rfl
set_option maxRecDepth 100000 in
theorem xw_mai : xwd 77 = some (.initialized "java/lang/Math") := rfl
end
section
/-! ===== the pure memory against the heap ===== -/
abbrev xB : Type := va_G × (ClassId × ClassId × ClassId × ClassId) × Nat × Nat × Nat
def xba (B : xB) : Nat := B.2.2.2.2
def xA (B : xB) : Nat → Prop := fun q => xba B ≤ q
def xad (B : xB) (a : Nat) : Nat := if a = 1 then B.2.2.1 else if a = 2 then B.2.2.2.1 else xba B + (a - 3)
def xro (B : xB) (a : Nat) : Option Nat := if a = 0 then none else some (xad B a)
def xr (B : xB) : xV → Value
  | .inl x => .int (Int32.ofInt x)
  | .inr a => va_rf (xro B a)
theorem xr_ref (B : xB) (a : Nat) : xr B (.inr (a + 1)) = .ref (xad B (a + 1)) := by simp [xr, xro, va_rf]
theorem xr_cat (B : xB) (v : xV) : (xr B v).category = 1 := by
  cases v with
  | inl x => rfl
  | inr a => cases a <;> simp [xr, xro, va_rf, Value.category]
def xtys (B : xB) : List (ClassId × FieldType) := [(B.2.1.1, .int), (B.2.1.2.1, .object "ReedBench$Reed"), (B.2.1.2.2.1, .object "ReedBench$State"), (B.2.1.2.2.2, .array .int)]
def xfs (B : xB) (M : xM) (a ci : Nat) : List Value := (List.range (xN ci)).map (fun i => if xrf ci i then xr B (.inr ((xat M a).2.2 i)) else .int (Int32.ofInt (M.2 a i)))
def xra (B : xB) (M : xM) (a : Nat) : Nat → Option Nat := fun i => xro B ((xat M a).2.2 i)
def xce (B : xB) (M : xM) (a : Nat) : va_E := match (xat M a).1 with
  | 1 => .inl (B.2.1.1, (xat M a).2.1, .inl (fun i => Int32.ofInt (M.2 a i)))
  | 2 => .inl (B.2.1.2.1, (xat M a).2.1, .inr (.inr (.inr (.inr (xra B M a)))))
  | 3 => .inl (B.2.1.2.2.1, (xat M a).2.1, .inr (.inr (.inr (.inr (xra B M a)))))
  | 4 => .inl (B.2.1.2.2.2, (xat M a).2.1, .inr (.inr (.inr (.inr (xra B M a)))))
  | k => .inr (k - 10, xfs B M a (k - 10))
def xws (B : xB) (M : xM) : va_W := (List.range (M.1.length - 3)).map (fun k => (xad B (k + 3), xce B M (k + 3)))
def xX (B : xB) (M : xM) (U : State) (H : Heap) (a : Nat) : Prop := xad B a < xba B ∧ (xat M a).1 = 5 ∧ ∃ scr : Cell, H[xad B a]? = some scr ∧ U.isArrayOf scr .int ∧ scr.vm ≠ .unknown ∧ ((xat M a).2.1 ≤ scr.slots.size ∧ scr.slots.size.toInt32 = Int32.ofNat (xat M a).2.1) ∧ ∀ j : Nat, j < (xat M a).2.1 → scr.slots[j]? = some (.int (Int32.ofInt (M.2 a j)))
def xR (B : xB) (U : State) (M : xM) (H : Heap) : Prop :=
  3 ≤ M.1.length ∧ H.size = xba B + (M.1.length - 3) ∧ va_P B.1 xcl (xws B M) H ∧ (xat M 0).1 = 0 ∧ xX B M U H 1 ∧ xX B M U H 2 ∧ ∀ q, 3 ≤ q → (xat M q).1 ≠ 5
theorem xat_lt {M : xM} {a k : Nat} (h : (xat M a).1 = k) (hk : k ≠ 0) : a < M.1.length := by
  rcases Nat.lt_or_ge a M.1.length with q | q
  · exact q
  · exact absurd (by rw [← h]; unfold xat; rw [xnth_of_le _ _ _ q]) (Ne.symm hk)
theorem xR.low {B : xB} {U : State} {M : xM} {H : Heap} (h : xR B U M H) {a k : Nat} (ha : (xat M a).1 = k) (h0 : k ≠ 0) (h5 : k ≠ 5) : 3 ≤ a ∧ a < M.1.length := by
  refine ⟨?_, xat_lt ha h0⟩
  obtain ⟨-, -, -, e0, e1, e2, -⟩ := h
  match a, ha with
  | 0, ha => rw [e0] at ha; exact absurd ha.symm h0
  | 1, ha => rw [e1.2.1] at ha; exact absurd ha.symm h5
  | 2, ha => rw [e2.2.1] at ha; exact absurd ha.symm h5
  | a + 3, _ => omega
theorem xws_at {B : xB} {M : xM} {a : Nat} (h : 3 ≤ a ∧ a < M.1.length) : (xws B M)[a - 3]? = some (xad B a, xce B M a) := by
  unfold xws
  rw [List.getElem?_map, List.getElem?_range (by omega)]
  simp [show a - 3 + 3 = a by omega]
theorem xad_ge {B : xB} {a : Nat} (h : 3 ≤ a) : xad B a = xba B + (a - 3) := by
  unfold xad; rw [if_neg (by omega), if_neg (by omega)]
theorem xws_D (B : xB) (M : xM) : va_D (xA B) (xws B M) := by
  have key : ∀ (k : Nat) (q : Nat × va_E), (xws B M)[k]? = some q → q.1 = xba B + k := by
    intro k q hk
    unfold xws at hk
    rw [List.getElem?_map] at hk
    cases hr : (List.range (M.1.length - 3))[k]? with
    | none => rw [hr] at hk; cases hk
    | some j =>
      rw [hr] at hk
      have hj : j = k := by
        have := List.getElem?_eq_some_iff.mp hr
        obtain ⟨h1, h2⟩ := this
        simpa using h2.symm
      subst hj
      have : (xad B (j + 3), xce B M (j + 3)) = q := Option.some.inj hk
      rw [← this]
      show xad B (j + 3) = _
      rw [xad_ge (by omega)]
      omega
  refine ⟨fun i j p q hi hj hpq => ?_, fun k q hk => ?_⟩
  · have := key i p hi; have := key j q hj; omega
  · rw [key k q hk]; exact Nat.le_add_right _ _
/-- a world that differs at one cell -/
theorem xws_set {B : xB} {M M' : xM} {a : Nat} {e : va_E} (ha : 3 ≤ a ∧ a < M.1.length) (hl : M'.1.length = M.1.length) (he : xce B M' a = e) (ho : ∀ q, q ≠ a → xce B M' q = xce B M q) : xws B M' = (xws B M).set (a - 3) (xad B a, e) := by
  apply List.ext_getElem?
  intro k
  have hlen : (xws B M).length = M.1.length - 3 := by simp [xws]
  by_cases hk : k = a - 3
  · subst hk
    rw [List.getElem?_set_self (by rw [hlen]; omega), xws_at (M := M') (by omega), he]
  · rw [List.getElem?_set_ne (Ne.symm hk)]
    unfold xws
    rw [List.getElem?_map, List.getElem?_map, hl]
    by_cases h2 : k < M.1.length - 3
    · rw [List.getElem?_range h2]
      simp only [Option.map_some]
      rw [ho (k + 3) (by omega)]
    · have : (List.range (M.1.length - 3))[k]? = none := List.getElem?_eq_none (by simp; omega)
      rw [this]; rfl
theorem xws_app {B : xB} {M M' : xM} {cs : List xC} (h3 : 3 ≤ M.1.length) (hl : M'.1 = M.1 ++ cs) (ho : ∀ q, q < M.1.length → xce B M' q = xce B M q) : xws B M' = xws B M ++ (List.range cs.length).map (fun k => (xad B (M.1.length + k), xce B M' (M.1.length + k))) := by
  apply List.ext_getElem?
  intro k
  have hlen : (xws B M).length = M.1.length - 3 := by simp [xws]
  have hl' : M'.1.length = M.1.length + cs.length := by rw [hl, List.length_append]
  by_cases hk : k < M.1.length - 3
  · rw [List.getElem?_append_left (by omega)]
    have h1 := xws_at (B := B) (M := M') (a := k + 3) (by omega)
    have h2 := xws_at (B := B) (M := M) (a := k + 3) (by omega)
    rw [show k + 3 - 3 = k by omega] at h1 h2
    rw [h1, h2, ho _ (by omega)]
  · rw [List.getElem?_append_right (by omega), hlen, List.getElem?_map]
    by_cases h2 : k - (M.1.length - 3) < cs.length
    · rw [List.getElem?_range h2]
      have h1 := xws_at (B := B) (M := M') (a := k + 3) (by omega)
      rw [show k + 3 - 3 = k by omega] at h1
      rw [h1]
      simp only [Option.map_some]
      rw [show M.1.length + (k - (M.1.length - 3)) = k + 3 by omega]
    · have e1 : (List.range cs.length)[k - (M.1.length - 3)]? = none := List.getElem?_eq_none (by simp; omega)
      have e2 : (xws B M')[k]? = none := List.getElem?_eq_none (by simp [xws]; omega)
      rw [e1, e2]; rfl
theorem xat_wr (M : xM) (p i q : Nat) (v : Int) : xat (xwr M p i v) q = xat M q := rfl
theorem xce_wr_ne (B : xB) (M : xM) {p i q : Nat} (v : Int) (h : q ≠ p) : xce B (xwr M p i v) q = xce B M q := by
  unfold xce xfs xra
  simp only [xat_wr]
  have e : (xwr M p i v).2 q = M.2 q := by funext j; simp [xwr, h]
  rw [e]
theorem xnth_set_ne {α : Type} {d : α} : ∀ (l : List α) (a q : Nat) (v : α), q ≠ a → xnth (l.set a v) q d = xnth l q d
  | [], _, _, _, _ => by simp
  | x :: t, 0, 0, v, h => absurd rfl h
  | x :: t, 0, q + 1, v, _ => rfl
  | x :: t, a + 1, 0, v, _ => rfl
  | x :: t, a + 1, q + 1, v, h => xnth_set_ne t a q v (by omega)
theorem xnth_set_self {α : Type} {d : α} : ∀ (l : List α) (a : Nat) (v : α), a < l.length → xnth (l.set a v) a d = v
  | [], _, _, h => by simp at h
  | x :: t, 0, v, _ => rfl
  | x :: t, a + 1, v, h => xnth_set_self t a v (by simpa using h)
theorem xnth_app {α : Type} {d : α} : ∀ (l r : List α) (a : Nat), a < l.length → xnth (l ++ r) a d = xnth l a d
  | [], _, _, h => by simp at h
  | x :: t, _, 0, _ => rfl
  | x :: t, r, a + 1, h => xnth_app t r a (by simpa using h)
theorem xnth_app2 {α : Type} {d : α} : ∀ (l r : List α) (a : Nat), xnth (l ++ r) (l.length + a) d = xnth r a d
  | [], _, a => by simp
  | x :: t, r, a => by
    rw [show (x :: t).length + a = (t.length + a) + 1 by simp; omega]
    exact xnth_app2 t r a
theorem xat_wref_ne (M : xM) {p i r q : Nat} (h : q ≠ p) : xat (xwref M p i r) q = xat M q := xnth_set_ne _ _ _ _ h
theorem xat_wref (M : xM) {p : Nat} (i r : Nat) (h : p < M.1.length) : xat (xwref M p i r) p = ((xat M p).1, (xat M p).2.1, fun j => if j = i then r else (xat M p).2.2 j) := xnth_set_self _ _ _ h
theorem xce_wref_ne (B : xB) (M : xM) {p i r q : Nat} (h : q ≠ p) : xce B (xwref M p i r) q = xce B M q := by
  unfold xce xfs xra
  rw [xat_wref_ne M h]
  rfl
/-- what a heap change above the base leaves -/
theorem xX.kept {B : xB} {M M' : xM} {U : State} {H H1 : Heap} {a : Nat} (h : xX B M U H a) (hq : ∀ q, q < xba B → H1[q]? = H[q]?) (h1 : xat M' a = xat M a) (h2 : M'.2 a = M.2 a) : xX B M' U H1 a := by
  obtain ⟨e1, e2, scr, e3, e4⟩ := h
  unfold xX
  rw [h1, h2]
  exact ⟨e1, e2, scr, by rw [hq _ e1]; exact e3, e4⟩
theorem xX.moved {B : xB} {M : xM} {u U : State} {H : Heap} {a : Nat} (hvm : u.vm.Alike U.vm) (h : xX B M u H a) : xX B M U H a := by
  obtain ⟨e1, e2, scr, e3, e4, e5⟩ := h
  exact ⟨e1, e2, scr, e3, State.isArrayOf_alike hvm e4, e5⟩
theorem xR.moved {B : xB} {M : xM} {u U : State} {H : Heap} (hvm : u.vm.Alike U.vm) (h : xR B u M H) : xR B U M H := ⟨h.1, h.2.1, h.2.2.1, h.2.2.2.1, h.2.2.2.2.1.moved hvm, h.2.2.2.2.2.1.moved hvm, h.2.2.2.2.2.2⟩
/-- one cell is changed -/
theorem xR.upd {B : xB} {U : State} {M M' : xM} {H H1 : Heap} {a : Nat} {e : va_E} (h : xR B U M H) (ha : 3 ≤ a ∧ a < M.1.length) (hl : M'.1.length = M.1.length) (h0 : ∀ q, q ≠ a → xat M' q = xat M q) (hf : ∀ q, q ≠ a → M'.2 q = M.2 q) (he : xce B M' a = e) (ho : ∀ q, q ≠ a → xce B M' q = xce B M q) (hP : va_P B.1 xcl ((xws B M).set (a - 3) (xad B a, e)) H1) (hz : H1.size = H.size) (hk : ∀ q, q < xba B → H1[q]? = H[q]?) (h5 : (xat M' a).1 ≠ 5) : xR B U M' H1 := by
  obtain ⟨e1, e2, e3, e4, e5, e6, e7⟩ := h
  refine ⟨by omega, by rw [hz, e2, hl], ?_, by rw [h0 0 (by omega)]; exact e4, e5.kept hk (h0 1 (by omega)) (hf 1 (by omega)), e6.kept hk (h0 2 (by omega)) (hf 2 (by omega)), fun q hq => by
    by_cases e : q = a
    · rw [e]; exact h5
    · rw [h0 q e]; exact e7 q hq⟩
  rw [xws_set ha hl he ho]
  exact hP
/-! ===== the state at a step ===== -/
def xlh (B : xB) (Ls : Array Slot) (n : Nat) (ls : xL) : Prop := Ls.size = n ∧ lv_wf Ls ∧ ∀ (i : Nat) (v : xV), xnth ls i none = some v → Ls[i]? = some (.val (xr B v))
def xll (B : xB) (ls : xL) : List (Nat × Value) := (List.range ls.length).filterMap (fun i => (xnth ls i none).map (fun v => (i, xr B v)))
theorem xlh.has {B : xB} {Ls : Array Slot} {n : Nat} {ls : xL} (h : xlh B Ls n ls) : lv_has Ls n (xll B ls) := by
  refine ⟨h.1, h.2.1, fun q hq => ?_⟩
  obtain ⟨i, -, hi⟩ := List.mem_filterMap.mp hq
  cases hv : xnth ls i none with
  | none => rw [hv] at hi; cases hi
  | some v =>
    rw [hv] at hi
    cases hi
    exact h.2.2 i v hv
theorem xll_mem {B : xB} {ls : xL} {i : Nat} {v : xV} (h : xnth ls i none = some v) : (i, xr B v) ∈ xll B ls := by
  refine List.mem_filterMap.mpr ⟨i, List.mem_range.mpr ?_, by rw [h]; rfl⟩
  rcases Nat.lt_or_ge i ls.length with q | q
  · exact q
  · rw [xnth_of_le _ _ _ q] at h; cases h
theorem xlh.store {B : xB} {Ls' : Array Slot} {n i : Nat} {ls : xL} {v : xV} (h : lv_has Ls' n ((i, xr B v) :: (xll B ls).filter (fun q => !(q.1 == i) && !(q.1 + 1 == i && q.2.category == 2)))) : xlh B Ls' n (ls.set i (some v)) := by
  refine ⟨h.1, h.2.1, fun j w hw => ?_⟩
  by_cases hj : j = i
  · subst hj
    have hl : j < ls.length := by
      rcases Nat.lt_or_ge j ls.length with q | q
      · exact q
      · rw [List.set_eq_of_length_le q, xnth_of_le _ _ _ q] at hw; cases hw
    rw [xnth_set_self _ _ _ hl] at hw
    cases hw
    exact h.2.2 (j, xr B v) List.mem_cons_self
  · rw [xnth_set_ne _ _ _ _ hj] at hw
    refine h.2.2 (j, xr B w) (List.mem_cons_of_mem _ (List.mem_filter.mpr ⟨xll_mem hw, ?_⟩))
    simp [hj, xr_cat]
/-- what the tables say, kept by every call -/
def xTB (U : State) : Prop := ∀ w ∈ lw_tbl, xkp w = true → ∀ A : Array Value, w.before A U = true
theorem xTB.get {U : State} (h : xTB U) {i : Nat} {w : Jvm.Cond} (hi : xwd i = some w) (hk : xkp w = true) (A : Array Value) : w.before A U = true := h w (xwd_mem hi) hk A
theorem xTB.ws {U : State} (h : xTB U) (A : Array Value) : ∀ w ∈ xwl, w.before A U = true := fun w hw => h w (List.mem_filter.mp hw).1 (List.mem_filter.mp hw).2 A
theorem xkp_cases {w : Jvm.Cond} (h : xkp w = true) : goodWord w = true ∨ (∃ a i b n d e, w = .fieldLinkNest a i b n d e) ∨ (∃ a i x e, w = .methodLinkNest a i x e) ∨ ∃ t, w = .arrayOver t := by
  unfold xkp at h
  rw [Bool.or_eq_true] at h
  rcases h with h | h
  · exact Or.inl h
  · right
    split at h
    · exact Or.inl ⟨_, _, _, _, _, _, rfl⟩
    · exact Or.inr (Or.inl ⟨_, _, _, _, rfl⟩)
    · exact Or.inr (Or.inr ⟨_, rfl⟩)
    · cases h
theorem xTB.warm {s U : State} (hW : s.WarmedH U.vm) (h : xTB s) : xTB U := by
  intro w hw hk A
  have h0 := h w hw hk
  rcases xkp_cases hk with g | ⟨a, i, b, n, d, e, rfl⟩ | ⟨a, i, x, e, rfl⟩ | ⟨t, rfl⟩
  · exact word_at hW (good_of_word g) (h0 #[])
  · exact va_Nw.use rfl (va_Nw.warmF hW (h0 #[]))
  · exact va_Nw.use rfl (va_Nw.warmM hW (h0 #[]))
  · have h1 := Cond.overAtom_setVm (args := #[]) (s := s) (vm' := U.vm) hW.alike (.arrayOver t) rfl (h0 #[])
    exact h1
def xE (B : xB) (U : State) (H : Heap) : Prop := va_K B.1 xcl (xtys B) U ∧ xTB U ∧ xba B ≤ H.size ∧ va_Z "ReedBench" "ABOVE_KEY" "[I" (.ref (xad B 2)) (xA B) U H
end
section
/-! ===== one instruction of the pure machine is one of the machine ===== -/
def xCx (p : Program) (R : Room) (s : State) (m : MethodId) (meth : Method) (c : Code) (mi : Nat) : Prop :=
  p.tables.exec = Jvm.exec ∧ c.code = xb mi ∧ c.maxLocals = xmi mi 0 ∧ s.vm.findClass (xy mi).cls = some m.cls ∧ meth.locks = false ∧ meth.sig.returnType = xret mi ∧ ((xy mi).name = "<init>" → meth.name = "<init>") ∧ (xmi mi 5 ≤ R.frames ∧ xmi mi 6 ≤ R.locals ∧ xmi mi 7 ≤ R.cells ∧ xmi mi 8 ≤ R.slots)
section XSN
variable {p : Program} {l : Launch} {e : Env} {R : Room} {s : State} {m : MethodId} {args : Array Value} {below : List Frame} {meth : Method} {c : Code} {Q : State → Prop} {B : xB} {mi : Nat}
def xW (B : xB) (p : Program) (l : Launch) (e : Env) (R : Room) (s : State) (m : MethodId) (args : Array Value) (below : List Frame) (meth : Method) (c : Code) (mi : Nat) (Q : State → Prop) (pc : Nat) (k : Nat × Nat) (ls : xL) (st : List xV) (M : xM) : Prop :=
  ∀ (H : Heap) (locs : List Loc) (Ls : Array Slot), xR B s M H → va_S (xA B) s.heap H locs → xlh B Ls (xmi mi 0) ls → W p l e R s m args below meth c H locs k.1 k.2 Q (F0 m pc Ls (st.map (xr B)))
theorem xdc_eq {cc : ByteArray} {pc n : Nat} {i : Instr} (h : xdc cc pc i n = true) : decode cc pc = .ok (i, n) := of_decide_eq_true h
theorem xfin {b : Nat} (h : b < 4) : ((Fin.ofNat 4 b : Fin 4) : Nat) = b := Nat.mod_eq_of_lt h
theorem xti {x : Int} (h : xok x) : (Int32.ofInt x).toInt = x := Int32.toInt_ofInt_of_le (by obtain ⟨h1, -⟩ := h; simpa using h1) (by obtain ⟨-, h2⟩ := h; simpa using (show x < 2147483648 by omega))
theorem xi_eq {x y : Int} (h : (xok x ∧ xok y) ∨ x = y) : Int32.ofInt x = Int32.ofInt y ↔ x = y := by
  rcases h with ⟨h1, h2⟩ | h
  · exact ⟨fun q => by rw [← xti h1, ← xti h2, q], fun q => by rw [q]⟩
  · simp [h]
theorem xi_lt {x y : Int} (h1 : xok x) (h2 : xok y) : Int32.ofInt x < Int32.ofInt y ↔ x < y := by rw [Int32.lt_iff_toInt_lt, xti h1, xti h2]
theorem xi_le {x y : Int} (h1 : xok x) (h2 : xok y) : Int32.ofInt x ≤ Int32.ofInt y ↔ x ≤ y := by rw [Int32.le_iff_toInt_le, xti h1, xti h2]
theorem xr_pos {p : Nat} (h : 0 < p) : xr B (.inr p) = .ref (xad B p) := by
  obtain ⟨q, rfl⟩ : ∃ q, p = q + 1 := ⟨p - 1, by omega⟩
  exact xr_ref B q
theorem xce_obj {M : xM} {q b : Nat} (h : (xat M q).1 = 10 + b) : xce B M q = .inr (b, xfs B M q b) := by
  unfold xce
  split
  · omega
  · omega
  · omega
  · omega
  · rw [h, show 10 + b - 10 = b by omega]
theorem xce_1 {M : xM} {q : Nat} (h : (xat M q).1 = 1) : xce B M q = .inl (B.2.1.1, (xat M q).2.1, .inl (fun i => Int32.ofInt (M.2 q i))) := by unfold xce; simp only [h]
theorem xce_2 {M : xM} {q : Nat} (h : (xat M q).1 = 2) : xce B M q = .inl (B.2.1.2.1, (xat M q).2.1, .inr (.inr (.inr (.inr (xra B M q))))) := by unfold xce; simp only [h]
theorem xce_3 {M : xM} {q : Nat} (h : (xat M q).1 = 3) : xce B M q = .inl (B.2.1.2.2.1, (xat M q).2.1, .inr (.inr (.inr (.inr (xra B M q))))) := by unfold xce; simp only [h]
theorem xce_4 {M : xM} {q : Nat} (h : (xat M q).1 = 4) : xce B M q = .inl (B.2.1.2.2.2, (xat M q).2.1, .inr (.inr (.inr (.inr (xra B M q))))) := by unfold xce; simp only [h]
theorem xfs_at {M : xM} {q ci k : Nat} (hk : k < xN ci) : (xfs B M q ci)[k]? = some (xr B (if xrf ci k then .inr ((xat M q).2.2 k) else .inl (M.2 q k))) := by
  unfold xfs
  rw [List.getElem?_map, List.getElem?_range hk]
  simp only [Option.map_some]
  split <;> rfl
theorem xcl_at : ∀ ci, ci < 8 → xcl[ci]? = some (xCn ci, xT ci, xN ci)
  | 0, _ => rfl
  | 1, _ => rfl
  | 2, _ => rfl
  | 3, _ => rfl
  | 4, _ => rfl
  | 5, _ => rfl
  | 6, _ => rfl
  | 7, _ => rfl
theorem xus_at : ∀ ci, ci < 8 → ∀ w ∈ u_ws (xCn ci) (xT ci) (xN ci), w ∈ xwl
  | 0, _ => xus_0
  | 1, _ => xus_1
  | 2, _ => xus_2
  | 3, _ => xus_3
  | 4, _ => xus_4
  | 5, _ => xus_5
  | 6, _ => xus_6
  | 7, _ => xus_7
theorem xg1 (C : xCx p R s m meth c mi) (E : xE B s s.heap) {pc : Nat} {k : Nat × Nat} {ls : xL} {st : List xV} {M : xM} {a : Int} {b d : Nat} {q : Nat × (Nat × Nat) × xL × List xV × xM}
    (hok : xokb (xy mi).cls (decide ((xy mi).name = "<init>")) (xmi mi 0) (xb mi) mi pc (1, a, b, d) = true) (hs : xsem 1 a b d mi pc k ls st M = some (.inl q)) (hK : xW B p l e R s m args below meth c mi Q q.1 q.2.1 q.2.2.1 q.2.2.2.1 q.2.2.2.2) : xW B p l e R s m args below meth c mi Q pc k ls st M := by
  obtain ⟨hx, hb, hml, hown, -⟩ := C
  simp only [xsem, xgo, Option.some.injEq, Sum.inl.injEq] at hs
  subst hs
  intro H locs Ls hR hS hL
  have hk := hK H locs Ls hR hS hL
  simp only [xokb, Bool.or_eq_true, Bool.and_eq_true, decide_eq_true_eq] at hok
  rcases hok with ⟨rfl, h⟩ | ⟨rfl, h0, h⟩ | ⟨rfl, h0, h⟩ | h
  · exact lv_iconst hx hb (xdc_eq h) rfl hk
  · exact lv_bipush hx hb (xdc_eq h) h0 hk
  · exact lv_sipush hx hb (xdc_eq h) h0 hk
  · unfold xkc at h
    split at h
    · rename_i o i v hw
      simp only [Bool.or_eq_true, Bool.and_eq_true, decide_eq_true_eq] at h
      obtain ⟨rfl, rfl, ⟨rfl, h⟩ | ⟨rfl, h⟩⟩ := h
      · exact lv_ldc hx hb hown (E.2.1.get hw rfl args) (xdc_eq h) hk
      · exact lv_ldcw hx hb hown (E.2.1.get hw rfl args) (xdc_eq h) hk
    · cases h
theorem xg2 (C : xCx p R s m meth c mi) {pc : Nat} {k : Nat × Nat} {ls : xL} {st : List xV} {M : xM} {a : Int} {b d : Nat} {q : Nat × (Nat × Nat) × xL × List xV × xM}
    (hok : xokb (xy mi).cls (decide ((xy mi).name = "<init>")) (xmi mi 0) (xb mi) mi pc (2, a, b, d) = true) (hs : xsem 2 a b d mi pc k ls st M = some (.inl q)) (hK : xW B p l e R s m args below meth c mi Q q.1 q.2.1 q.2.2.1 q.2.2.2.1 q.2.2.2.2) : xW B p l e R s m args below meth c mi Q pc k ls st M := by
  obtain ⟨hx, hb, hml, hown, -⟩ := C
  simp only [xsem] at hs
  split at hs
  · rename_i x hv
    simp only [xgo, Option.some.injEq, Sum.inl.injEq] at hs
    subst hs
    intro H locs Ls hR hS hL
    have hk := hK H locs Ls hR hS hL
    have hl := hL.2.2 _ _ hv
    simp only [xokb, Bool.or_eq_true, Bool.and_eq_true, decide_eq_true_eq] at hok
    rcases hok with ⟨rfl, h0, h⟩ | ⟨rfl, h⟩
    · exact lv_iload_n hx hb (xdc_eq h) (xfin h0) hl hk
    · exact lv_iload hx hb (xdc_eq h) hl hk
  · cases hs
theorem xg3 (C : xCx p R s m meth c mi) {pc : Nat} {k : Nat × Nat} {ls : xL} {st : List xV} {M : xM} {a : Int} {b d : Nat} {q : Nat × (Nat × Nat) × xL × List xV × xM}
    (hok : xokb (xy mi).cls (decide ((xy mi).name = "<init>")) (xmi mi 0) (xb mi) mi pc (3, a, b, d) = true) (hs : xsem 3 a b d mi pc k ls st M = some (.inl q)) (hK : xW B p l e R s m args below meth c mi Q q.1 q.2.1 q.2.2.1 q.2.2.2.1 q.2.2.2.2) : xW B p l e R s m args below meth c mi Q pc k ls st M := by
  obtain ⟨hx, hb, hml, hown, -⟩ := C
  simp only [xsem] at hs
  split at hs
  · rename_i x hv
    simp only [xgo, Option.some.injEq, Sum.inl.injEq] at hs
    subst hs
    intro H locs Ls hR hS hL
    have hk := hK H locs Ls hR hS hL
    have hl := hL.2.2 _ _ hv
    simp only [List.map_cons, xr_ref] at hk hl
    simp only [xokb, Bool.or_eq_true, Bool.and_eq_true, decide_eq_true_eq] at hok
    rcases hok with ⟨rfl, h0, h⟩ | ⟨rfl, h⟩
    · exact lv_aload_n hx hb (xdc_eq h) (xfin h0) hl hk
    · exact lv_aload hx hb (xdc_eq h) hl hk
  · cases hs
theorem xg4 (C : xCx p R s m meth c mi) {pc : Nat} {k : Nat × Nat} {ls : xL} {st : List xV} {M : xM} {a : Int} {b d : Nat} {q : Nat × (Nat × Nat) × xL × List xV × xM}
    (hok : xokb (xy mi).cls (decide ((xy mi).name = "<init>")) (xmi mi 0) (xb mi) mi pc (4, a, b, d) = true) (hs : xsem 4 a b d mi pc k ls st M = some (.inl q)) (hK : xW B p l e R s m args below meth c mi Q q.1 q.2.1 q.2.2.1 q.2.2.2.1 q.2.2.2.2) : xW B p l e R s m args below meth c mi Q pc k ls st M := by
  obtain ⟨hx, hb, hml, hown, -⟩ := C
  simp only [xsem] at hs
  split at hs
  · rename_i x r
    simp only [xgo, Option.some.injEq, Sum.inl.injEq] at hs
    subst hs
    intro H locs Ls hR hS hL
    simp only [xokb, Bool.or_eq_true, Bool.and_eq_true, decide_eq_true_eq] at hok
    obtain ⟨hn, hok⟩ := hok
    rcases hok with ⟨rfl, h0, h⟩ | ⟨rfl, h⟩
    · exact lv_istore_n hx hb (xdc_eq h) (xfin h0) hL.has hn rfl (fun Ls' hL' => hK H locs Ls' hR hS (xlh.store (v := .inl x) hL'))
    · exact lv_istore hx hb (xdc_eq h) hL.has hn rfl (fun Ls' hL' => hK H locs Ls' hR hS (xlh.store (v := .inl x) hL'))
  · cases hs
theorem xg5 (C : xCx p R s m meth c mi) {pc : Nat} {k : Nat × Nat} {ls : xL} {st : List xV} {M : xM} {a : Int} {b d : Nat} {q : Nat × (Nat × Nat) × xL × List xV × xM}
    (hok : xokb (xy mi).cls (decide ((xy mi).name = "<init>")) (xmi mi 0) (xb mi) mi pc (5, a, b, d) = true) (hs : xsem 5 a b d mi pc k ls st M = some (.inl q)) (hK : xW B p l e R s m args below meth c mi Q q.1 q.2.1 q.2.2.1 q.2.2.2.1 q.2.2.2.2) : xW B p l e R s m args below meth c mi Q pc k ls st M := by
  obtain ⟨hx, hb, hml, hown, -⟩ := C
  simp only [xsem] at hs
  split at hs
  · rename_i x r
    simp only [xgo, Option.some.injEq, Sum.inl.injEq] at hs
    subst hs
    intro H locs Ls hR hS hL
    simp only [List.map_cons, xr_ref]
    simp only [xokb, Bool.or_eq_true, Bool.and_eq_true, decide_eq_true_eq] at hok
    obtain ⟨hn, hok⟩ := hok
    rcases hok with ⟨rfl, h0, h⟩ | ⟨rfl, h⟩
    · exact lv_astore_n hx hb (xdc_eq h) (xfin h0) hL.has hn rfl (fun Ls' hL' => hK H locs Ls' hR hS (xlh.store (v := .inr (x + 1)) (by rw [xr_ref]; exact hL')))
    · exact lv_astore hx hb (xdc_eq h) hL.has hn rfl (fun Ls' hL' => hK H locs Ls' hR hS (xlh.store (v := .inr (x + 1)) (by rw [xr_ref]; exact hL')))
  · cases hs
theorem xg6 (C : xCx p R s m meth c mi) {pc : Nat} {k : Nat × Nat} {ls : xL} {st : List xV} {M : xM} {a : Int} {b d : Nat} {q : Nat × (Nat × Nat) × xL × List xV × xM}
    (hok : xokb (xy mi).cls (decide ((xy mi).name = "<init>")) (xmi mi 0) (xb mi) mi pc (6, a, b, d) = true) (hs : xsem 6 a b d mi pc k ls st M = some (.inl q)) (hK : xW B p l e R s m args below meth c mi Q q.1 q.2.1 q.2.2.1 q.2.2.2.1 q.2.2.2.2) : xW B p l e R s m args below meth c mi Q pc k ls st M := by
  obtain ⟨hx, hb, hml, hown, -⟩ := C
  simp only [xsem] at hs
  split at hs
  · rename_i x hv
    simp only [xgo, Option.some.injEq, Sum.inl.injEq] at hs
    subst hs
    intro H locs Ls hR hS hL
    simp only [xokb, Bool.and_eq_true, decide_eq_true_eq] at hok
    obtain ⟨hn, h⟩ := hok
    obtain ⟨j, hj⟩ := List.getElem?_of_mem (xll_mem (B := B) hv)
    exact lv_iinc hx hb (xdc_eq h) hL.has hj (v := Int32.ofInt (x + a)) (by rw [Int32.ofInt_add]) hn rfl (fun Ls' hL' => hK H locs Ls' hR hS (xlh.store (v := .inl (x + a)) hL'))
  · cases hs
theorem xg7 (C : xCx p R s m meth c mi) {pc : Nat} {k : Nat × Nat} {ls : xL} {st : List xV} {M : xM} {a : Int} {b d : Nat} {q : Nat × (Nat × Nat) × xL × List xV × xM}
    (hok : xokb (xy mi).cls (decide ((xy mi).name = "<init>")) (xmi mi 0) (xb mi) mi pc (7, a, b, d) = true) (hs : xsem 7 a b d mi pc k ls st M = some (.inl q)) (hK : xW B p l e R s m args below meth c mi Q q.1 q.2.1 q.2.2.1 q.2.2.2.1 q.2.2.2.2) : xW B p l e R s m args below meth c mi Q pc k ls st M := by
  obtain ⟨hx, hb, hml, hown, -⟩ := C
  simp only [xsem] at hs
  split at hs
  · rename_i y x r
    split at hs
    · rename_i z hz
      simp only [xgo, Option.some.injEq, Sum.inl.injEq] at hs
      subst hs
      intro H locs Ls hR hS hL
      have hk := hK H locs Ls hR hS hL
      simp only [List.map_cons, xr] at hk ⊢
      simp only [xokb, Bool.and_eq_true, decide_eq_true_eq] at hok
      obtain ⟨hn, h⟩ := hok
      have hd := xdc_eq h
      match b, hn, hz, hd with
      | 0, _, hz, hd => cases hz; rw [Int32.ofInt_add] at hk; exact lv_iadd hx hb hd hk
      | 1, _, hz, hd => cases hz; rw [Int32.ofInt_sub] at hk; exact lv_isub hx hb hd hk
      | 2, _, hz, hd => cases hz; rw [Int32.ofInt_mul] at hk; exact lv_imul hx hb hd hk
      | 3, _, hz, hd =>
        simp only [xbin] at hz
        split at hz
        · cases hz
        · rename_i h0
          cases hz
          rw [Int32.ofInt_toInt] at hk
          exact lv_idiv hx hb hd h0 hk
      | 4, _, hz, hd =>
        simp only [xbin] at hz
        split at hz
        · cases hz
        · rename_i h0
          cases hz
          rw [Int32.ofInt_toInt] at hk
          exact lv_irem hx hb hd h0 hk
      | 5, _, hz, hd => cases hz; rw [Int32.ofInt_toInt] at hk; exact lv_iand hx hb hd hk
      | 6, _, hz, hd => cases hz; rw [Int32.ofInt_toInt] at hk; exact lv_ior hx hb hd hk
      | 7, _, hz, hd => cases hz; rw [Int32.ofInt_toInt] at hk; exact lv_ixor hx hb hd hk
      | 8, _, hz, hd => cases hz; rw [Int32.ofInt_toInt] at hk; exact lv_ishl hx hb hd hk
      | 9, _, hz, hd => cases hz; rw [Int32.ofInt_toInt] at hk; exact lv_ishr hx hb hd hk
      | 10, _, hz, hd => cases hz; rw [Int32.ofInt_toInt] at hk; exact lv_iushr hx hb hd rfl hk
    · cases hs
  · cases hs
theorem xg8 (C : xCx p R s m meth c mi) {pc : Nat} {k : Nat × Nat} {ls : xL} {st : List xV} {M : xM} {a : Int} {b d : Nat} {q : Nat × (Nat × Nat) × xL × List xV × xM}
    (hok : xokb (xy mi).cls (decide ((xy mi).name = "<init>")) (xmi mi 0) (xb mi) mi pc (8, a, b, d) = true) (hs : xsem 8 a b d mi pc k ls st M = some (.inl q)) (hK : xW B p l e R s m args below meth c mi Q q.1 q.2.1 q.2.2.1 q.2.2.2.1 q.2.2.2.2) : xW B p l e R s m args below meth c mi Q pc k ls st M := by
  obtain ⟨hx, hb, hml, hown, -⟩ := C
  simp only [xsem] at hs
  split at hs
  · rename_i x r
    simp only [xgo, Option.some.injEq, Sum.inl.injEq] at hs
    subst hs
    intro H locs Ls hR hS hL
    have hk := hK H locs Ls hR hS hL
    simp only [List.map_cons, xr, Int32.ofInt_neg] at hk ⊢
    exact lv_ineg hx hb (xdc_eq hok) hk
  · cases hs
theorem xg9 (C : xCx p R s m meth c mi) {pc : Nat} {k : Nat × Nat} {ls : xL} {st : List xV} {M : xM} {a : Int} {b d : Nat} {q : Nat × (Nat × Nat) × xL × List xV × xM}
    (hok : xokb (xy mi).cls (decide ((xy mi).name = "<init>")) (xmi mi 0) (xb mi) mi pc (9, a, b, d) = true) (hs : xsem 9 a b d mi pc k ls st M = some (.inl q)) (hK : xW B p l e R s m args below meth c mi Q q.1 q.2.1 q.2.2.1 q.2.2.2.1 q.2.2.2.2) : xW B p l e R s m args below meth c mi Q pc k ls st M := by
  obtain ⟨hx, hb, hml, hown, -⟩ := C
  simp only [xsem] at hs
  split at hs
  · rename_i x r
    split at hs
    · rename_i hc
      simp only [xgo, Option.some.injEq, Sum.inl.injEq] at hs
      subst hs
      intro H locs Ls hR hS hL
      have hk := hK H locs Ls hR hS hL
      simp only [List.map_cons, xr] at hk ⊢
      simp only [xokb, Bool.and_eq_true, decide_eq_true_eq] at hok
      obtain ⟨hn, h⟩ := hok
      have hd := xdc_eq h
      have ht : (pc : Int) + ((d : Int) - pc) = (d : Int) := by omega
      have h0 : xok 0 := ⟨by omega, by omega⟩
      have z0 : (0 : Int32) = Int32.ofInt 0 := rfl
      have heq : Int32.ofInt x = 0 ↔ x = 0 := by
        rw [z0]; exact xi_eq (hc.elim (fun q => Or.inl ⟨q, h0⟩) (fun q => Or.inr q.2))
      have go : ∀ (P : Prop), (xcmp b x 0 = true ↔ P) → (P → W p l e R s m args below meth c H locs k.1 k.2 Q (F0 m d Ls (r.map (xr B)))) ∧ (¬ P → W p l e R s m args below meth c H locs k.1 k.2 Q (F0 m (pc + 3) Ls (r.map (xr B)))) := fun P hP => ⟨fun q => by
        have e : xcmp b x 0 = true := hP.mpr q
        rw [if_pos e] at hk
        exact hk, fun q => by
        have e : ¬ xcmp b x 0 = true := fun z => q (hP.mp z)
        rw [if_neg e] at hk
        exact hk⟩
      match b, hn, hd, hc, go with
      | 0, _, hd, hc, go =>
        have g := go (Int32.ofInt x = 0) (by rw [heq]; simp [xcmp])
        exact lv_if_eq hx hb hd ht g.1 g.2
      | 1, _, hd, hc, go =>
        have g := go (¬ Int32.ofInt x = 0) (by rw [heq]; simp [xcmp])
        exact lv_if_ne hx hb hd ht g.1 (fun z => g.2 (fun n => n z))
      | 2, _, hd, hc, go =>
        have hxk : xok x := hc.elim id (fun q => absurd q.1 (by omega))
        have g := go (Int32.ofInt x < 0) (by rw [z0, xi_lt hxk h0]; simp [xcmp])
        exact lv_if_lt hx hb hd ht g.1 g.2
      | 3, _, hd, hc, go =>
        have hxk : xok x := hc.elim id (fun q => absurd q.1 (by omega))
        have g := go (0 ≤ Int32.ofInt x) (by rw [z0, xi_le h0 hxk]; simp [xcmp])
        exact lv_if_ge hx hb hd ht g.1 g.2
      | 4, _, hd, hc, go =>
        have hxk : xok x := hc.elim id (fun q => absurd q.1 (by omega))
        have g := go (0 < Int32.ofInt x) (by rw [z0, xi_lt h0 hxk]; simp [xcmp])
        exact lv_if_gt hx hb hd ht g.1 g.2
      | 5, _, hd, hc, go =>
        have hxk : xok x := hc.elim id (fun q => absurd q.1 (by omega))
        have g := go (Int32.ofInt x ≤ 0) (by rw [z0, xi_le hxk h0]; simp [xcmp])
        exact lv_if_le hx hb hd ht g.1 g.2
    · cases hs
  · cases hs
theorem xg10 (C : xCx p R s m meth c mi) {pc : Nat} {k : Nat × Nat} {ls : xL} {st : List xV} {M : xM} {a : Int} {b d : Nat} {q : Nat × (Nat × Nat) × xL × List xV × xM}
    (hok : xokb (xy mi).cls (decide ((xy mi).name = "<init>")) (xmi mi 0) (xb mi) mi pc (10, a, b, d) = true) (hs : xsem 10 a b d mi pc k ls st M = some (.inl q)) (hK : xW B p l e R s m args below meth c mi Q q.1 q.2.1 q.2.2.1 q.2.2.2.1 q.2.2.2.2) : xW B p l e R s m args below meth c mi Q pc k ls st M := by
  obtain ⟨hx, hb, hml, hown, -⟩ := C
  simp only [xsem] at hs
  split at hs
  · rename_i y x r
    split at hs
    · rename_i hc
      simp only [xgo, Option.some.injEq, Sum.inl.injEq] at hs
      subst hs
      intro H locs Ls hR hS hL
      have hk := hK H locs Ls hR hS hL
      simp only [List.map_cons, xr] at hk ⊢
      simp only [xokb, Bool.and_eq_true, decide_eq_true_eq] at hok
      obtain ⟨hn, h⟩ := hok
      have hd := xdc_eq h
      have ht : (pc : Int) + ((d : Int) - pc) = (d : Int) := by omega
      have heq : Int32.ofInt x = Int32.ofInt y ↔ x = y := xi_eq (hc.elim Or.inl (fun q => Or.inr q.2))
      have go : ∀ (P : Prop), (xcmp b x y = true ↔ P) → (P → W p l e R s m args below meth c H locs k.1 k.2 Q (F0 m d Ls (r.map (xr B)))) ∧ (¬ P → W p l e R s m args below meth c H locs k.1 k.2 Q (F0 m (pc + 3) Ls (r.map (xr B)))) := fun P hP => ⟨fun q => by
        have e : xcmp b x y = true := hP.mpr q
        rw [if_pos e] at hk
        exact hk, fun q => by
        have e : ¬ xcmp b x y = true := fun z => q (hP.mp z)
        rw [if_neg e] at hk
        exact hk⟩
      match b, hn, hd, hc, go with
      | 0, _, hd, hc, go =>
        have g := go (Int32.ofInt x = Int32.ofInt y) (by rw [heq]; simp [xcmp])
        exact lv_icmp_eq hx hb hd ht g.1 g.2
      | 1, _, hd, hc, go =>
        have g := go (¬ Int32.ofInt x = Int32.ofInt y) (by rw [heq]; simp [xcmp])
        exact lv_icmp_ne hx hb hd ht g.1 (fun z => g.2 (fun n => n z))
      | 2, _, hd, hc, go =>
        have hxk : xok x ∧ xok y := hc.elim id (fun q => absurd q.1 (by omega))
        have g := go (Int32.ofInt x < Int32.ofInt y) (by rw [xi_lt hxk.1 hxk.2]; simp [xcmp])
        exact lv_icmp_lt hx hb hd ht g.1 g.2
      | 3, _, hd, hc, go =>
        have hxk : xok x ∧ xok y := hc.elim id (fun q => absurd q.1 (by omega))
        have g := go (Int32.ofInt y ≤ Int32.ofInt x) (by rw [xi_le hxk.2 hxk.1]; simp [xcmp])
        exact lv_icmp_ge hx hb hd ht g.1 g.2
      | 4, _, hd, hc, go =>
        have hxk : xok x ∧ xok y := hc.elim id (fun q => absurd q.1 (by omega))
        have g := go (Int32.ofInt y < Int32.ofInt x) (by rw [xi_lt hxk.2 hxk.1]; simp [xcmp])
        exact lv_icmp_gt hx hb hd ht g.1 g.2
      | 5, _, hd, hc, go =>
        have hxk : xok x ∧ xok y := hc.elim id (fun q => absurd q.1 (by omega))
        have g := go (Int32.ofInt x ≤ Int32.ofInt y) (by rw [xi_le hxk.1 hxk.2]; simp [xcmp])
        exact lv_icmp_le hx hb hd ht g.1 g.2
    · cases hs
  · cases hs
theorem xg11 (C : xCx p R s m meth c mi) {pc : Nat} {k : Nat × Nat} {ls : xL} {st : List xV} {M : xM} {a : Int} {b d : Nat} {q : Nat × (Nat × Nat) × xL × List xV × xM}
    (hok : xokb (xy mi).cls (decide ((xy mi).name = "<init>")) (xmi mi 0) (xb mi) mi pc (11, a, b, d) = true) (hs : xsem 11 a b d mi pc k ls st M = some (.inl q)) (hK : xW B p l e R s m args below meth c mi Q q.1 q.2.1 q.2.2.1 q.2.2.2.1 q.2.2.2.2) : xW B p l e R s m args below meth c mi Q pc k ls st M := by
  obtain ⟨hx, hb, hml, hown, -⟩ := C
  simp only [xsem, xgo, Option.some.injEq, Sum.inl.injEq] at hs
  subst hs
  intro H locs Ls hR hS hL
  exact lv_goto hx hb (xdc_eq hok) (by omega) (hK H locs Ls hR hS hL)
end XSN
end
section
/-! ===== fields and arrays ===== -/
section XSF
variable {p : Program} {l : Launch} {e : Env} {R : Room} {s : State} {m : MethodId} {args : Array Value} {below : List Frame} {meth : Method} {c : Code} {Q : State → Prop} {B : xB} {mi : Nat}
theorem xg12 (C : xCx p R s m meth c mi) (E : xE B s s.heap) {pc : Nat} {k : Nat × Nat} {ls : xL} {st : List xV} {M : xM} {a : Int} {b d : Nat} {q : Nat × (Nat × Nat) × xL × List xV × xM}
    (hok : xokb (xy mi).cls (decide ((xy mi).name = "<init>")) (xmi mi 0) (xb mi) mi pc (12, a, b, d) = true) (hs : xsem 12 a b d mi pc k ls st M = some (.inl q)) (hK : xW B p l e R s m args below meth c mi Q q.1 q.2.1 q.2.2.1 q.2.2.2.1 q.2.2.2.2) : xW B p l e R s m args below meth c mi Q pc k ls st M := by
  obtain ⟨hx, hb, hml, hown, -⟩ := C
  simp only [xsem] at hs
  split at hs
  · rename_i pp r
    split at hs
    · rename_i hkd
      simp only [xgo, Option.some.injEq, Sum.inl.injEq] at hs
      subst hs
      intro H locs Ls hR hS hL
      have hlow := hR.low hkd (by omega) (by omega)
      have hk := hK H locs Ls hR hS hL
      simp only [List.map_cons] at hk ⊢
      rw [xr_pos (by omega)]
      simp only [xokb, Bool.and_eq_true, decide_eq_true_eq] at hok
      obtain ⟨hb8, hd, h⟩ := hok
      have he := xws_at (B := B) hlow
      rw [xce_obj hkd] at he
      unfold xfl at h
      split at h
      · rename_i o i r1 n1 d1 hw
        simp only [Bool.and_eq_true, decide_eq_true_eq] at h
        obtain ⟨rfl, rfl, rfl, rfl, h, -⟩ := h
        exact va_get hx hb (E.2.1.ws args) (xus_at b hb8) hown E.1 hR.2.2.1 (pp - 3) he (xcl_at b hb8) d hd (E.2.1.get hw rfl args) (fun _ z => z) (xfs_at hd) (xdc_eq h) hk
      · rename_i o i r1 n1 d1 hst hw
        simp only [Bool.and_eq_true, decide_eq_true_eq] at h
        obtain ⟨rfl, rfl, rfl, rfl, h, -⟩ := h
        exact va_getN hx hb (E.2.1.ws args) (xus_at b hb8) hown E.1 hR.2.2.1 (pp - 3) he (xcl_at b hb8) d hd (E.2.1.get hw rfl args) (fun _ z => z) (xfs_at hd) (xdc_eq h) hk
      · cases h
    · cases hs
  · cases hs
theorem xap : ∀ b, b < 8 → (∃ ty0 : Nat → FieldType, ∀ k, k < xN b → parseFieldDescriptor (xT b k).2.2.1 = some (ty0 k)) ∧ ∀ a, a < xN b → ∀ z, z < xN b → a ≠ z → (xT b a).2.1 ≠ (xT b z).2.1
  | 0, _ => ⟨⟨tyX0, tyX0_ok⟩, nmX0⟩
  | 1, _ => ⟨⟨tyX1, tyX1_ok⟩, nmX1⟩
  | 2, _ => ⟨⟨tyX3, tyX3_ok⟩, nmX3⟩
  | 3, _ => ⟨⟨tyX4, tyX4_ok⟩, nmX4⟩
  | 4, _ => ⟨⟨tyX5, tyX5_ok⟩, nmX5⟩
  | 5, _ => ⟨⟨tyX6, tyX6_ok⟩, nmX6⟩
  | 6, _ => ⟨⟨tyX7, tyX7_ok⟩, nmX7⟩
  | 7, _ => ⟨⟨tyX8, tyX8_ok⟩, nmX8⟩
theorem xput (C : xCx p R s m meth c mi) (E : xE B s s.heap) {H : Heap} {locs : List Loc} {cells slots pc : Nat} {Ls : Array Slot} {ws : va_W} {q0 a b d i0 : Nat} {fs : List Value} {v : Value} {rest : List Value} {ty : FieldType}
    (hb8 : b < 8) (hd : d < xN b) (h : xfl (xy mi).cls (xb mi) pc true (xT b d).2.2.2 (decide ((xy mi).name = "<init>")) (xT b d).1 (xT b d).2.1 (xT b d).2.2.1 (xwd i0) = true)
    (hP : va_P B.1 xcl ws H) (hD : va_D (xA B) ws) (hS0 : va_S (xA B) s.heap H locs) (he : ws[q0]? = some (a, .inr (b, fs))) (hty : parseFieldDescriptor (xT b d).2.2.1 = some ty) (hn : narrow ty v = v) (hfit : fits ty v = true) (hl : d < fs.length)
    (kk : ∀ (H1 : Heap) (locs1 : List Loc), va_P B.1 xcl (ws.set q0 (a, .inr (b, fs.set d v))) H1 → va_S (xA B) s.heap H1 locs1 → H1.size = H.size → (∀ q, q ≠ a → H1[q]? = H[q]?) → W p l e R s m args below meth c H1 locs1 cells slots Q (F0 m (pc + 3) Ls rest)) :
    W p l e R s m args below meth c H locs cells slots Q (F0 m pc Ls (v :: .ref a :: rest)) := by
  obtain ⟨hx, hb, hml, hown, -, -, hini, -⟩ := C
  obtain ⟨⟨ty0, htys⟩, hnm⟩ := xap b hb8
  have hts := E.2.1.ws args
  have hin := xus_at b hb8
  have hc := xcl_at b hb8
  have hap := va_apart (own := (xy mi).cls) hts hin ty0 htys hnm E.1 hc
  obtain ⟨r, h1, cell, q1, q2, q3, q4⟩ := hP q0 _ he
  have hr : r = (xCn b, xT b, xN b) := Option.some.inj (h1.symm.trans hc)
  subst hr
  obtain ⟨hSl, hfc, kC, hkC, hkind⟩ := E.1.1 b _ hc
  obtain ⟨cf, kf, fi, f, hi, hsl⟩ := hSl d hd
  have hlay := hts _ (hin _ (u_in_lay hd))
  unfold u_lay at hlay
  have hst := (u_facts hfc hkC (u_lays hts hin hd) hi).1
  have fin' : ∀ H' : Heap, H'[a]? = some (cell.setSlot (B.1.2 b d) v) → H'.size = H.size → (∀ q, q ≠ a → H'[q]? = H[q]?) → W p l e R s m args below meth c H' (locs ++ [⟨a, B.1.2 b d⟩]) cells slots Q (F0 m (pc + 3) Ls rest) := fun H' e1 e2 e3 =>
    kk H' _ (hP.set hD he ⟨_, hc, t_OB.to (V := updV (vp_V fs) d v) ⟨_, e1, q2, q3, t_set q4 hap hd v⟩ (fun j _ => vp_updV_set hl v j)⟩ e3) (hS0.put e2 e3 (hD.2 q0 _ he)) e2 e3
  unfold xfl at h
  split at h
  · rename_i o i r1 n1 d1 hw
    simp only [Bool.and_eq_true, Bool.or_eq_true, decide_eq_true_eq, Bool.not_eq_true', Bool.not_true, Bool.false_eq_true, false_or] at h
    obtain ⟨rfl, rfl, rfl, rfl, h, hfin⟩ := h
    have hlink := E.2.1.get hw rfl args
    rcases hfin with hf | ⟨hf1, hf2⟩
    · rw [if_neg (by rw [hf]; decide)] at hlay
      have h6 := u_store hfc hkC hkind hlay hi hty hn hfit
      refine W.putK hx hb (f := f) ⟨hown, hlink, ⟨_, _, _, hi⟩, hst⟩ (by rw [q2]; exact h6) q1 q3 (by rw [hsl]; exact k2_hasslot (q4 d hd)) rfl rfl (xdc_eq h) fun H' e1 e2 e3 => ?_
      rw [hsl] at e1 ⊢
      exact fin' H' e1 e2 e3
    · cases hff : (xT b d).2.2.2 with
      | false =>
        rw [if_neg (by rw [hff]; decide)] at hlay
        have h6 := u_store hfc hkC hkind hlay hi hty hn hfit
        refine W.putK hx hb (f := f) ⟨hown, hlink, ⟨_, _, _, hi⟩, hst⟩ (by rw [q2]; exact h6) q1 q3 (by rw [hsl]; exact k2_hasslot (q4 d hd)) rfl rfl (xdc_eq h) fun H' e1 e2 e3 => ?_
        rw [hsl] at e1 ⊢
        exact fin' H' e1 e2 e3
      | true =>
        rw [if_pos hff] at hlay
        have hcf : m.cls = cf := by
          obtain ⟨_, _, c', _, _, _, -, -, hf', -, -, -, hown2, -⟩ := Cond.laysFinal_spec hlay
          have e1 : c' = cf := by have := hi.symm.trans hf'; simp at this; exact this.1.symm
          rw [hf2] at hown2
          rw [← e1]; exact Option.some.inj (hown.symm.trans hown2)
        have h6 := u_fits hfc hkC hkind (Or.inr hlay) hi hty hn hfit
        refine W.putFinK hx hb hown hlink hi hst hcf (hini hf1) (by rw [q2]; exact h6) q1 q3 (by rw [hsl]; exact k2_hasslot (q4 d hd)) rfl rfl (xdc_eq h) fun H' e1 e2 e3 => ?_
        rw [hsl] at e1 ⊢
        exact fin' H' e1 e2 e3
  · rename_i o i r1 n1 d1 hst' hw
    simp only [Bool.and_eq_true, Bool.or_eq_true, decide_eq_true_eq, Bool.not_eq_true', Bool.not_true, Bool.false_eq_true, false_or] at h
    obtain ⟨rfl, rfl, rfl, rfl, h, hf⟩ := h
    have hlink := E.2.1.get hw rfl args
    rw [if_neg (by rw [hf]; decide)] at hlay
    have h6 := u_store hfc hkC hkind hlay hi hty hn hfit
    refine va_WputK hx hb (f := f) hown hlink hi hst (by rw [q2]; exact h6) q1 q3 (by rw [hsl]; exact k2_hasslot (q4 d hd)) rfl rfl (xdc_eq h) fun H' e1 e2 e3 => ?_
    rw [hsl] at e1 ⊢
    exact fin' H' e1 e2 e3
  · cases h
def xrt (t : FieldType) : Bool := match t with
  | .object _ => true
  | .array _ => true
  | _ => false
theorem xty_all : (List.range 8).all (fun b => (List.range (xN b)).all (fun d => match parseFieldDescriptor (xT b d).2.2.1 with
    | some t => if xrf b d then xrt t else if xbf b d then decide (t = .boolean) else decide (t = .int)
    | none => false)) = true := by decide +kernel
theorem xty_at {b d : Nat} (hb : b < 8) (hd : d < xN b) : ∃ t, parseFieldDescriptor (xT b d).2.2.1 = some t ∧ (xrf b d = true → xrt t = true) ∧ (xrf b d = false → xbf b d = true → t = .boolean) ∧ (xrf b d = false → xbf b d = false → t = .int) := by
  have h := List.all_eq_true.mp (List.all_eq_true.mp xty_all b (List.mem_range.mpr hb)) d (List.mem_range.mpr hd)
  split at h
  · rename_i t ht
    refine ⟨t, ht, fun q => ?_, fun q q2 => ?_, fun q q2 => ?_⟩
    · rw [if_pos q] at h; exact h
    · rw [if_neg (by rw [q]; decide), if_pos q2] at h; exact of_decide_eq_true h
    · rw [if_neg (by rw [q]; decide), if_neg (by rw [q2]; decide)] at h; exact of_decide_eq_true h
  · cases h
theorem xfs_len (M : xM) (q b : Nat) : (xfs B M q b).length = xN b := by simp [xfs]
theorem xfs_wr {M : xM} {q b d : Nat} {x : Int} (hr : xrf b d = false) : xfs B (xwr M q d x) q b = (xfs B M q b).set d (.int (Int32.ofInt x)) := by
  apply List.ext_getElem?
  intro j
  by_cases hj : j < xN b
  · rw [xfs_at hj]
    by_cases e : j = d
    · subst e
      rw [List.getElem?_set_self (by rw [xfs_len]; exact hj), hr]
      simp [xr, xwr]
    · rw [List.getElem?_set_ne (Ne.symm e), xfs_at hj]
      simp [xwr, xat, e]
  · rw [List.getElem?_eq_none (by rw [xfs_len]; omega), List.getElem?_eq_none (by rw [List.length_set, xfs_len]; omega)]
theorem xfs_wref {M : xM} {q b d v : Nat} (hq : q < M.1.length) (hr : xrf b d = true) : xfs B (xwref M q d v) q b = (xfs B M q b).set d (xr B (.inr v)) := by
  apply List.ext_getElem?
  intro j
  by_cases hj : j < xN b
  · rw [xfs_at hj]
    by_cases e : j = d
    · subst e
      rw [List.getElem?_set_self (by rw [xfs_len]; exact hj), hr, xat_wref M _ _ hq]
      simp
    · rw [List.getElem?_set_ne (Ne.symm e), xfs_at hj, xat_wref M _ _ hq]
      simp [e, xwref]
  · rw [List.getElem?_eq_none (by rw [xfs_len]; omega), List.getElem?_eq_none (by rw [List.length_set, xfs_len]; omega)]
theorem xbelow {H H1 : Heap} {a : Nat} (ha : 3 ≤ a) (h : ∀ q, q ≠ xad B a → H1[q]? = H[q]?) : ∀ q, q < xba B → H1[q]? = H[q]? := fun q hq => h q (by rw [xad_ge ha]; omega)
theorem xg13 (C : xCx p R s m meth c mi) (E : xE B s s.heap) {pc : Nat} {k : Nat × Nat} {ls : xL} {st : List xV} {M : xM} {a : Int} {b d : Nat} {q : Nat × (Nat × Nat) × xL × List xV × xM}
    (hok : xokb (xy mi).cls (decide ((xy mi).name = "<init>")) (xmi mi 0) (xb mi) mi pc (13, a, b, d) = true) (hs : xsem 13 a b d mi pc k ls st M = some (.inl q)) (hK : xW B p l e R s m args below meth c mi Q q.1 q.2.1 q.2.2.1 q.2.2.2.1 q.2.2.2.2) : xW B p l e R s m args below meth c mi Q pc k ls st M := by
  simp only [xokb, Bool.and_eq_true, decide_eq_true_eq] at hok
  obtain ⟨hb8, hd, h⟩ := hok
  obtain ⟨t, ht, t1, t2, t3⟩ := xty_at hb8 hd
  simp only [xsem] at hs
  split at hs
  · rename_i x pp r
    split at hs
    · rename_i hc
      obtain ⟨hkd, hrf, hbo⟩ := hc
      simp only [xgo, Option.some.injEq, Sum.inl.injEq] at hs
      subst hs
      intro H locs Ls hR hS hL
      have hlow := hR.low hkd (by omega) (by omega)
      simp only [List.map_cons]
      rw [xr_pos (p := pp) (by omega)]
      have he := xws_at (B := B) hlow
      rw [xce_obj hkd] at he
      have hnf : narrow t (xr B (.inl x)) = xr B (.inl x) ∧ fits t (xr B (.inl x)) = true := by
        cases hbb : xbf b d with
        | false => rw [t3 hrf hbb]; exact ⟨rfl, rfl⟩
        | true =>
          rw [t2 hrf hbb]
          simp only [xr]
          rcases hbo hbb with rfl | rfl <;> exact ⟨by decide, by decide⟩
      refine xput C E hb8 hd h hR.2.2.1 (xws_D B M) hS he ht hnf.1 hnf.2 (by rw [xfs_len]; exact hd) (fun H1 locs1 hP1 hS1 hz ho => ?_)
      refine hK H1 locs1 Ls (hR.upd (M' := xwr M pp d x) hlow rfl (fun _ _ => rfl) (fun z hz => by funext j; simp [xwr, hz]) (xce_obj (M := xwr M pp d x) hkd) (fun z hz => xce_wr_ne B M x hz) (by rw [xfs_wr hrf]; exact hP1) hz (xbelow hlow.1 ho) (by rw [xat_wr, hkd]; omega)) hS1 hL
    · cases hs
  · rename_i v pp r
    split at hs
    · rename_i hc
      obtain ⟨hkd, hrf⟩ := hc
      simp only [xgo, Option.some.injEq, Sum.inl.injEq] at hs
      subst hs
      intro H locs Ls hR hS hL
      have hlow := hR.low hkd (by omega) (by omega)
      simp only [List.map_cons]
      rw [xr_pos (p := pp) (by omega)]
      have he := xws_at (B := B) hlow
      rw [xce_obj hkd] at he
      have hnf : narrow t (xr B (.inr (v + 1))) = xr B (.inr (v + 1)) ∧ fits t (xr B (.inr (v + 1))) = true := by
        have hrt := t1 hrf
        rw [xr_ref]
        cases t <;> first | exact ⟨rfl, rfl⟩ | cases hrt
      refine xput C E hb8 hd h hR.2.2.1 (xws_D B M) hS he ht hnf.1 hnf.2 (by rw [xfs_len]; exact hd) (fun H1 locs1 hP1 hS1 hz ho => ?_)
      have hkd' : (xat (xwref M pp d (v + 1)) pp).1 = 10 + b := by rw [xat_wref M _ _ hlow.2]; exact hkd
      refine hK H1 locs1 Ls (hR.upd (M' := xwref M pp d (v + 1)) hlow (by simp [xwref]) (fun z hz => xat_wref_ne M hz) (fun z hz => rfl) (xce_obj hkd') (fun z hz => xce_wref_ne B M hz) (by rw [xfs_wref hlow.2 hrf]; exact hP1) hz (xbelow hlow.1 ho) (by rw [hkd']; omega)) hS1 hL
    · cases hs
  · cases hs
end XSF
end
section
/-! ===== arrays, new, the stack, the library ===== -/
section XSG
variable {p : Program} {l : Launch} {e : Env} {R : Room} {s : State} {m : MethodId} {args : Array Value} {below : List Frame} {meth : Method} {c : Code} {Q : State → Prop} {B : xB} {mi : Nat}
theorem xvp {i : Int} {n : Nat} (h0 : 0 ≤ i) (h1 : i < n) (hi : xok i) : vp_in (Int32.ofInt i) n := vp_in_iff.mpr (by rw [xti hi]; exact ⟨h0, h1⟩)
theorem xcl_nat {i : Int} (h0 : 0 ≤ i) (hi : xok i) : (Int32.ofInt i).toNatClampNeg = i.toNat := by
  show (Int32.ofInt i).toInt.toNat = i.toNat
  rw [xti hi]
theorem xt_0 : (xtys B)[0]? = some (B.2.1.1, .int) := rfl
theorem xt_1 : (xtys B)[1]? = some (B.2.1.2.1, .object "ReedBench$Reed") := rfl
theorem xt_2 : (xtys B)[2]? = some (B.2.1.2.2.1, .object "ReedBench$State") := rfl
theorem xt_3 : (xtys B)[3]? = some (B.2.1.2.2.2, .array .int) := rfl
theorem xlow5 {U : State} {M : xM} {H : Heap} (h : xR B U M H) {a : Nat} (ha : (xat M a).1 = 5) : (a = 1 ∨ a = 2) ∨ 3 ≤ a ∧ a < M.1.length := by
  have hl := xat_lt ha (by omega)
  match a, ha with
  | 0, ha => rw [h.2.2.2.1] at ha; cases ha
  | 1, _ => exact Or.inl (Or.inl rfl)
  | 2, _ => exact Or.inl (Or.inr rfl)
  | a + 3, _ => exact Or.inr ⟨by omega, hl⟩
theorem xg14 (C : xCx p R s m meth c mi) (E : xE B s s.heap) {pc : Nat} {k : Nat × Nat} {ls : xL} {st : List xV} {M : xM} {a : Int} {b d : Nat} {q : Nat × (Nat × Nat) × xL × List xV × xM}
    (hok : xokb (xy mi).cls (decide ((xy mi).name = "<init>")) (xmi mi 0) (xb mi) mi pc (14, a, b, d) = true) (hs : xsem 14 a b d mi pc k ls st M = some (.inl q)) (hK : xW B p l e R s m args below meth c mi Q q.1 q.2.1 q.2.2.1 q.2.2.2.1 q.2.2.2.2) : xW B p l e R s m args below meth c mi Q pc k ls st M := by
  obtain ⟨hx, hb, hml, hown, -⟩ := C
  simp only [xsem] at hs
  split at hs
  · rename_i i pp r
    split at hs
    · rename_i hc
      obtain ⟨hkd, h0, h1, hi⟩ := hc
      simp only [xgo, Option.some.injEq, Sum.inl.injEq] at hs
      subst hs
      intro H locs Ls hR hS hL
      have hk := hK H locs Ls hR hS hL
      simp only [List.map_cons] at hk ⊢
      rcases hkd with hkd | hkd
      · have hlow := hR.low hkd (by omega) (by omega)
        rw [xr_pos (p := pp) (by omega)]
        have he := xws_at (B := B) hlow
        rw [xce_1 hkd] at he
        refine va_iald hx hb E.1 hR.2.2.1 (pp - 3) 0 he xt_0 (xvp h0 h1 hi) (xdc_eq hok) ?_
        rw [xcl_nat h0 hi]
        exact hk
      · have go : xX B M s H pp → 0 < pp → W p l e R s m args below meth c H locs k.1 k.2 Q (F0 m pc Ls (xr B (.inl i) :: xr B (.inr pp) :: r.map (xr B))) := fun hX hp => by
          obtain ⟨-, -, scr, g1, g2, g3, g4, g5⟩ := hX
          rw [xr_pos hp]
          refine W.iald (v := xr B (.inl (M.2 pp i.toNat))) hx hb g1 g2 g3 (fun z => xvp h0 h1 hi (z.imp id (fun z => Nat.le_trans g4.1 z))) ?_ rfl rfl (xdc_eq hok) hk
          rw [xcl_nat h0 hi]
          exact g5 _ (by omega)
        rcases xlow5 hR hkd with (rfl | rfl) | hlow
        · exact go hR.2.2.2.2.1 (by omega)
        · exact go hR.2.2.2.2.2.1 (by omega)
        · exact absurd hkd (hR.2.2.2.2.2.2 pp hlow.1)
    · cases hs
  · cases hs
theorem xg15 (C : xCx p R s m meth c mi) (E : xE B s s.heap) {pc : Nat} {k : Nat × Nat} {ls : xL} {st : List xV} {M : xM} {a : Int} {b d : Nat} {q : Nat × (Nat × Nat) × xL × List xV × xM}
    (hok : xokb (xy mi).cls (decide ((xy mi).name = "<init>")) (xmi mi 0) (xb mi) mi pc (15, a, b, d) = true) (hs : xsem 15 a b d mi pc k ls st M = some (.inl q)) (hK : xW B p l e R s m args below meth c mi Q q.1 q.2.1 q.2.2.1 q.2.2.2.1 q.2.2.2.2) : xW B p l e R s m args below meth c mi Q pc k ls st M := by
  obtain ⟨hx, hb, hml, hown, -⟩ := C
  simp only [xsem] at hs
  split at hs
  · rename_i x i pp r
    split at hs
    · rename_i hc
      obtain ⟨hkd, h0, h1, hi⟩ := hc
      simp only [xgo, Option.some.injEq, Sum.inl.injEq] at hs
      subst hs
      intro H locs Ls hR hS hL
      simp only [List.map_cons]
      have hlow := hR.low hkd (by omega) (by omega)
      rw [xr_pos (p := pp) (by omega)]
      have he := xws_at (B := B) hlow
      rw [xce_1 hkd] at he
      refine W.iast hx hb (hR.2.2.1 _ _ he) ((E.1.2 0 _ xt_0).1 _ _) (fun z => by cases z) (by show ¬ (_ ∨ (arrV _ _ _).slots.size ≤ _); rw [arrV_size]; exact xvp h0 h1 hi) rfl rfl (xdc_eq hok) fun H1 e1 z oq => ?_
      refine hK H1 _ Ls (hR.upd (M' := xwr M pp i.toNat x) hlow rfl (fun _ _ => rfl) (fun z hz => by funext j; simp [xwr, hz]) (xce_1 (M := xwr M pp i.toNat x) hkd) (fun z hz => xce_wr_ne B M x hz) (hR.2.2.1.set (xws_D B M) he ?_ oq) z (xbelow hlow.1 oq) (by rw [xat_wr, hkd]; omega)) (hS.put z oq ((xws_D B M).2 _ _ he)) hL
      show H1[xad B pp]? = some (vp_cell _ _)
      rw [e1]
      dsimp only
      rw [vp_cell_i, vp_cell_i, arrV_store, xcl_nat h0 hi]
      congr 2
      funext j
      by_cases hj : j = i.toNat
      · subst hj; simp [updV, xwr]
      · simp [updV, xwr, hj]
    · cases hs
  · cases hs
theorem xg16 (C : xCx p R s m meth c mi) (E : xE B s s.heap) {pc : Nat} {k : Nat × Nat} {ls : xL} {st : List xV} {M : xM} {a : Int} {b d : Nat} {q : Nat × (Nat × Nat) × xL × List xV × xM}
    (hok : xokb (xy mi).cls (decide ((xy mi).name = "<init>")) (xmi mi 0) (xb mi) mi pc (16, a, b, d) = true) (hs : xsem 16 a b d mi pc k ls st M = some (.inl q)) (hK : xW B p l e R s m args below meth c mi Q q.1 q.2.1 q.2.2.1 q.2.2.2.1 q.2.2.2.2) : xW B p l e R s m args below meth c mi Q pc k ls st M := by
  obtain ⟨hx, hb, hml, hown, -⟩ := C
  simp only [xsem] at hs
  split at hs
  · rename_i i pp r
    split at hs
    · rename_i hc
      obtain ⟨hkd, h0, h1, hi⟩ := hc
      simp only [xgo, Option.some.injEq, Sum.inl.injEq] at hs
      subst hs
      intro H locs Ls hR hS hL
      have hk := hK H locs Ls hR hS hL
      simp only [List.map_cons] at hk ⊢
      have hlow : 3 ≤ pp ∧ pp < M.1.length := by
        rcases hkd with h | h | h
        · exact hR.low h (by omega) (by omega)
        · exact hR.low h (by omega) (by omega)
        · exact hR.low h (by omega) (by omega)
      rw [xr_pos (p := pp) (by omega)]
      have he := xws_at (B := B) hlow
      have hlt : (Int32.ofInt i).toNatClampNeg < (xat M pp).2.1 := by rw [xcl_nat h0 hi]; omega
      have go : ∀ (cA : ClassId) (ty : FieldType) (t0 : Nat), (xtys B)[t0]? = some (cA, ty) → ty.isReference = true → xce B M pp = .inl (cA, (xat M pp).2.1, .inr (.inr (.inr (.inr (xra B M pp))))) → W p l e R s m args below meth c H locs k.1 k.2 Q (F0 m pc Ls (xr B (.inl i) :: .ref (xad B pp) :: r.map (xr B))) := fun cA ty t0 ht hrf hce => by
        rw [hce] at he
        refine W.aald (v := xr B (.inr ((xat M pp).2.2 i.toNat))) (ty := ty) hx hb (hR.2.2.1 _ _ he) ((E.1.2 t0 _ ht).1 _ (fun j => va_rf (xra B M pp j))) hrf (fun z => by cases z) (by show ¬ (_ ∨ (arrV _ _ _).slots.size ≤ _); rw [arrV_size]; exact xvp h0 h1 hi) ?_ rfl rfl (xdc_eq hok) hk
        show (arrV _ _ _).slots[_]? = _
        rw [arrV_read _ _ hlt, xcl_nat h0 hi]
        rfl
      rcases hkd with h | h | h
      · exact go _ _ 1 xt_1 rfl (xce_2 h)
      · exact go _ _ 2 xt_2 rfl (xce_3 h)
      · exact go _ _ 3 xt_3 rfl (xce_4 h)
    · cases hs
  · cases hs
theorem xg17 (C : xCx p R s m meth c mi) (E : xE B s s.heap) {pc : Nat} {k : Nat × Nat} {ls : xL} {st : List xV} {M : xM} {a : Int} {b d : Nat} {q : Nat × (Nat × Nat) × xL × List xV × xM}
    (hok : xokb (xy mi).cls (decide ((xy mi).name = "<init>")) (xmi mi 0) (xb mi) mi pc (17, a, b, d) = true) (hs : xsem 17 a b d mi pc k ls st M = some (.inl q)) (hK : xW B p l e R s m args below meth c mi Q q.1 q.2.1 q.2.2.1 q.2.2.2.1 q.2.2.2.2) : xW B p l e R s m args below meth c mi Q pc k ls st M := by
  obtain ⟨hx, hb, hml, hown, -⟩ := C
  simp only [xsem] at hs
  split at hs
  · rename_i v i pp r
    split at hs
    · rename_i hc
      obtain ⟨hkd, h0, h1, hi⟩ := hc
      simp only [xgo, Option.some.injEq, Sum.inl.injEq] at hs
      subst hs
      intro H locs Ls hR hS hL
      simp only [List.map_cons]
      have hlow : 3 ≤ pp ∧ pp < M.1.length := by
        rcases hkd with ⟨h, -⟩ | ⟨h, -⟩
        · exact hR.low h (by omega) (by omega)
        · exact hR.low h (by omega) (by omega)
      rw [xr_pos (p := pp) (by omega), xr_ref]
      have he := xws_at (B := B) hlow
      have hlt : (Int32.ofInt i).toNatClampNeg < (xat M pp).2.1 := by rw [xcl_nat h0 hi]; omega
      have hn0 : ¬ Int32.ofInt i < 0 := fun z => (xvp h0 h1 hi) (Or.inl z)
      have go : ∀ (cA : ClassId) (ci t0 : Nat) (kd : Nat), ci < 8 → kd ≠ 5 → (xtys B)[t0]? = some (cA, .object (xCn ci)) → (xat M (v + 1)).1 = 10 + ci → (xat M pp).1 = kd → (∀ M' : xM, (xat M' pp).1 = kd → xce B M' pp = .inl (cA, (xat M' pp).2.1, .inr (.inr (.inr (.inr (xra B M' pp)))))) → W p l e R s m args below meth c H locs k.1 k.2 Q (F0 m pc Ls (.ref (xad B (v + 1)) :: xr B (.inl i) :: .ref (xad B pp) :: r.map (xr B))) := fun cA ci t0 kd hci hkd5 ht hvk hpk hce => by
        have hlv := hR.low hvk (by omega) (by omega)
        have hev := xws_at (B := B) hlv
        rw [xce_obj hvk] at hev
        rw [hce M hpk] at he
        have hcl := xcl_at ci hci
        obtain ⟨r', hr', cellV, g1, g2, g3, -⟩ := hR.2.2.1 _ _ hev
        have hcls := (E.1.1 ci _ hcl).2
        obtain ⟨kA, comp, k1, k2, k3, -⟩ := (E.1.2 t0 _ ht).2
        have hcomp : comp = B.1.1 ci := Option.some.inj (k3.symm.trans hcls.1)
        subst hcomp
        obtain ⟨kC, hkC, -⟩ := id hcls.2
        refine W.aast hx hb (hR.2.2.1 _ _ he) (fun z h => by cases h) (fun h => by cases h) k1 k2 rfl hkC ⟨hn0, by show _ < (arrV _ _ _).slots.size; rw [arrV_size]; exact hlt⟩ g1 (fun z h => by rw [g3] at h; cases h) (by rw [g2]; exact hkC) (by rw [g2]; exact va_assign hcls) rfl rfl (xdc_eq hok) fun H1 e1 z oq => ?_
        have hk' : (xat (xwref M pp i.toNat (v + 1)) pp).1 = kd := by rw [xat_wref M _ _ hlow.2]; exact hpk
        refine hK H1 _ Ls (hR.upd (M' := xwref M pp i.toNat (v + 1)) hlow (by simp [xwref]) (fun z hz => xat_wref_ne M hz) (fun z hz => rfl) (hce _ hk') (fun z hz => xce_wref_ne B M hz) (hR.2.2.1.set (xws_D B M) he ?_ oq) z (xbelow hlow.1 oq) (by rw [hk']; exact hkd5)) (hS.put z oq ((xws_D B M).2 _ _ he)) hL
        show H1[xad B pp]? = some (vp_cell _ _)
        rw [e1]
        dsimp only
        rw [vp_cell_q, vp_cell_q, arrV_store, xcl_nat h0 hi]
        unfold xra
        rw [xat_wref M _ _ hlow.2]
        congr 2
        funext j
        by_cases hj : j = i.toNat
        · subst hj; simp [updV, xro, va_rf]
        · simp [updV, hj]
      rcases hkd with ⟨h, h2⟩ | ⟨h, h2⟩
      · exact go _ 3 1 2 (by omega) (by omega) xt_1 h2 h (fun M' h' => xce_2 h')
      · exact go _ 4 2 3 (by omega) (by omega) xt_2 h2 h (fun M' h' => xce_3 h')
    · cases hs
  · cases hs
theorem xg18 (C : xCx p R s m meth c mi) (E : xE B s s.heap) {pc : Nat} {k : Nat × Nat} {ls : xL} {st : List xV} {M : xM} {a : Int} {b d : Nat} {q : Nat × (Nat × Nat) × xL × List xV × xM}
    (hok : xokb (xy mi).cls (decide ((xy mi).name = "<init>")) (xmi mi 0) (xb mi) mi pc (18, a, b, d) = true) (hs : xsem 18 a b d mi pc k ls st M = some (.inl q)) (hK : xW B p l e R s m args below meth c mi Q q.1 q.2.1 q.2.2.1 q.2.2.2.1 q.2.2.2.2) : xW B p l e R s m args below meth c mi Q pc k ls st M := by
  obtain ⟨hx, hb, hml, hown, -⟩ := C
  simp only [xsem] at hs
  split at hs
  · rename_i pp r
    split at hs
    · rename_i hkd
      simp only [xgo, Option.some.injEq, Sum.inl.injEq] at hs
      subst hs
      intro H locs Ls hR hS hL
      have hk := hK H locs Ls hR hS hL
      simp only [List.map_cons] at hk ⊢
      have hof : (Int32.ofNat (xat M pp).2.1) = Int32.ofInt ((xat M pp).2.1 : Int) := (Int32.ofInt_eq_ofNat).symm
      rcases hkd with hkd | hkd
      · have hlow := hR.low hkd (by omega) (by omega)
        rw [xr_pos (p := pp) (by omega)]
        have he := xws_at (B := B) hlow
        rw [xce_1 hkd] at he
        exact va_alen hx hb E.1 hR.2.2.1 (pp - 3) 0 he xt_0 hof (xdc_eq hok) hk
      · have go : xX B M s H pp → 0 < pp → W p l e R s m args below meth c H locs k.1 k.2 Q (F0 m pc Ls (xr B (.inr pp) :: r.map (xr B))) := fun hX hp => by
          obtain ⟨-, -, scr, g1, g2, g3, g4, g5⟩ := hX
          rw [xr_pos hp]
          exact W.alen hx hb g1 g2 (g4.2.trans hof) rfl rfl (xdc_eq hok) hk
        rcases xlow5 hR hkd with (rfl | rfl) | hlow
        · exact go hR.2.2.2.2.1 (by omega)
        · exact go hR.2.2.2.2.2.1 (by omega)
        · exact absurd hkd (hR.2.2.2.2.2.2 pp hlow.1)
    · cases hs
  · cases hs
theorem xg23 (C : xCx p R s m meth c mi) {pc : Nat} {k : Nat × Nat} {ls : xL} {st : List xV} {M : xM} {a : Int} {b d : Nat} {q : Nat × (Nat × Nat) × xL × List xV × xM}
    (hok : xokb (xy mi).cls (decide ((xy mi).name = "<init>")) (xmi mi 0) (xb mi) mi pc (23, a, b, d) = true) (hs : xsem 23 a b d mi pc k ls st M = some (.inl q)) (hK : xW B p l e R s m args below meth c mi Q q.1 q.2.1 q.2.2.1 q.2.2.2.1 q.2.2.2.2) : xW B p l e R s m args below meth c mi Q pc k ls st M := by
  obtain ⟨hx, hb, hml, hown, -⟩ := C
  simp only [xsem] at hs
  split at hs
  · simp only [xgo, Option.some.injEq, Sum.inl.injEq] at hs
    subst hs
    intro H locs Ls hR hS hL
    exact lv_dup hx hb (xdc_eq hok) (xr_cat B _) (hK H locs Ls hR hS hL)
  · cases hs
theorem xg24 (C : xCx p R s m meth c mi) {pc : Nat} {k : Nat × Nat} {ls : xL} {st : List xV} {M : xM} {a : Int} {b d : Nat} {q : Nat × (Nat × Nat) × xL × List xV × xM}
    (hok : xokb (xy mi).cls (decide ((xy mi).name = "<init>")) (xmi mi 0) (xb mi) mi pc (24, a, b, d) = true) (hs : xsem 24 a b d mi pc k ls st M = some (.inl q)) (hK : xW B p l e R s m args below meth c mi Q q.1 q.2.1 q.2.2.1 q.2.2.2.1 q.2.2.2.2) : xW B p l e R s m args below meth c mi Q pc k ls st M := by
  obtain ⟨hx, hb, hml, hown, -⟩ := C
  simp only [xsem] at hs
  split at hs
  · simp only [xgo, Option.some.injEq, Sum.inl.injEq] at hs
    subst hs
    intro H locs Ls hR hS hL
    exact lv_pop hx hb (xdc_eq hok) (xr_cat B _) (hK H locs Ls hR hS hL)
  · cases hs
theorem xg25 (C : xCx p R s m meth c mi) {pc : Nat} {k : Nat × Nat} {ls : xL} {st : List xV} {M : xM} {a : Int} {b d : Nat} {q : Nat × (Nat × Nat) × xL × List xV × xM}
    (hok : xokb (xy mi).cls (decide ((xy mi).name = "<init>")) (xmi mi 0) (xb mi) mi pc (25, a, b, d) = true) (hs : xsem 25 a b d mi pc k ls st M = some (.inl q)) (hK : xW B p l e R s m args below meth c mi Q q.1 q.2.1 q.2.2.1 q.2.2.2.1 q.2.2.2.2) : xW B p l e R s m args below meth c mi Q pc k ls st M := by
  obtain ⟨hx, hb, hml, hown, -⟩ := C
  simp only [xsem] at hs
  split at hs
  · simp only [xgo, Option.some.injEq, Sum.inl.injEq] at hs
    subst hs
    intro H locs Ls hR hS hL
    exact lv_dup2_11 hx hb (xdc_eq hok) (xr_cat B _) (xr_cat B _) (hK H locs Ls hR hS hL)
  · cases hs
theorem xsum (B : xB) : ∀ st : List xV, ((st.map (xr B)).map fun v => v.category).sum = st.length
  | [] => rfl
  | v :: t => by
    have := xsum B t
    simp only [List.map_cons, List.sum_cons, xr_cat, List.length_cons]
    rw [this]; omega
theorem xlk0_eq {own : String} {cc : ByteArray} {pc kd i0 : Nat} {y : MethodName} (h : xlk0 own cc pc kd y (xwd i0) = true) : ∃ i, xwd i0 = some (.methodLink own i y) ∧ decode cc pc = .ok (xiv kd i, 3) := by
  unfold xlk0 at h
  split at h
  · rename_i o i z hw
    simp only [Bool.and_eq_true, decide_eq_true_eq] at h
    obtain ⟨rfl, rfl, h⟩ := h
    exact ⟨i, hw, xdc_eq h⟩
  · cases h
theorem xg26 (C : xCx p R s m meth c mi) (E : xE B s s.heap) {pc : Nat} {k : Nat × Nat} {ls : xL} {st : List xV} {M : xM} {a : Int} {b d : Nat} {q : Nat × (Nat × Nat) × xL × List xV × xM}
    (hok : xokb (xy mi).cls (decide ((xy mi).name = "<init>")) (xmi mi 0) (xb mi) mi pc (26, a, b, d) = true) (hs : xsem 26 a b d mi pc k ls st M = some (.inl q)) (hK : xW B p l e R s m args below meth c mi Q q.1 q.2.1 q.2.2.1 q.2.2.2.1 q.2.2.2.2) : xW B p l e R s m args below meth c mi Q pc k ls st M := by
  obtain ⟨hx, hb, hml, hown, -, -, -, hr1, hr2, -⟩ := C
  simp only [xsem] at hs
  split at hs
  · rename_i pp r
    split at hs
    · rename_i hc
      obtain ⟨c1, c2, c3⟩ := hc
      simp only [xgo, Option.some.injEq, Sum.inl.injEq] at hs
      subst hs
      intro H locs Ls hR hS hL
      have hk := hK H locs Ls hR hS hL
      simp only [List.map_cons, xr_ref]
      obtain ⟨i, hw, hd⟩ := xlk0_eq hok
      refine W.objInit hx hb hown (E.2.1.get hw rfl args) (E.2.1.get xw_obi rfl args) (E.2.1.get xw_obc rfl args) rfl (by rw [hml]; exact hL.1) rfl hd (by omega) (by rw [xsum]; show 2 * 0 + _ + _ ≤ _; omega) hk
    · cases hs
  · cases hs
theorem xg31 (C : xCx p R s m meth c mi) (E : xE B s s.heap) {pc : Nat} {k : Nat × Nat} {ls : xL} {st : List xV} {M : xM} {a : Int} {b d : Nat} {q : Nat × (Nat × Nat) × xL × List xV × xM}
    (hok : xokb (xy mi).cls (decide ((xy mi).name = "<init>")) (xmi mi 0) (xb mi) mi pc (31, a, b, d) = true) (hs : xsem 31 a b d mi pc k ls st M = some (.inl q)) (hK : xW B p l e R s m args below meth c mi Q q.1 q.2.1 q.2.2.1 q.2.2.2.1 q.2.2.2.2) : xW B p l e R s m args below meth c mi Q pc k ls st M := by
  obtain ⟨hx, hb, hml, hown, -⟩ := C
  simp only [xsem, xgo, Option.some.injEq, Sum.inl.injEq] at hs
  subst hs
  intro H locs Ls hR hS hL
  have hk := hK H locs Ls hR hS hL
  simp only [List.map_cons, xr_ref] at hk
  simp only [xokb] at hok
  unfold xgs at hok
  split at hok
  · rename_i o i r n d1 hw
    simp only [Bool.and_eq_true, decide_eq_true_eq] at hok
    obtain ⟨rfl, rfl, rfl, rfl, h⟩ := hok
    exact va_gets hx hb E.2.2.2 hS hown (E.2.1.get hw rfl args) (fun _ z => z) (xdc_eq h) hk
  · cases hok
theorem xg32 (C : xCx p R s m meth c mi) {pc : Nat} {k : Nat × Nat} {ls : xL} {st : List xV} {M : xM} {a : Int} {b d : Nat} {q : Nat × (Nat × Nat) × xL × List xV × xM}
    (hok : xokb (xy mi).cls (decide ((xy mi).name = "<init>")) (xmi mi 0) (xb mi) mi pc (32, a, b, d) = true) (hs : xsem 32 a b d mi pc k ls st M = some (.inl q)) (hK : xW B p l e R s m args below meth c mi Q q.1 q.2.1 q.2.2.1 q.2.2.2.1 q.2.2.2.2) : xW B p l e R s m args below meth c mi Q pc k ls st M := by
  obtain ⟨hx, hb, hml, hown, -⟩ := C
  simp only [xsem] at hs
  split at hs
  · rename_i x r
    split at hs
    · rename_i hxk
      simp only [xgo, Option.some.injEq, Sum.inl.injEq] at hs
      subst hs
      intro H locs Ls hR hS hL
      have hk := hK H locs Ls hR hS hL
      simp only [List.map_cons, xr]
      have hd := xdc_eq hok
      have hv := xti hxk
      dsimp only at hk
      split at hk
      · rename_i hc
        exact lv_tableOut (tgt := b) hx hb hd (by rw [hv]; omega) (by omega) hk
      · rename_i hc
        have hlt : (x - a).toNat < (xsw mi pc).length := by omega
        refine lv_tableIn (tgt := xnth (xsw mi pc) (x - a).toNat 0) (off := ((xnth (xsw mi pc) (x - a).toNat 0 : Nat) : Int) - pc) hx hb hd (by rw [hv]; omega) (by rw [hv]; omega) ?_ (by omega) hk
        rw [hv, xnth_get]
        simp [hlt]
    · cases hs
  · cases hs
theorem xg33 (C : xCx p R s m meth c mi) (E : xE B s s.heap) {pc : Nat} {k : Nat × Nat} {ls : xL} {st : List xV} {M : xM} {a : Int} {b d : Nat} {q : Nat × (Nat × Nat) × xL × List xV × xM} (hkc : k.1 ≤ xmi mi 7 ∧ k.2 ≤ xmi mi 8)
    (hok : xokb (xy mi).cls (decide ((xy mi).name = "<init>")) (xmi mi 0) (xb mi) mi pc (33, a, b, d) = true) (hs : xsem 33 a b d mi pc k ls st M = some (.inl q)) (hK : xW B p l e R s m args below meth c mi Q q.1 q.2.1 q.2.2.1 q.2.2.2.1 q.2.2.2.2) : xW B p l e R s m args below meth c mi Q pc k ls st M := by
  obtain ⟨hx, hb, hml, hown, -, -, -, hr1, hr2, hr3, hr4⟩ := C
  simp only [xsem] at hs
  split at hs
  · rename_i y x r
    split at hs
    · rename_i hc
      obtain ⟨kx, ky, c1, c2, c3⟩ := hc
      simp only [xgo, Option.some.injEq, Sum.inl.injEq] at hs
      subst hs
      intro H locs Ls hR hS hL
      have hk := hK H locs Ls hR hS hL
      simp only [List.map_cons, xr] at hk ⊢
      obtain ⟨i, hw, hd⟩ := xlk0_eq hok
      refine va_mmin hx hb (by rw [hml]; exact hL.1.symm) hown (E.2.1.get hw rfl args) (E.2.1.get xw_mis rfl args) (E.2.1.get xw_mai rfl args) (E.2.1.get xw_mic rfl args) (by omega) (by rw [xsum]; omega) (by omega) (by omega) hd ?_
      by_cases h : y < x
      · rw [if_pos h] at hk; rw [if_pos ((xi_lt ky kx).mpr h)]; exact hk
      · rw [if_neg h] at hk; rw [if_neg (fun z => h ((xi_lt ky kx).mp z))]; exact hk
    · cases hs
  · cases hs
theorem xg34 (C : xCx p R s m meth c mi) (E : xE B s s.heap) {pc : Nat} {k : Nat × Nat} {ls : xL} {st : List xV} {M : xM} {a : Int} {b d : Nat} {q : Nat × (Nat × Nat) × xL × List xV × xM} (hkc : k.1 ≤ xmi mi 7 ∧ k.2 ≤ xmi mi 8)
    (hok : xokb (xy mi).cls (decide ((xy mi).name = "<init>")) (xmi mi 0) (xb mi) mi pc (34, a, b, d) = true) (hs : xsem 34 a b d mi pc k ls st M = some (.inl q)) (hK : xW B p l e R s m args below meth c mi Q q.1 q.2.1 q.2.2.1 q.2.2.2.1 q.2.2.2.2) : xW B p l e R s m args below meth c mi Q pc k ls st M := by
  obtain ⟨hx, hb, hml, hown, -, -, -, hr1, hr2, hr3, hr4⟩ := C
  simp only [xsem] at hs
  split at hs
  · rename_i y x r
    split at hs
    · rename_i hc
      obtain ⟨kx, ky, c1, c2, c3⟩ := hc
      simp only [xgo, Option.some.injEq, Sum.inl.injEq] at hs
      subst hs
      intro H locs Ls hR hS hL
      have hk := hK H locs Ls hR hS hL
      simp only [List.map_cons, xr] at hk ⊢
      obtain ⟨i, hw, hd⟩ := xlk0_eq hok
      refine va_mmax hx hb (by rw [hml]; exact hL.1.symm) hown (E.2.1.get hw rfl args) (E.2.1.get xw_mas rfl args) (E.2.1.get xw_mai rfl args) (E.2.1.get xw_mac rfl args) (by omega) (by rw [xsum]; omega) (by omega) (by omega) hd ?_
      by_cases h : x < y
      · rw [if_pos h] at hk; rw [if_pos ((xi_lt kx ky).mpr h)]; exact hk
      · rw [if_neg h] at hk; rw [if_neg (fun z => h ((xi_lt kx ky).mp z))]; exact hk
    · cases hs
  · cases hs
end XSG
end
section
/-! ===== new cells; arraycopy ===== -/
section XSH
variable {p : Program} {l : Launch} {e : Env} {R : Room} {s : State} {m : MethodId} {args : Array Value} {below : List Frame} {meth : Method} {c : Code} {Q : State → Prop} {B : xB} {mi : Nat}
theorem xat_app {M M' : xM} {cs : List xC} (hl : M'.1 = M.1 ++ cs) {q : Nat} (hq : q < M.1.length) : xat M' q = xat M q := by
  unfold xat; rw [hl]; exact xnth_app _ _ _ hq
theorem xat_app2 {M M' : xM} {cs : List xC} (hl : M'.1 = M.1 ++ cs) (k : Nat) : xat M' (M.1.length + k) = xnth cs k (0, 0, fun _ => 0) := by
  unfold xat; rw [hl]; exact xnth_app2 _ _ _
theorem xce_app {M M' : xM} {cs : List xC} (hl : M'.1 = M.1 ++ cs) {q : Nat} (hq : q < M.1.length) (hf : M'.2 q = M.2 q) : xce B M' q = xce B M q := by
  unfold xce xfs xra; rw [xat_app hl hq, hf]
theorem xR.app {U : State} {M M' : xM} {H H1 : Heap} {cs : List xC} (h : xR B U M H) (hl : M'.1 = M.1 ++ cs) (hf : ∀ q, q < M.1.length → M'.2 q = M.2 q) (hz : H1.size = H.size + cs.length) (hk : ∀ q, q < H.size → H1[q]? = H[q]?) (hc : ∀ k, k < cs.length → va_at B.1 xcl (xad B (M.1.length + k), xce B M' (M.1.length + k)) H1) (h5 : ∀ k, k < cs.length → (xnth cs k (0, 0, fun _ => 0)).1 ≠ 5) : xR B U M' H1 := by
  obtain ⟨e1, e2, e3, e4, e5, e6, e7⟩ := h
  have hlen : M'.1.length = M.1.length + cs.length := by rw [hl, List.length_append]
  have hb : ∀ q, q < xba B → H1[q]? = H[q]? := fun q hq => hk q (by omega)
  refine ⟨by omega, by rw [hz, e2, hlen]; omega, ?_, by rw [xat_app hl (by omega)]; exact e4, e5.kept hb (xat_app hl (by omega)) (hf 1 (by omega)), e6.kept hb (xat_app hl (by omega)) (hf 2 (by omega)), fun q hq => ?_⟩
  · rw [xws_app e1 hl (fun q hq => xce_app hl hq (hf q hq))]
    refine va_P.app (e3.kept (fun k q hq => hk q.1 ((e3 k q hq).lt))) (fun k q hq => ?_)
    rw [List.getElem?_map] at hq
    by_cases hkc : k < cs.length
    · rw [List.getElem?_range hkc] at hq
      simp only [Option.map_some, Option.some.injEq] at hq
      rw [← hq]
      exact hc k hkc
    · rw [List.getElem?_eq_none (by simp; omega)] at hq
      cases hq
  · by_cases hq2 : q < M.1.length
    · rw [xat_app hl hq2]; exact e7 q hq
    · by_cases hq3 : q - M.1.length < cs.length
      · have := h5 _ hq3
        rw [← xat_app2 hl, show M.1.length + (q - M.1.length) = q by omega] at this
        exact this
      · unfold xat; rw [xnth_of_le _ _ _ (by omega)]; exact (by decide)
theorem xR.top {U : State} {M : xM} {H : Heap} (h : xR B U M H) (k : Nat) : xad B (M.1.length + k) = H.size + k := by
  rw [xad_ge (by have := h.1; omega), h.2.1]; have := h.1; omega
theorem xcl1_eq {own C : String} {cc : ByteArray} {pc n i0 : Nat} {f : Nat → Instr} (h : xcl1 own C cc pc f n (xwd i0) = true) : ∃ i, xwd i0 = some (.classLink own i C) ∧ decode cc pc = .ok (f i, n) := by
  unfold xcl1 at h
  split at h
  · rename_i o i z hw
    simp only [Bool.and_eq_true, decide_eq_true_eq] at h
    obtain ⟨rfl, rfl, h⟩ := h
    exact ⟨i, hw, xdc_eq h⟩
  · cases h
theorem xiw_at {b : Nat} (hb : b < 8) : xwd (xnth xiw b (0, 0)).1 = some (.instantiable (xCn b) (xN b)) ∧ xwd (xnth xiw b (0, 0)).2 = some (.initialized (xCn b)) := by
  have := List.all_eq_true.mp xiw_ok b (List.mem_range.mpr hb)
  simp only [Bool.and_eq_true, decide_eq_true_eq] at this
  exact this
theorem xg19 (C : xCx p R s m meth c mi) (E : xE B s s.heap) {pc : Nat} {k : Nat × Nat} {ls : xL} {st : List xV} {M : xM} {a : Int} {b d : Nat} {q : Nat × (Nat × Nat) × xL × List xV × xM}
    (hok : xokb (xy mi).cls (decide ((xy mi).name = "<init>")) (xmi mi 0) (xb mi) mi pc (19, a, b, d) = true) (hs : xsem 19 a b d mi pc k ls st M = some (.inl q)) (hK : xW B p l e R s m args below meth c mi Q q.1 q.2.1 q.2.2.1 q.2.2.2.1 q.2.2.2.2) : xW B p l e R s m args below meth c mi Q pc k ls st M := by
  obtain ⟨hx, hb, hml, hown, -, -, -, hr1, hr2, hr3, hr4⟩ := C
  simp only [xsem] at hs
  split at hs
  · rename_i hc
    simp only [xgo, Option.some.injEq, Sum.inl.injEq] at hs
    subst hs
    intro H locs Ls hR hS hL
    simp only [xokb, Bool.and_eq_true, decide_eq_true_eq] at hok
    obtain ⟨hb8, hok⟩ := hok
    obtain ⟨i, hw, hd⟩ := xcl1_eq hok
    obtain ⟨w1, w2⟩ := xiw_at hb8
    have hcl := xcl_at b hb8
    have hKn := E.1.1 b _ hcl
    obtain ⟨⟨ty0, htys⟩, hnm⟩ := xap b hb8
    refine W.newcK hx hb hown (E.2.1.get hw rfl args) (E.2.1.get w1 rfl args) (E.2.1.get w2 rfl args) rfl hd (by omega) (by omega) hKn.2.1 rfl fun H1 kC hkC e1 z1 o1 => ?_
    have htop := hR.top 0
    have hkd : (xat (xnew M (10 + b) (xN b)) (M.1.length + 0)).1 = 10 + b := by rw [xat_app2 (M' := xnew M (10 + b) (xN b)) rfl]; rfl
    have hk := hK H1 locs Ls (hR.app (M' := xnew M (10 + b) (xN b)) (cs := [(10 + b, xN b, fun _ => 0)]) rfl (fun q hq => by funext j; simp [xnew, Nat.ne_of_lt hq]) z1 o1 (fun j hj => ?_) (fun j hj => ?_)) ⟨Nat.le_trans hS.1 (by omega), fun x h1 h2 => (o1 x (Nat.lt_of_lt_of_le h1 hS.1)).trans (hS.2.1 x h1 h2), hS.2.2⟩ hL
    · simp only [List.map_cons] at hk
      rw [xr_pos (by have := hR.1; omega)] at hk
      rw [show M.1.length + 0 = M.1.length from rfl] at htop
      rw [htop] at hk
      exact hk
    · have hj0 : j = 0 := by simpa using hj
      subst hj0
      rw [xce_obj hkd, htop]
      refine ⟨_, hcl, (u_born ty0 (E.2.1.ws args) (xus_at b hb8) hKn hkC e1 htys).to (fun j hj => ?_)⟩
      obtain ⟨t, ht, t1, t2, t3⟩ := xty_at hb8 hj
      have et : ty0 j = t := Option.some.inj ((htys j hj).symm.trans ht)
      have hv : vp_V (xfs B (xnew M (10 + b) (xN b)) (M.1.length + 0) b) j = xr B (if xrf b j then .inr 0 else .inl 0) := by
        unfold vp_V
        rw [List.getD_eq_getElem?_getD, xfs_at hj]
        have e1 : (xat (xnew M (10 + b) (xN b)) (M.1.length + 0)).2.2 j = 0 := by rw [xat_app2 (M' := xnew M (10 + b) (xN b)) rfl]; rfl
        have e2 : (xnew M (10 + b) (xN b)).2 (M.1.length + 0) j = 0 := by simp [xnew]
        rw [e1, e2]
        rfl
      rw [hv, et]
      cases hrf : xrf b j with
      | true =>
        have := t1 hrf
        cases t <;> first | rfl | cases this
      | false =>
        cases hbf : xbf b j with
        | true => rw [t2 hrf hbf]; rfl
        | false => rw [t3 hrf hbf]; rfl
    · have hj0 : j = 0 := by simpa using hj
      subst hj0
      show 10 + b ≠ 5
      omega
  · cases hs
theorem xwrap {n : Int} (h0 : 0 ≤ n) (h1 : n ≤ 134217728) : xok n ∧ ¬ Int32.ofInt n < 0 ∧ (Int32.ofInt n).toNatClampNeg = n.toNat := by
  have hk : xok n := ⟨by omega, by omega⟩
  refine ⟨hk, fun z => ?_, xcl_nat h0 hk⟩
  rw [show (0 : Int32) = Int32.ofInt 0 from rfl, xi_lt hk ⟨by omega, by omega⟩] at z
  omega
theorem xg20 (C : xCx p R s m meth c mi) (E : xE B s s.heap) {pc : Nat} {k : Nat × Nat} {ls : xL} {st : List xV} {M : xM} {a : Int} {b d : Nat} {q : Nat × (Nat × Nat) × xL × List xV × xM}
    (hok : xokb (xy mi).cls (decide ((xy mi).name = "<init>")) (xmi mi 0) (xb mi) mi pc (20, a, b, d) = true) (hs : xsem 20 a b d mi pc k ls st M = some (.inl q)) (hK : xW B p l e R s m args below meth c mi Q q.1 q.2.1 q.2.2.1 q.2.2.2.1 q.2.2.2.2) : xW B p l e R s m args below meth c mi Q pc k ls st M := by
  obtain ⟨hx, hb, hml, hown, -, -, -, hr1, hr2, hr3, hr4⟩ := C
  simp only [xsem] at hs
  split at hs
  · rename_i n r
    split at hs
    · rename_i hc
      obtain ⟨h0, h1, h2, h3⟩ := hc
      simp only [xgo, Option.some.injEq, Sum.inl.injEq] at hs
      subst hs
      intro H locs Ls hR hS hL
      obtain ⟨hnk, hn0, hnn⟩ := xwrap h0 h1
      have hd := xdc_eq hok
      refine va_newaK (atype := .int) hx hb (E.2.1.get xw_int rfl args) rfl hd rfl hn0 hnn (by show n.toNat * 4 ≤ _; omega) (by omega) (by omega) rfl fun H1 cA e1 z1 o1 hAr hNm => ?_
      have hcA : cA = B.2.1.1 := Option.some.inj (hNm.symm.trans (E.1.2 0 _ xt_0).2)
      subst hcA
      have htop := hR.top 0
      have hkd : (xat (xnew M 1 n.toNat) (M.1.length + 0)) = (1, n.toNat, fun _ => 0) := by rw [xat_app2 (M' := xnew M 1 n.toNat) rfl]; rfl
      have hk := hK H1 locs Ls (hR.app (M' := xnew M 1 n.toNat) (cs := [(1, n.toNat, fun _ => 0)]) rfl (fun q hq => by funext j; simp [xnew, Nat.ne_of_lt hq]) z1 o1 (fun j hj => ?_) (fun j hj => ?_)) ⟨Nat.le_trans hS.1 (by omega), fun x h1 h2 => (o1 x (Nat.lt_of_lt_of_le h1 hS.1)).trans (hS.2.1 x h1 h2), hS.2.2⟩ hL
      · simp only [List.map_cons] at hk
        rw [xr_pos (by have := hR.1; omega)] at hk
        rw [show M.1.length + 0 = M.1.length from rfl] at htop
        rw [htop] at hk
        exact hk
      · have hj0 : j = 0 := by simpa using hj
        subst hj0
        rw [xce_1 (by rw [hkd]), htop, hkd]
        show H1[H.size + 0]? = some (vp_cell _ _)
        rw [Nat.add_zero, e1, vp_cell_i]
        congr 2
        funext j
        simp [xnew]
        rfl
      · have hj0 : j = 0 := by simpa using hj
        subst hj0
        show (1 : Nat) ≠ 5
        omega
    · cases hs
  · cases hs
theorem xg21 (C : xCx p R s m meth c mi) (E : xE B s s.heap) {pc : Nat} {k : Nat × Nat} {ls : xL} {st : List xV} {M : xM} {a : Int} {b d : Nat} {q : Nat × (Nat × Nat) × xL × List xV × xM}
    (hok : xokb (xy mi).cls (decide ((xy mi).name = "<init>")) (xmi mi 0) (xb mi) mi pc (21, a, b, d) = true) (hs : xsem 21 a b d mi pc k ls st M = some (.inl q)) (hK : xW B p l e R s m args below meth c mi Q q.1 q.2.1 q.2.2.1 q.2.2.2.1 q.2.2.2.2) : xW B p l e R s m args below meth c mi Q pc k ls st M := by
  obtain ⟨hx, hb, hml, hown, -, -, -, hr1, hr2, hr3, hr4⟩ := C
  simp only [xsem] at hs
  split at hs
  · rename_i n r
    split at hs
    · rename_i hc
      obtain ⟨h0, h1, h2, h3⟩ := hc
      simp only [xgo, Option.some.injEq, Sum.inl.injEq] at hs
      subst hs
      intro H locs Ls hR hS hL
      obtain ⟨hnk, hn0, hnn⟩ := xwrap h0 h1
      have go : ∀ (Cn : String) (cA : ClassId) (t0 i w0 : Nat), xwd a.toNat = some (.classLink (xy mi).cls i Cn) → decode (xb mi) pc = .ok (.anewarray i, 3) → xwd w0 = some (.arrayOver (.object Cn)) → (xtys B)[t0]? = some (cA, .object Cn) → b ≠ 5 → (∀ M' : xM, (xat M' (M.1.length + 0)).1 = b → xce B M' (M.1.length + 0) = .inl (cA, (xat M' (M.1.length + 0)).2.1, .inr (.inr (.inr (.inr (xra B M' (M.1.length + 0))))))) → W p l e R s m args below meth c H locs k.1 k.2 Q (F0 m pc Ls (xr B (.inl n) :: r.map (xr B))) := fun Cn cA t0 i w0 hw hd hwo ht hb5 hce => by
        refine W.anew hx hb hown (E.2.1.get hw rfl args) (E.2.1.get hwo rfl args) rfl hd rfl hn0 (by rw [hnn]; omega) (by omega) (by rw [hnn]; omega) fun cA' kA comp f1 f2 f3 f4 => ?_
        obtain ⟨kA', comp', k1, k2, k3, k4⟩ := (E.1.2 t0 _ ht).2
        have hcA : cA' = cA := Option.some.inj (f1.symm.trans k4)
        subst hcA
        rw [hnn]
        generalize hH1 : H.push ({ cls := cA', slots := Array.replicate n.toNat .null, vm := .none } : Cell) = H1
        have z1 : H1.size = H.size + 1 := by rw [← hH1, Array.size_push]
        have e1 : H1[H.size]? = some (arrV cA' n.toNat (fun _ => .null)) := by rw [← hH1, Array.getElem?_push_size, ← arrV_new]
        have o1 : ∀ q, q < H.size → H1[q]? = H[q]? := fun q hq => by rw [← hH1, Array.getElem?_push, if_neg (Nat.ne_of_lt hq)]
        have htop := hR.top 0
        have hkd : (xat (xnew M b n.toNat) (M.1.length + 0)) = (b, n.toNat, fun _ => 0) := by rw [xat_app2 (M' := xnew M b n.toNat) rfl]; rfl
        have hk := hK H1 locs Ls (hR.app (M' := xnew M b n.toNat) (cs := [(b, n.toNat, fun _ => 0)]) rfl (fun q hq => by funext j; simp [xnew, Nat.ne_of_lt hq]) z1 o1 (fun j hj => ?_) (fun j hj => ?_)) ⟨Nat.le_trans hS.1 (by omega), fun x h1 h2 => (o1 x (Nat.lt_of_lt_of_le h1 hS.1)).trans (hS.2.1 x h1 h2), hS.2.2⟩ hL
        · simp only [List.map_cons] at hk
          rw [xr_pos (by have := hR.1; omega)] at hk
          rw [show M.1.length + 0 = M.1.length from rfl] at htop
          rw [htop] at hk
          exact hk
        · have hj0 : j = 0 := by simpa using hj
          subst hj0
          rw [hce _ (by rw [hkd]), htop]
          show H1[H.size + 0]? = some (vp_cell _ _)
          rw [Nat.add_zero, e1, vp_cell_q]
          unfold xra
          rw [hkd]
          rfl
        · have hj0 : j = 0 := by simpa using hj
          subst hj0
          exact hb5
      simp only [xokb, Bool.or_eq_true, Bool.and_eq_true, decide_eq_true_eq] at hok
      rcases hok with ⟨rfl, hok⟩ | ⟨rfl, hok⟩
      · obtain ⟨i, hw, hd⟩ := xcl1_eq hok
        exact go _ _ 1 i _ hw hd xw_reed xt_1 (by omega) (fun M' h' => xce_2 h')
      · obtain ⟨i, hw, hd⟩ := xcl1_eq hok
        exact go _ _ 2 i _ hw hd xw_state xt_2 (by omega) (fun M' h' => xce_3 h')
    · cases hs
  · cases hs
theorem xg22 (C : xCx p R s m meth c mi) (E : xE B s s.heap) {pc : Nat} {k : Nat × Nat} {ls : xL} {st : List xV} {M : xM} {a : Int} {b d : Nat} {q : Nat × (Nat × Nat) × xL × List xV × xM}
    (hok : xokb (xy mi).cls (decide ((xy mi).name = "<init>")) (xmi mi 0) (xb mi) mi pc (22, a, b, d) = true) (hs : xsem 22 a b d mi pc k ls st M = some (.inl q)) (hK : xW B p l e R s m args below meth c mi Q q.1 q.2.1 q.2.2.1 q.2.2.2.1 q.2.2.2.2) : xW B p l e R s m args below meth c mi Q pc k ls st M := by
  obtain ⟨hx, hb, hml, hown, -, -, -, hr1, hr2, hr3, hr4⟩ := C
  simp only [xsem] at hs
  split at hs
  · rename_i w n r
    split at hs
    · rename_i hc
      obtain ⟨⟨h0, h1⟩, ⟨h2, h3⟩, h4, h5⟩ := hc
      simp only [xgo, Option.some.injEq, Sum.inl.injEq] at hs
      subst hs
      intro H locs Ls hR hS hL
      obtain ⟨hnk, hn0, hnn⟩ := xwrap h0 h1
      obtain ⟨hwk, hw0, hww⟩ := xwrap h2 h3
      obtain ⟨i, hw, hd⟩ := xcl1_eq hok
      intro T hT Xs
      obtain ⟨vm₁, cA, comp, -, fA, fC, hO, -, X', step⟩ := Xs.multianewarray2F (ty := .int) hx hown (E.2.1.get hw rfl args) (E.2.1.get xw_aint rfl args) (E.2.1.get xw_int rfl args) (g := F0 m pc Ls (xr B (.inl w) :: xr B (.inl n) :: r.map (xr B))) rfl (by rw [hb]; exact hd) rfl hn0 hw0 (by rw [hnn]; omega) (by rw [hww]; show w.toNat * 4 ≤ _; omega) (by rw [hww]; omega) rfl rfl (by rw [hnn]; omega) (by rw [hnn, hww]; omega)
      rw [hnn, hww] at X' step
      have hcA : cA = B.2.1.2.2.2 := Option.some.inj (fA.symm.trans (E.1.2 3 _ xt_3).2)
      have hcI : comp = B.2.1.1 := Option.some.inj (fC.symm.trans (E.1.2 0 _ xt_0).2)
      subst hcA
      subst hcI
      generalize hF : Jvm.Free.Multi.fill (T.setVm vm₁) B.2.1.2.2.2 B.2.1.1 n.toNat w.toNat (defaultValue .int) n.toNat = F at X' step
      have hTh : (T.setVm vm₁).heap = H := hT
      obtain ⟨f1, f2, -, -⟩ := Jvm.Free.Multi.fill_facts (T.setVm vm₁) B.2.1.2.2.2 B.2.1.1 n.toNat w.toNat (defaultValue .int) n.toNat
      rw [hF, hTh] at f1 f2
      have o1 : ∀ x : Nat, x < H.size → F.heap[x]? = H[x]? := fun x hx => by
        have := Jvm.Free.Multi.fill_old (T.setVm vm₁) B.2.1.2.2.2 B.2.1.1 n.toNat w.toNat (defaultValue .int) (a := x) (by rw [hTh]; exact hx) n.toNat
        rw [hF, hTh] at this
        exact this
      have hrow : ∀ j : Nat, j < n.toNat → F.heap[H.size + 1 + j]? = some (Jvm.Free.Multi.innerC B.2.1.1 w.toNat (defaultValue .int)) := fun j hj => by
        have := Jvm.Free.Multi.fill_inner (T.setVm vm₁) B.2.1.2.2.2 B.2.1.1 n.toNat w.toNat (defaultValue .int) n.toNat j hj
        rw [hF, hTh] at this
        exact this
      have hlen : ((4, n.toNat, fun i => M.1.length + 1 + i) :: List.replicate n.toNat ((1, w.toNat, fun _ => 0) : xC)).length = n.toNat + 1 := by simp
      have hcell : ∀ j, j < n.toNat → xnth (List.replicate n.toNat ((1, w.toNat, fun _ => 0) : xC)) j (0, 0, fun _ => 0) = (1, w.toNat, fun _ => 0) := fun j hj => by
        rw [xnth_get]; simp [hj]
      have hk := hK F.heap locs Ls (hR.app (M' := xnew2 M n.toNat w.toNat) (cs := (4, n.toNat, fun i => M.1.length + 1 + i) :: List.replicate n.toNat (1, w.toNat, fun _ => 0)) rfl (fun q hq => by funext j; simp [xnew2, Nat.not_le.mpr hq]) (by rw [f1, hlen]; omega) o1 (fun j hj => ?_) (fun j hj => ?_)) ⟨Nat.le_trans hS.1 (by rw [f1]; omega), fun x h1 h2 => (o1 x (Nat.lt_of_lt_of_le h1 hS.1)).trans (hS.2.1 x h1 h2), hS.2.2⟩ hL
      · obtain ⟨t, a1, b1⟩ := hk F rfl X'
        refine ⟨t, step t ?_, b1⟩
        simp only [List.map_cons] at a1
        rw [xr_pos (by have := hR.1; omega), show M.1.length = M.1.length + 0 from rfl, hR.top 0] at a1
        rw [hT]
        exact a1
      · rw [hR.top j]
        cases j with
        | zero =>
          have hkd : xat (xnew2 M n.toNat w.toNat) (M.1.length + 0) = (4, n.toNat, fun i => M.1.length + 1 + i) := by rw [xat_app2 (M' := xnew2 M n.toNat w.toNat) rfl]; rfl
          rw [xce_4 (by rw [hkd])]
          show F.heap[H.size + 0]? = some (vp_cell _ _)
          rw [Nat.add_zero, f2, vp_cell_q]
          unfold xra
          rw [hkd]
          have houter : ∀ (c : ClassId) (N h0 : Nat) (i : Nat), Jvm.Free.Multi.outerC c N h0 i = arrV c N (fun j => va_rf (if j < i then some (h0 + 1 + j) else none)) := by
            intro c N h0 i
            induction i with
            | zero =>
              show ({ cls := c, slots := Array.replicate N .null, vm := .none } : Cell) = _
              rw [arrV_new]
              refine congrArg (arrV c N) (funext fun j => ?_)
              simp [va_rf]
            | succ i ih =>
              show (Jvm.Free.Multi.outerC c N h0 i).setSlot i (.ref (h0 + 1 + i)) = _
              rw [ih, arrV_store]
              refine congrArg (arrV c N) (funext fun j => ?_)
              by_cases e : j = i
              · subst e
                simp [updV, va_rf]
              · by_cases h : j < i
                · simp [updV, e, h, Nat.lt_succ_of_lt h]
                · simp [updV, e, h, show ¬ j < i + 1 by omega]
          rw [houter]
          have hext : ∀ (f g : Nat → Value), (∀ j, j < n.toNat → f j = g j) → arrV B.2.1.2.2.2 n.toNat f = arrV B.2.1.2.2.2 n.toNat g := fun f g hfg => by
            unfold arrV
            congr 2
            funext j
            exact hfg j.1 j.2
          congr 1
          refine hext _ _ (fun j hj => ?_)
          have hpos := hR.1
          rw [if_pos hj]
          unfold xro
          dsimp only
          rw [if_neg (by omega), show M.1.length + 1 + j = M.1.length + (1 + j) by omega, hR.top (1 + j), Nat.add_assoc]
        | succ j =>
          have hj' : j < n.toNat := by rw [hlen] at hj; omega
          have hkd : xat (xnew2 M n.toNat w.toNat) (M.1.length + (j + 1)) = (1, w.toNat, fun _ => 0) := by
            rw [xat_app2 (M' := xnew2 M n.toNat w.toNat) rfl]
            exact hcell j hj'
          rw [xce_1 (by rw [hkd])]
          show F.heap[H.size + (j + 1)]? = some (vp_cell _ _)
          rw [show H.size + (j + 1) = H.size + 1 + j by omega, hrow j hj', vp_cell_i, hkd]
          congr 1
          show ({ cls := _, slots := Array.replicate w.toNat (.int 0), vm := .none } : Cell) = _
          rw [arrV_new]
          refine congrArg (arrV _ _) (funext fun i => ?_)
          simp [xnew2]
      · cases j with
        | zero => show (4 : Nat) ≠ 5; omega
        | succ j =>
          have hj' : j < n.toNat := by rw [hlen] at hj; omega
          show (xnth (List.replicate n.toNat ((1, w.toNat, fun _ => 0) : xC)) j (0, 0, fun _ => 0)).1 ≠ 5
          rw [hcell j hj']
          show (1 : Nat) ≠ 5
          omega
    · cases hs
  · cases hs
theorem xg27 (C : xCx p R s m meth c mi) (E : xE B s s.heap) {pc : Nat} {k : Nat × Nat} {ls : xL} {st : List xV} {M : xM} {a : Int} {b d : Nat} {q : Nat × (Nat × Nat) × xL × List xV × xM}
    (hok : xokb (xy mi).cls (decide ((xy mi).name = "<init>")) (xmi mi 0) (xb mi) mi pc (27, a, b, d) = true) (hs : xsem 27 a b d mi pc k ls st M = some (.inl q)) (hK : xW B p l e R s m args below meth c mi Q q.1 q.2.1 q.2.2.1 q.2.2.2.1 q.2.2.2.2) : xW B p l e R s m args below meth c mi Q pc k ls st M := by
  obtain ⟨hx, hb, hml, hown, -, -, -, hr1, hr2, hr3, hr4⟩ := C
  simp only [xsem] at hs
  split at hs
  · rename_i n dp dd sp ss r
    split at hs
    · rename_i hc
      obtain ⟨⟨ks, kd⟩, ⟨s0, s1⟩, ⟨d0, d1⟩, ⟨n0, n1⟩, hss, hdd, hfr, hlo, hrl⟩ := hc
      simp only [xgo, Option.some.injEq, Sum.inl.injEq] at hs
      subst hs
      intro H locs Ls hR hS hL
      simp only [List.map_cons]
      have ls' := hR.low ks (by omega) (by omega)
      have ld' := hR.low kd (by omega) (by omega)
      rw [xr_pos (p := ss) (by omega), xr_pos (p := dd) (by omega)]
      have hes := xws_at (B := B) ls'
      have hed := xws_at (B := B) ld'
      rw [xce_1 ks] at hes
      rw [xce_1 kd] at hed
      obtain ⟨i, hw, hd⟩ := xlk0_eq hok
      have nz : ∀ {z : Int}, 0 ≤ z → xok z → ¬ Int32.ofInt z < 0 := fun {z} h0 hk h => by
        rw [show (0 : Int32) = Int32.ofInt 0 from rfl, xi_lt hk ⟨by omega, by omega⟩] at h
        omega
      intro T hT X
      have hc0 := hR.2.2.1 _ _ hes
      have hc1 := hR.2.2.1 _ _ hed
      obtain ⟨-, k0, hk0, cm0, hkk0⟩ := (E.1.2 0 _ xt_0).1 (xat M ss).2.1 (fun j => .int (Int32.ofInt (M.2 ss j)))
      obtain ⟨vm', X', step⟩ := X.arraycopy hx hown (E.2.1.get hw rfl args) (E.2.1.get xw_nat rfl args) (E.2.1.get xw_cst rfl args) (E.2.1.get xw_csi rfl args) (src := xad B ss) (dst := xad B dd) (cs := vp_cell B.2.1.1 ((xat M ss).2.1, .inl (fun i => Int32.ofInt (M.2 ss i)))) (cd := vp_cell B.2.1.1 ((xat M dd).2.1, .inl (fun i => Int32.ofInt (M.2 dd i)))) (srcPos := Int32.ofInt sp) (destPos := Int32.ofInt dp) (n := Int32.ofInt n) (by rw [hT]; exact hc0) (by rw [hT]; exact hc1)
        (fun _ h => by cases h) (fun _ h => by cases h) (fun h => by cases h) (fun h => by cases h) hk0 hk0 hkk0 hkk0 (by simp [refKind]) (nz s0 s1) (nz d0 d1) (nz n0 n1)
        (by rw [xti s1, xti n1]; show ¬ _ > ((arrV B.2.1.1 (xat M ss).2.1 (fun j => .int (Int32.ofInt (M.2 ss j)))).slots.size : Int); rw [arrV_size]; omega)
        (by rw [xti d1, xti n1]; show ¬ _ > ((arrV B.2.1.1 (xat M dd).2.1 (fun j => .int (Int32.ofInt (M.2 dd j)))).slots.size : Int); rw [arrV_size]; omega)
        (fun vm₁ _ i hi => by
          rw [xcl_nat n0 n1] at hi
          have e : (vp_cell B.2.1.1 ((xat M ss).2.1, .inl (fun i => Int32.ofInt (M.2 ss i)))).slots.getD ((Int32.ofInt sp).toNatClampNeg + i) .null = .int (Int32.ofInt (M.2 ss (sp.toNat + i))) := by
            rw [xcl_nat s0 s1]
            show (arrV B.2.1.1 (xat M ss).2.1 (fun j => .int (Int32.ofInt (M.2 ss j)))).slots.getD _ _ = _
            rw [Array.getD_eq_getD_getElem?, arrV_read _ _ (by omega)]
            rfl
          refine ⟨?_, ?_⟩
          · rw [e]
            rfl
          · rw [e]
            exact trivial)
        (g := F0 m pc Ls (.int (Int32.ofInt n) :: .int (Int32.ofInt dp) :: .ref (xad B dd) :: .int (Int32.ofInt sp) :: .ref (xad B ss) :: r.map (xr B))) rfl (by rw [hml]; exact hL.1) (rest := r.map (xr B)) rfl (by rw [hb]; exact hd) (by omega) (by rw [xsum]; show 2 * 0 + _ + _ ≤ _; show 2 * 0 + r.length + (7 + 11) ≤ _; omega)
      have e1 : copied (vp_cell B.2.1.1 ((xat M ss).2.1, .inl (fun i => Int32.ofInt (M.2 ss i)))) (vp_cell B.2.1.1 ((xat M dd).2.1, .inl (fun i => Int32.ofInt (M.2 dd i)))) (Int32.ofInt sp) (Int32.ofInt dp) (Int32.ofInt n) = vp_cell B.2.1.1 ((xat M dd).2.1, .inl (va_cpy (fun i => Int32.ofInt (M.2 ss i)) (fun i => Int32.ofInt (M.2 dd i)) (Int32.ofInt sp).toNatClampNeg (Int32.ofInt dp).toNatClampNeg (Int32.ofInt n).toNatClampNeg)) := va_copied (n0 := (xat M ss).2.1) (n1 := (xat M dd).2.1) (sp := (Int32.ofInt sp).toNatClampNeg) (dp := (Int32.ofInt dp).toNatClampNeg) (n := (Int32.ofInt n).toNatClampNeg) (fun z => .int z) B.2.1.1 B.2.1.1 (fun i => Int32.ofInt (M.2 ss i)) (fun i => Int32.ofInt (M.2 dd i)) (by rw [xcl_nat s0 s1, xcl_nat n0 n1]; omega)
      rw [e1] at X' step
      rw [xcl_nat s0 s1, xcl_nat d0 d1, xcl_nat n0 n1] at X' step
      generalize hCe : vp_cell B.2.1.1 ((xat M dd).2.1, .inl (va_cpy (fun i => Int32.ofInt (M.2 ss i)) (fun i => Int32.ofInt (M.2 dd i)) sp.toNat dp.toNat n.toNat)) = Ce at X' step
      have hl : xad B dd < H.size := (Array.getElem?_eq_some_iff.mp hc1).1
      have hheap : ((T.setVm vm').setCell (xad B dd) Ce).heap = H.setIfInBounds (xad B dd) Ce := by rw [← hT]; rfl
      have oq : ∀ q : Nat, q ≠ xad B dd → (H.setIfInBounds (xad B dd) Ce)[q]? = H[q]? := fun q hq => by simp [Array.getElem?_setIfInBounds, Ne.symm hq]
      have hz : (H.setIfInBounds (xad B dd) Ce).size = H.size := by simp
      have hk1 : (xat (xcpy M ss sp.toNat dd dp.toNat n.toNat) dd).1 = 1 := kd
      obtain ⟨t, a1, b1⟩ := hK (H.setIfInBounds (xad B dd) Ce) _ Ls (hR.upd (M' := xcpy M ss sp.toNat dd dp.toNat n.toNat) ld' rfl (fun _ _ => rfl) (fun z hz => by funext j; simp [xcpy, hz]) (xce_1 hk1) (fun z hz => by
          unfold xce xfs xra
          have e2 : (xcpy M ss sp.toNat dd dp.toNat n.toNat).2 z = M.2 z := by funext j; simp [xcpy, hz]
          rw [e2]
          rfl) (hR.2.2.1.set (xws_D B M) hed (show (H.setIfInBounds (xad B dd) Ce)[xad B dd]? = some (vp_cell _ _) by
          rw [Array.getElem?_setIfInBounds, if_pos rfl, if_pos hl, ← hCe]
          congr 1
          show vp_cell B.2.1.1 ((xat M dd).2.1, .inl _) = vp_cell B.2.1.1 ((xat M dd).2.1, .inl _)
          congr 3
          funext j
          by_cases hj : dp.toNat ≤ j ∧ j < dp.toNat + n.toNat
          · rw [show va_cpy (fun i => Int32.ofInt (M.2 ss i)) (fun i => Int32.ofInt (M.2 dd i)) sp.toNat dp.toNat n.toNat j = Int32.ofInt (M.2 ss (sp.toNat + (j - dp.toNat))) from if_pos hj]
            have : (xcpy M ss sp.toNat dd dp.toNat n.toNat).2 dd j = M.2 ss (sp.toNat + (j - dp.toNat)) := if_pos ⟨rfl, hj⟩
            rw [this]
          · rw [show va_cpy (fun i => Int32.ofInt (M.2 ss i)) (fun i => Int32.ofInt (M.2 dd i)) sp.toNat dp.toNat n.toNat j = Int32.ofInt (M.2 dd j) from if_neg hj]
            have : (xcpy M ss sp.toNat dd dp.toNat n.toNat).2 dd j = M.2 dd j := by
              show (if dd = dd ∧ dp.toNat ≤ j ∧ j < dp.toNat + n.toNat then _ else _) = _
              rw [if_neg (fun z => hj z.2)]
            rw [this]) oq) hz (xbelow ld'.1 oq) (by rw [hk1]; omega)) ⟨by rw [hz]; exact hS.1, fun q g1 g2 => by
          rw [oq q (fun e => g2 (by rw [e]; exact (xws_D B M).2 _ _ hed))]
          exact hS.2.1 q g1 g2, fun q hq => by
          rcases List.mem_append.mp hq with h | h
          · exact hS.2.2 q h
          · obtain ⟨z, -, hz⟩ := List.mem_map.mp h
            rw [← hz]
            exact (xws_D B M).2 _ _ hed⟩ hL _ hheap X'
      exact ⟨t, step t a1, b1⟩
    · cases hs
  · cases hs
end XSH
end
section
/-! ===== all instructions; calls; a pure run is a run of the machine ===== -/
theorem xsem_k {t : Nat} {a : Int} {b c mi pc : Nat} {k : Nat × Nat} {ls : xL} {st : List xV} {M : xM} {q : Nat × (Nat × Nat) × xL × List xV × xM} (h : xsem t a b c mi pc k ls st M = some (.inl q)) (hk : k.1 ≤ xmi mi 7 ∧ k.2 ≤ xmi mi 8) : q.2.1.1 ≤ xmi mi 7 ∧ q.2.1.2 ≤ xmi mi 8 := by
  unfold xsem at h
  split at h
  all_goals (repeat' split at h)
  all_goals first
    | (cases h; done)
    | (simp only [xgo, Option.some.injEq, Sum.inl.injEq] at h; subst h; first | exact hk | (refine ⟨?_, ?_⟩ <;> dsimp only <;> omega))
section XSI
variable {p : Program} {l : Launch} {e : Env} {R : Room} {s : State} {m : MethodId} {args : Array Value} {below : List Frame} {meth : Method} {c : Code} {Q : State → Prop} {B : xB} {mi : Nat}
theorem xgo_all (C : xCx p R s m meth c mi) (E : xE B s s.heap) {pc : Nat} {k : Nat × Nat} {ls : xL} {st : List xV} {M : xM} {q : Nat × (Nat × Nat) × xL × List xV × xM} (hkc : k.1 ≤ xmi mi 7 ∧ k.2 ≤ xmi mi 8)
    (hs : xstep mi pc k ls st M = some (.inl q)) (hK : xW B p l e R s m args below meth c mi Q q.1 q.2.1 q.2.2.1 q.2.2.2.1 q.2.2.2.2) : xW B p l e R s m args below meth c mi Q pc k ls st M := by
  have hok := xins_ok mi pc
  unfold xstep at hs
  generalize xins mi pc = i at hs hok
  obtain ⟨t, a, b, d⟩ := i
  dsimp only at hs
  match t, hs, hok with
  | 0, hs, _ => simp [xsem] at hs
  | 1, hs, hok => exact xg1 C E hok hs hK
  | 2, hs, hok => exact xg2 C hok hs hK
  | 3, hs, hok => exact xg3 C hok hs hK
  | 4, hs, hok => exact xg4 C hok hs hK
  | 5, hs, hok => exact xg5 C hok hs hK
  | 6, hs, hok => exact xg6 C hok hs hK
  | 7, hs, hok => exact xg7 C hok hs hK
  | 8, hs, hok => exact xg8 C hok hs hK
  | 9, hs, hok => exact xg9 C hok hs hK
  | 10, hs, hok => exact xg10 C hok hs hK
  | 11, hs, hok => exact xg11 C hok hs hK
  | 12, hs, hok => exact xg12 C E hok hs hK
  | 13, hs, hok => exact xg13 C E hok hs hK
  | 14, hs, hok => exact xg14 C E hok hs hK
  | 15, hs, hok => exact xg15 C E hok hs hK
  | 16, hs, hok => exact xg16 C E hok hs hK
  | 17, hs, hok => exact xg17 C E hok hs hK
  | 18, hs, hok => exact xg18 C E hok hs hK
  | 19, hs, hok => exact xg19 C E hok hs hK
  | 20, hs, hok => exact xg20 C E hok hs hK
  | 21, hs, hok => exact xg21 C E hok hs hK
  | 22, hs, hok => exact xg22 C E hok hs hK
  | 23, hs, hok => exact xg23 C hok hs hK
  | 24, hs, hok => exact xg24 C hok hs hK
  | 25, hs, hok => exact xg25 C hok hs hK
  | 26, hs, hok => exact xg26 C E hok hs hK
  | 27, hs, hok => exact xg27 C E hok hs hK
  | 28, hs, _ =>
    exfalso
    simp only [xsem] at hs
    repeat' split at hs
    all_goals cases hs
  | 29, hs, _ =>
    exfalso
    simp only [xsem] at hs
    repeat' split at hs
    all_goals cases hs
  | 30, hs, _ =>
    exfalso
    simp only [xsem] at hs
    repeat' split at hs
    all_goals cases hs
  | 31, hs, hok => exact xg31 C E hok hs hK
  | 32, hs, hok => exact xg32 C hok hs hK
  | 33, hs, hok => exact xg33 C E hkc hok hs hK
  | 34, hs, hok => exact xg34 C E hkc hok hs hK
  | n + 35, hs, _ => simp [xsem] at hs
def xQc (B : xB) (v : List xV) (M : xM) : Array Value → State → Outcome → State → Prop := match v with
  | [.inl x] => va_Qi (fun (r : Int32) (_ : Unit) => r = Int32.ofInt x) (fun _ t => xR B t M t.heap) (xA B)
  | _ => va_Qv (fun (_ : Unit) => True) (fun _ t => xR B t M t.heap) (xA B)
theorem xret_all (C : xCx p R s m meth c mi) {pc : Nat} {k : Nat × Nat} {ls : xL} {st : List xV} {M : xM} {v : List xV} (hkc : k.1 ≤ xmi mi 7 ∧ k.2 ≤ xmi mi 8)
    (hs : xstep mi pc k ls st M = some (.inr (.inr v))) : xW B p l e R s m args below meth c mi (MQ below (xQc B v M) args s (xmi mi 7) (xmi mi 8) (xA B)) pc k ls st M := by
  obtain ⟨hx, hb, hml, hown, hlocks, hr, -⟩ := C
  have hok := xins_ok mi pc
  unfold xstep at hs
  generalize xins mi pc = i at hs hok
  obtain ⟨t, a, b, d⟩ := i
  dsimp only at hs
  have ht : t = 29 ∨ t = 30 := by
    apply Classical.byContradiction
    intro hn
    unfold xsem at hs
    split at hs
    all_goals first
      | (exact hn (Or.inl rfl))
      | (exact hn (Or.inr rfl))
      | ((repeat' split at hs) <;> cases hs)
  rcases ht with rfl | rfl
  · simp only [xsem] at hs
    split at hs
    · rename_i x
      split at hs
      · rename_i hc
        simp only [Option.some.injEq, Sum.inr.injEq] at hs
        subst hs
        intro H locs Ls hR hS hL
        refine W.widen hkc.1 hkc.2 ?_
        have hd := xdc_eq hok
        have hq : ∀ t : State, t.heap = H → s.WarmedH t.vm → xQc B [.inl x] M args s (.returned (some (.int (Int32.ofInt x)))) t := fun t ht hW => ⟨⟨_, (), rfl, rfl, show xR B t M t.heap by rw [ht]; exact hR.moved hW.alike⟩, hS.F ht⟩
        rcases hc with hc | ⟨hc, hx2⟩
        · exact W.iret hx hb (by rw [hr]; unfold xret; simp only [hc]) hq hS.2.2 hd
        · exact W.zret (ty := .boolean) hx hb (by rw [hr]; unfold xret; simp only [hc]) (by rcases hx2 with rfl | rfl <;> decide) hq hS.2.2 hd
      · cases hs
    · cases hs
  · simp only [xsem] at hs
    split at hs
    · split at hs
      · rename_i hc
        simp only [Option.some.injEq, Sum.inr.injEq] at hs
        subst hs
        intro H locs Ls hR hS hL
        refine W.widen hkc.1 hkc.2 ?_
        have hd := xdc_eq hok
        exact W.vret hx hb (by rw [hr]; unfold xret; simp only [hc]) (fun t ht hW => ⟨⟨(), rfl, trivial, show xR B t M t.heap by rw [ht]; exact hR.moved hW.alike⟩, hS.F ht⟩) hS.2.2 hd
      · cases hs
    · cases hs
def xrm (j : Nat) : Room := { frames := xmi j 5, cells := xmi j 7, slots := xmi j 8, locals := xmi j 6 }
def xcw (j : Nat) : List Jvm.Cond := [.code (xy j) (xb j) (xmi j 0) (xret j)]
def xPc (B : xB) (as : List xV) (M : xM) : Array Value → State → Prop := va_Pc (as.map (xr B)) (fun U => xE B U U.heap ∧ xR B U M U.heap)
def xMet (B : xB) (l : Launch) (j : Nat) (as : List xV) (M : xM) (v : List xV) (M' : xM) : Prop := Met l (xy j) (xcw j) (xrm j) (xPc B as M) (xQc B v M') (xmi j 7) (xmi j 8) (xA B)
theorem xPc_blind {as : List xV} {M : xM} : FrameBlind (xPc B as M) := by
  intro a U g mk h
  obtain ⟨h1, ⟨hK, hT, hz, hZ⟩, hR⟩ := h
  exact ⟨h1, ⟨va_K.moved (u := U) (U := U.calling g mk a) (Vm.Alike.refl U.vm) hK, xTB.warm (s := U) (U := U.calling g mk a) (State.WarmedH.refl U) hT, hz, va_Z.moved (u := U) (U := U.calling g mk a) (Vm.Alike.refl U.vm) hZ⟩, xR.moved (u := U) (U := U.calling g mk a) (Vm.Alike.refl U.vm) hR⟩
theorem xE.at {H : Heap} {locs : List Loc} {M : xM} (E : xE B s s.heap) (hR : xR B s M H) (hS : va_S (xA B) s.heap H locs) {as : List xV} {U : State} (hU : U.heap = H) (hW : s.WarmedH U.vm) : xPc B as M (as.map (xr B)).toArray U := by
  obtain ⟨hK, hT, hz, hZ⟩ := E
  subst hU
  refine ⟨rfl, ⟨va_K.moved hW.alike hK, hT.warm hW, by rw [hR.2.1]; omega, ?_⟩, hR.moved hW.alike⟩
  exact va_Z.moved hW.alike (hZ.kept (fun a h1 h2 => hS.2.1 a h1 h2))
theorem xcw_good {j : Nat} (hj : j < 128) (h14 : j ≠ 14) (h47 : j ≠ 47) : GoodIn xwl (xcw j) := by
  intro w hw
  have hw' : w = .code (xy j) (xb j) (xmi j 0) (xret j) := by simpa [xcw] using hw
  subst hw'
  exact ⟨List.mem_filter.mpr ⟨xwd_mem (xmco j hj h14 h47), rfl⟩, Or.inl rfl⟩
theorem xlk_eq {own : String} {cc : ByteArray} {pc kd i0 : Nat} {y : MethodName} (h : xlk own cc pc kd y (xwd i0) = true) : ∃ i, decode cc pc = .ok (xiv kd i, 3) ∧ (xwd i0 = some (.methodLink own i y) ∨ ∃ h, xwd i0 = some (.methodLinkNest own i y h)) := by
  unfold xlk at h
  split at h
  · rename_i o i z hw
    simp only [Bool.and_eq_true, decide_eq_true_eq] at h
    obtain ⟨rfl, rfl, h⟩ := h
    exact ⟨i, xdc_eq h, Or.inl hw⟩
  · rename_i o i z hh hw
    simp only [Bool.and_eq_true, decide_eq_true_eq] at h
    obtain ⟨rfl, rfl, h⟩ := h
    exact ⟨i, xdc_eq h, Or.inr ⟨hh, hw⟩⟩
  · cases h
theorem xcall_all (C : xCx p R s m meth c mi) (E : xE B s s.heap) {pc : Nat} {k : Nat × Nat} {ls : xL} {st : List xV} {M M' : xM} {j : Nat} {as r v : List xV}
    (hs : xstep mi pc k ls st M = some (.inr (.inl (j, as, r)))) (hM : j < 128 → j ≠ 14 → j ≠ 47 → as.length = xmi j 2 → xMet B l j as M v M') (hv : v = [] ∨ ∃ x, v = [.inl x])
    (hK : xW B p l e R s m args below meth c mi Q (pc + 3) (k.1 + xmi j 7, k.2 + xmi j 8) ls (v ++ r) M') : xW B p l e R s m args below meth c mi Q pc k ls st M := by
  obtain ⟨hx, hb, hml, hown, -, -, -, hr1, hr2, hr3, hr4⟩ := C
  have hok := xins_ok mi pc
  unfold xstep at hs
  generalize xins mi pc = i at hs hok
  obtain ⟨t, a, b, d⟩ := i
  dsimp only at hs
  have ht : t = 28 := by
    apply Classical.byContradiction
    intro hn
    unfold xsem at hs
    split at hs
    all_goals first
      | (exact hn rfl)
      | ((repeat' split at hs) <;> cases hs)
  subst ht
  simp only [xsem] at hs
  split at hs
  · rename_i hc
    obtain ⟨c1, c2, c3, c4, c5, c6⟩ := hc
    simp only [xokb, Bool.and_eq_true, decide_eq_true_eq] at hok
    obtain ⟨⟨hb1, hb2, hb3⟩, hdn, hlk⟩ := hok
    obtain ⟨i, hd, hlink⟩ := xlk_eq hlk
    have hmok := xmok b hb1
    simp only [xmokb, Bool.or_eq_true, Bool.and_eq_true, decide_eq_true_eq, beq_iff_eq] at hmok
    have hmok := (hmok.resolve_left hb2).resolve_left hb3
    obtain ⟨m1, m2, m3, m4, m5, m6, m7, m8⟩ := hmok
    have hE1 := E.2.1.get m1 rfl args
    -- what all three kinds share
    have hlenr : (st.drop d).length ≤ 8 := by rw [List.length_drop]; omega
    have hsplit : st = (st.take d).reverse.reverse ++ st.drop d := by rw [List.reverse_reverse, List.take_append_drop]
    have hlen : (st.take d).reverse.length = xmi b 2 := by rw [List.length_reverse, List.length_take, ← hdn]; omega
    have fin' : ∀ {H : Heap} {locs : List Loc} {Ls : Array Slot} {st0 : List Value} {rr : List xV} {Aa : Array Value}, j = b → r = rr → xR B s M H → va_S (xA B) s.heap H locs → xlh B Ls (xmi mi 0) ls →
        va_Run p l e R s m args below meth c H locs k.1 k.2 (xmi b 7) (xmi b 8) (F0 m pc Ls st0) (rr.map (xr B)) (xQc B v M' Aa) (xA B) → W p l e R s m args below meth c H locs k.1 k.2 Q (F0 m pc Ls st0) := fun {H locs Ls st0 rr Aa} hj hrr hR hS hL hrun => by
      subst hj
      subst hrr
      rcases hv with rfl | ⟨x, rfl⟩
      · refine va_callv (a := Aa) hrun hS (fun _ _ z => z) (fun _ z => z) (fun u t H1 locs1 ht hvm hw hB hz1 hk1 hS1 => ?_)
        have hR1 : xR B s M' H1 := by rw [← ht]; exact hB.moved hvm.symm
        exact hK H1 locs1 Ls hR1 hS1 hL
      · refine va_calli (a := Aa) hrun hS (fun _ _ z => z) (fun _ z => z) (fun r0 u t H1 locs1 ht hvm hw hB hz1 hk1 hS1 => ?_)
        have hR1 : xR B s M' H1 := by rw [← ht]; exact hB.moved hvm.symm
        have hk2 := hK H1 locs1 Ls hR1 hS1 hL
        rw [hw]
        exact hk2
    have hroom : (xrm b).frames + 1 ≤ R.frames ∧ 8 + (xmi b 0 + 11) + (xrm b).locals ≤ R.locals := ⟨by show xmi b 5 + 1 ≤ _; omega, by show 8 + (xmi b 0 + 11) + xmi b 6 ≤ _; omega⟩
    have hcells : k.1 + xmi b 7 ≤ R.cells ∧ k.2 + xmi b 8 ≤ R.slots := ⟨by omega, by omega⟩
    split at hs
    · -- static
      rename_i heq
      simp only [Option.some.injEq, Sum.inr.injEq, Sum.inl.injEq, Prod.mk.injEq] at hs
      obtain ⟨rfl, rfl, rfl⟩ := hs
      rw [heq] at m2 hd m6
      try dsimp only at m2
      simp only [decide_eq_true_eq] at m2
      intro H locs Ls hR hS hL
      have hdesc : (xy b).cls ≠ "java/lang/invoke/MethodHandle" ∧ (xy b).cls ≠ "java/lang/invoke/VarHandle" ∧ (parseMethodDescriptor (xy b).desc).map (fun d => d.parameters.length) = some (xmi b 2) := ⟨m4, m5, by rw [m6, if_pos rfl]⟩
      have hpre : PreS s H (xPc B (st.take d).reverse M) ((st.take d).reverse.map (xr B)) := ⟨xPc_blind, fun U hU hW => E.at hR hS hU hW⟩
      have hstk : (st.map (xr B)) = ((st.take d).reverse.map (xr B)).reverse ++ (st.drop d).map (xr B) := by rw [← List.map_reverse, ← List.map_append, ← hsplit]
      have hMet := hM hb1 hb2 hb3 hlen
      refine fin' (Aa := ((st.take d).reverse.map (xr B)).toArray) rfl rfl hR hS hL ?_
      rcases hlink with hlk | ⟨hh, hlk⟩
      · exact va_runS (Ts := xwl) ⟨hx, hb, hml, hown, E.2.1.ws args⟩ hMet ⟨callB_of (xmi b 2) (E.2.1.ws args) (xcw_good hb1 hb2 hb3) rfl rfl rfl hE1 (E.2.1.get hlk rfl args) hdesc hroom, E.2.1.get m2 rfl args⟩ hpre rfl (by rw [List.length_map]; exact hlen) hL.1 hstk (lv_room (by rw [xsum]; exact hlenr)) hd hcells
      · exact va_runSN (Ts := xwl) ⟨hx, hb, hml, hown, E.2.1.ws args⟩ hMet ⟨va_cnB (xmi b 2) (E.2.1.ws args) (xcw_good hb1 hb2 hb3) rfl rfl rfl (E.2.1.get hlk rfl #[]) hE1 hdesc hroom, E.2.1.get m2 rfl args, trivial⟩ hpre rfl (by rw [List.length_map]; exact hlen) hL.1 hstk (lv_room (by rw [xsum]; exact hlenr)) hd hcells
    · -- virtual
      rename_i pp as' heq hrev
      split at hs
      · rename_i hkd
        simp only [Option.some.injEq, Sum.inr.injEq, Sum.inl.injEq, Prod.mk.injEq] at hs
        obtain ⟨rfl, rfl, rfl⟩ := hs
        rw [heq] at m2 hd m6
        try dsimp only at m2
        simp only [Bool.and_eq_true, decide_eq_true_eq] at m2
        obtain ⟨m2, ms, mcn, mc8⟩ := m2
        intro H locs Ls hR hS hL
        rw [hrev] at hlen hsplit
        have hlow := hR.low hkd (by omega) (by omega)
        have hl1 : as'.length = xmi b 2 - 1 := by rw [List.length_cons] at hlen; omega
        have hdesc : (xy b).cls ≠ "java/lang/invoke/MethodHandle" ∧ (xy b).cls ≠ "java/lang/invoke/VarHandle" ∧ (parseMethodDescriptor (xy b).desc).map (fun d => d.parameters.length) = some (xmi b 2 - 1) := ⟨m4, m5, by rw [m6, if_neg (by omega)]⟩
        have he := xws_at (B := B) hlow
        rw [xce_obj hkd] at he
        have hrec := va_recv E.1 hR.2.2.1 (xcl_at _ mc8) he
        dsimp only at hrec
        rw [mcn] at hrec
        have hpre : PreV s H (xy b).cls (xad B pp) (xPc B (.inr pp :: as') M) (as'.map (xr B)) := ⟨xPc_blind, hrec, fun U hU hW => by
          have := E.at (as := .inr pp :: as') hR hS hU hW
          rw [List.map_cons, xr_pos (by omega)] at this
          exact this⟩
        have hstk : (st.map (xr B)) = (as'.map (xr B)).reverse ++ .ref (xad B pp) :: (st.drop d).map (xr B) := by
          conv => lhs; rw [hsplit]
          rw [List.reverse_cons, List.append_assoc, List.map_append, List.map_append, List.map_reverse, List.map_cons, xr_pos (by omega)]
          rfl
        have hMet := hM hb1 hb2 hb3 hlen
        refine fin' (Aa := (Value.ref (xad B pp) :: as'.map (xr B)).toArray) rfl rfl hR hS hL ?_
        rcases hlink with hlk | ⟨hh, hlk⟩
        · exact va_runV (Ts := xwl) ⟨hx, hb, hml, hown, E.2.1.ws args⟩ hMet ⟨callB_of (xmi b 2 - 1) (E.2.1.ws args) (xcw_good hb1 hb2 hb3) rfl rfl rfl hE1 (E.2.1.get hlk rfl args) hdesc hroom, E.2.1.get m2 rfl args, E.2.1.get ms rfl args⟩ hpre rfl (by rw [List.length_map]; exact hl1) hL.1 hstk (lv_room (by rw [xsum]; exact hlenr)) hd hcells
        · exact va_runVN (Ts := xwl) ⟨hx, hb, hml, hown, E.2.1.ws args⟩ hMet ⟨va_cnB (xmi b 2 - 1) (E.2.1.ws args) (xcw_good hb1 hb2 hb3) rfl rfl rfl (E.2.1.get hlk rfl #[]) hE1 hdesc hroom, E.2.1.get m2 rfl args, E.2.1.get ms rfl args⟩ hpre rfl (by rw [List.length_map]; exact hl1) hL.1 hstk (lv_room (by rw [xsum]; exact hlenr)) hd hcells
      · cases hs
    · -- a constructor
      rename_i pp as' heq hrev
      simp only [Option.some.injEq, Sum.inr.injEq, Sum.inl.injEq, Prod.mk.injEq] at hs
      obtain ⟨rfl, rfl, rfl⟩ := hs
      rw [heq] at m2 hd m6
      try dsimp only at m2
      simp only [Bool.and_eq_true, decide_eq_true_eq] at m2
      obtain ⟨m2, mnm, mrt⟩ := m2
      intro H locs Ls hR hS hL
      rw [hrev] at hlen hsplit
      have hl1 : as'.length = xmi b 2 - 1 := by rw [List.length_cons] at hlen; omega
      have hdesc : (xy b).cls ≠ "java/lang/invoke/MethodHandle" ∧ (xy b).cls ≠ "java/lang/invoke/VarHandle" ∧ (parseMethodDescriptor (xy b).desc).map (fun d => d.parameters.length) = some (xmi b 2 - 1) := ⟨m4, m5, by rw [m6, if_neg (by omega)]⟩
      have hpre : PreS s H (xPc B (.inr (pp + 1) :: as') M) (.ref (xad B (pp + 1)) :: as'.map (xr B)) := ⟨xPc_blind, fun U hU hW => by
        have := E.at (as := .inr (pp + 1) :: as') hR hS hU hW
        rw [List.map_cons, xr_ref] at this
        exact this⟩
      have hstk : (st.map (xr B)) = (as'.map (xr B)).reverse ++ .ref (xad B (pp + 1)) :: (st.drop d).map (xr B) := by
        conv => lhs; rw [hsplit]
        rw [List.reverse_cons, List.append_assoc, List.map_append, List.map_append, List.map_reverse, List.map_cons, xr_ref]
        rfl
      have hMet := hM hb1 hb2 hb3 hlen
      have hcw : xcw b = [.code (xy b) (xb b) (xmi b 0) none] := by unfold xcw xret; simp only [mrt]
      refine fin' (Aa := (Value.ref (xad B (pp + 1)) :: as'.map (xr B)).toArray) rfl rfl hR hS hL ?_
      rcases hlink with hlk | ⟨hh, hlk⟩
      · exact va_runI (Ts := xwl) ⟨hx, hb, hml, hown, E.2.1.ws args⟩ hMet ⟨callB_of (xmi b 2 - 1) (E.2.1.ws args) (xcw_good hb1 hb2 hb3) hcw rfl rfl hE1 (E.2.1.get hlk rfl args) hdesc hroom, mnm, E.2.1.get m2 rfl args⟩ hpre rfl (by rw [List.length_map]; exact hl1) hL.1 hstk (lv_room (by rw [xsum]; exact hlenr)) hd hcells
      · exact va_runIN (Ts := xwl) ⟨hx, hb, hml, hown, E.2.1.ws args⟩ hMet ⟨va_cnB (xmi b 2 - 1) (E.2.1.ws args) (xcw_good hb1 hb2 hb3) hcw rfl rfl (E.2.1.get hlk rfl #[]) hE1 hdesc hroom, mnm, E.2.1.get m2 rfl args⟩ hpre rfl (by rw [List.length_map]; exact hl1) hL.1 hstk (lv_room (by rw [xsum]; exact hlenr)) hd hcells
    · cases hs
  · cases hs
end XSI
end
section
/-! ===== a pure run is a run of the machine ===== -/
theorem xret_v {mi pc : Nat} {k : Nat × Nat} {ls : xL} {st : List xV} {M : xM} {v : List xV} (hs : xstep mi pc k ls st M = some (.inr (.inr v))) : v = [] ∨ ∃ x, v = [.inl x] := by
  unfold xstep at hs
  generalize xins mi pc = i at hs
  obtain ⟨t, a, b, d⟩ := i
  dsimp only at hs
  unfold xsem at hs
  split at hs
  all_goals (repeat' split at hs)
  all_goals first
    | (cases hs; done)
    | (cases hs; exact Or.inr ⟨_, rfl⟩)
    | (cases hs; exact Or.inl rfl)
theorem xrun_v : ∀ (n : Nat) {mi pc : Nat} {k : Nat × Nat} {ls : xL} {st : List xV} {M : xM} {v : List xV} {M' : xM}, xrun n mi pc k ls st M = some (v, M') → v = [] ∨ ∃ x, v = [.inl x]
  | 0, _, _, _, _, _, _, _, _, h => by simp [xrun] at h
  | n + 1, mi, pc, k, ls, st, M, v, M', h => by
    unfold xrun at h
    cases hs : xstep mi pc k ls st M with
    | none => rw [hs] at h; cases h
    | some o =>
      rw [hs] at h
      rcases o with ⟨pc', k', ls', st', M1⟩ | ⟨j, as, r⟩ | w
      · exact xrun_v n h
      · dsimp only at h
        cases hc : xrun n j 0 (0, 0) (xloc j as) [] M with
        | none => rw [hc] at h; cases h
        | some q =>
          obtain ⟨v1, M1⟩ := q
          rw [hc] at h
          exact xrun_v n h
      · simp only [Option.some.injEq, Prod.mk.injEq] at h
        obtain ⟨rfl, rfl⟩ := h
        exact xret_v hs
theorem xcall_k {mi pc : Nat} {k : Nat × Nat} {ls : xL} {st : List xV} {M : xM} {j : Nat} {as r : List xV} (hs : xstep mi pc k ls st M = some (.inr (.inl (j, as, r)))) : k.1 + xmi j 7 ≤ xmi mi 7 ∧ k.2 + xmi j 8 ≤ xmi mi 8 := by
  unfold xstep at hs
  generalize xins mi pc = i at hs
  obtain ⟨t, a, b, d⟩ := i
  dsimp only at hs
  unfold xsem at hs
  split at hs
  all_goals first
    | ((repeat' split at hs) <;> (cases hs; done))
    | skip
  split at hs
  · rename_i hc
    obtain ⟨c1, c2, c3, c4, c5, c6⟩ := hc
    split at hs
    · cases hs; exact ⟨c5, c6⟩
    · split at hs
      · cases hs; exact ⟨c5, c6⟩
      · cases hs
    · cases hs; exact ⟨c5, c6⟩
    · cases hs
  · cases hs
theorem xsl_eq (B : xB) : ∀ as : List xV, lg_sl (as.map (xr B)) = as.map (fun v => Slot.val (xr B v))
  | [] => rfl
  | v :: t => by
    have ih := xsl_eq B t
    unfold lg_sl at ih ⊢
    simp only [List.map_cons, List.flatMap_cons, ih, xr_cat]
    rfl
theorem xentry (B : xB) (as : List xV) (j : Nat) (h : as.length ≤ xmi j 0) : xlh B ((lg_sl (as.map (xr B)) ++ List.replicate (xmi j 0 - (lg_sl (as.map (xr B))).length) Slot.unset).toArray) (xmi j 0) (xloc j as) := by
  have hlen : (lg_sl (as.map (xr B))).length = as.length := by rw [xsl_eq, List.length_map]
  have hl := lv_entry (as.map (xr B)) (n := xmi j 0) (by rw [hlen]; exact h)
  refine ⟨hl.1, hl.2.1, fun i v hv => ?_⟩
  rw [xnth_get] at hv
  unfold xloc at hv
  rw [xsl_eq]
  by_cases hi : i < as.length
  · have e : as[i]? = some v := by
      rw [List.getD_eq_getElem?_getD, List.getElem?_append_left (by simpa using hi), List.getElem?_map] at hv
      cases ha : as[i]? with
      | none => rw [ha] at hv; cases hv
      | some w => rw [ha] at hv; simpa using hv
    simp only [List.getElem?_toArray]
    rw [List.getElem?_append_left (by simpa using hi), List.getElem?_map, e]
    rfl
  · rw [List.getD_eq_getElem?_getD, List.getElem?_append_right (by simp; omega)] at hv
    exfalso
    cases hr : (List.replicate (xmi j 0 - as.length) (none : Option xV))[i - (as.map some).length]? with
    | none => rw [hr] at hv; cases hv
    | some w =>
      rw [hr] at hv
      have := List.eq_of_mem_replicate (List.mem_of_getElem? hr)
      subst this
      cases hv
section XSJ
variable {l : Launch} {B : xB}
theorem xMet_of {j : Nat} {as : List xV} {M : xM} {v : List xV} {M' : xM} (hj : j < 128) (h14 : j ≠ 14) (h47 : j ≠ 47) (hlen : as.length = xmi j 2)
    (h : ∀ (p : Program) (e : Env) (R : Room) (s : State) (m : MethodId) (args : Array Value) (below : List Frame) (meth : Method) (c : Code), xCx p R s m meth c j → xE B s s.heap → xW B p l e R s m args below meth c j (MQ below (xQc B v M') args s (xmi j 7) (xmi j 8) (xA B)) 0 (0, 0) (xloc j as) [] M) : xMet B l j as M v M' := by
  have hmok := xmok j hj
  simp only [xmokb, Bool.or_eq_true, Bool.and_eq_true, decide_eq_true_eq, beq_iff_eq] at hmok
  have hmok := (hmok.resolve_left h14).resolve_left h47
  obtain ⟨m1, m2, m3, m4, m5, m6, m7, m8⟩ := hmok
  refine Met.ofW (cc := xb j) (maxL := xmi j 0) (ret := xret j) m3 rfl ?_
  intro p e s m args below meth c s₁ Bd hml hv
  obtain ⟨rfl, E, hR⟩ := hv
  rw [lg_entry_eq]
  exact h p e _ s m _ below meth c ⟨Bd.exec, Bd.bytes, hml, findClass_of_methodNamed Bd.named, Bd.notSynchronized, Bd.returns, fun z => ((name_of_methodNamed Bd.named Bd.method).1).trans z, Nat.le_refl _, Nat.le_refl _, Nat.le_refl _, Nat.le_refl _⟩ E s.heap [] _ hR va_S.rf (xentry B as j (by omega))
theorem xrun_W : ∀ (n : Nat) {mi pc : Nat} {k : Nat × Nat} {ls : xL} {st : List xV} {M : xM} {v : List xV} {M' : xM}, xrun n mi pc k ls st M = some (v, M') → ∀ {p : Program} {e : Env} {R : Room} {s : State} {m : MethodId} {args : Array Value} {below : List Frame} {meth : Method} {c : Code} {Q : State → Prop}, xCx p R s m meth c mi → xE B s s.heap → (k.1 ≤ xmi mi 7 ∧ k.2 ≤ xmi mi 8) →
    (∀ (pc : Nat) (k : Nat × Nat) (ls : xL) (st : List xV), (k.1 ≤ xmi mi 7 ∧ k.2 ≤ xmi mi 8) → xstep mi pc k ls st M' = some (.inr (.inr v)) → xW B p l e R s m args below meth c mi Q pc k ls st M') → xW B p l e R s m args below meth c mi Q pc k ls st M
  | 0, _, _, _, _, _, _, _, _, h => by simp [xrun] at h
  | n + 1, mi, pc, k, ls, st, M, v, M', h => by
    intro C E hkc hfin
    unfold xrun at h
    cases hs : xstep mi pc k ls st M with
    | none => rw [hs] at h; cases h
    | some o =>
      rw [hs] at h
      rcases o with ⟨pc', k', ls', st', M1⟩ | ⟨j, as, r⟩ | w
      · exact xgo_all C E hkc hs (xrun_W n h C E (xsem_k (q := (pc', k', ls', st', M1)) (by unfold xstep at hs; exact hs) hkc) hfin)
      · dsimp only at h
        cases hc : xrun n j 0 (0, 0) (xloc j as) [] M with
        | none => rw [hc] at h; cases h
        | some q =>
          obtain ⟨v1, M1⟩ := q
          rw [hc] at h
          exact xcall_all C E hs (fun a1 a2 a3 a4 => xMet_of a1 a2 a3 a4 (fun p e R s m args below meth c C E => xrun_W n hc C E ⟨Nat.zero_le _, Nat.zero_le _⟩ (fun pc k ls st hk hst => xret_all C hk hst))) (xrun_v n hc) (xrun_W n h C E (xcall_k hs) hfin)
      · simp only [Option.some.injEq, Prod.mk.injEq] at h
        obtain ⟨rfl, rfl⟩ := h
        exact hfin pc k ls st hkc hs
end XSJ
end
section
/-! THE CLAIM OUT OF ONE WALK OF THE LAW'S BODY. Your part is whole_start (and what it stands on); all else here is the same for every law, but numbers. -/
def R_law : String := "ReedBenchLaw"
def lw_P (b : Addr) (xs : List Int32) (args : Array Value) (s : State) : Prop := args = #[.ref b] ∧ s.IntsAt b xs ∧ xs.length ≤ 2560 ∧ (Jvm.Cond.and given_1 narrow_1).before args s = true
def lw_Q (_ : Array Value) (s : State) (o : Outcome) (t : State) : Prop := o = .returned (some (.int 1)) ∧ Framed s o t [] 600000 7302250
def lw_Z (below : List Frame) (a : Array Value) (s : State) : State → Prop := fun t => ∃ o, t.status = .running ∧ Ended t below o ∧ lw_Q a s o t
/-- the law's own end, with 1 on the stack, nothing written that was there before, its room as the claim has it -/
theorem lw_ret {p : Program} {l : Launch} {e : Env} {s : State} {m : MethodId} {below : List Frame} {meth : Method} {c : Code} {b : Nat} (hx : p.tables.exec = Jvm.exec) (hb : c.code = code) (hr : meth.sig.returnType = ret) (hlocks : meth.locks = false) {pc : Nat} {H : Heap} {ls : Array Slot} (hdg : decode code pc = .ok (.ireturn, 1)) : W p l e room_1 s m #[Value.ref b] below meth c H [] 600000 7302250 (lw_Z below #[Value.ref b] s) (F0 m pc ls [.int 1]) := by
  intro T hT X
  obtain ⟨fs, hret, hrun, hended, hW, hframe⟩ := X.leave (v := some (.int 1)) (hlocks := hlocks) (fun h => by rw [hr] at h; cases h)
  have hmeth' : T.vm.method? m = some meth := X.method'
  refine ⟨T.setFrames fs, ?_, .returned (some (.int 1)), hrun, hended, rfl, ⟨_, rfl⟩, hW, hframe⟩
  jvm_step X.here [X.here.top, hx, hb, hdg, hmeth', hr, ret, narrow_b1]
  (try refine ⟨rfl, ?_⟩); (try refine ⟨rfl, ?_⟩)
  first | (intro acts; rw [hret _ acts rfl rfl rfl]) | rw [hret _ _ rfl rfl rfl]
  exact Steps.refl _
/-- what holds at the law's entry: the machine, the code, the tables' words (any of lw_tbl by 'hts w (by decide +kernel)'), the script of L ints xs at the cell b, what the Statement gives of the start (any of its parts by flat_of_before) -/
def lw_At (p : Program) (s : State) (m : MethodId) (meth : Method) (c : Code) (b L : Nat) (xs : Nat → Int32) : Prop :=
  p.tables.exec = Jvm.exec ∧ c.code = code ∧ meth.sig.returnType = ret ∧ c.maxLocals = 4 ∧ s.vm.findClass R_law = some m.cls ∧ (∀ w ∈ lw_tbl, w.before #[Value.ref b] s = true) ∧ va_X b L xs s s.heap ∧ b < s.heap.size ∧ meth.locks = false ∧ (Jvm.Cond.and given_1 narrow_1).before #[Value.ref b] s = true
/-! ===== the law's start in the pure machine ===== -/
def xkeys : List Int := [0, 200, 400, 500, 700, 900, 1100, 1200, 0, 204, 386, 498, 702, 884, 1088, 1200, 0, 0, 400, 400, 700, 700, 1200, 1200]
def xM0 (L : Nat) (f : Nat → Int) : xM := ([(0, 0, fun _ => 0), (5, L, fun _ => 0), (5, 24, fun _ => 0)], fun a i => if a = 1 then f i else if a = 2 then xnth xkeys i 0 else 0)
theorem xret_1 {mi pc : Nat} {k : Nat × Nat} {ls : xL} {st : List xV} {M : xM} {x : Int} (hs : xstep mi pc k ls st M = some (.inr (.inr [.inl x]))) : st = [.inl x] ∧ decode (xb mi) pc = .ok (.ireturn, 1) := by
  have hok := xins_ok mi pc
  unfold xstep at hs
  generalize xins mi pc = i at hs hok
  obtain ⟨t, a, b, d⟩ := i
  dsimp only at hs
  have ht : t = 29 := by
    apply Classical.byContradiction
    intro hn
    unfold xsem at hs
    split at hs
    all_goals first
      | (exact hn rfl)
      | ((repeat' split at hs) <;> cases hs)
  subst ht
  simp only [xsem] at hs
  split at hs
  · split at hs
    · cases hs
      exact ⟨rfl, xdc_eq hok⟩
    · cases hs
  · cases hs
theorem xword {s : State} {A : Array Value} (hts : ∀ w ∈ lw_tbl, w.before A s = true) : xTB s := by
  intro w hw hk A'
  have h0 := hts w hw
  rcases xkp_cases hk with g | ⟨a, i, b, n, d, e, rfl⟩ | ⟨a, i, x, e, rfl⟩ | ⟨t, rfl⟩
  · exact word_at (State.WarmedH.refl s) (good_of_word g) h0
  · exact va_tabs rfl rfl h0
  · exact va_tabs rfl rfl h0
  · exact h0
set_option maxRecDepth 100000 in
theorem xlays : Jvm.Cond.laysStatic "ReedBench" "ABOVE_KEY" "[I" ∈ lw_tbl := List.mem_of_getElem? (i := 343) rfl
set_option maxRecDepth 100000 in
theorem xkinit : Jvm.Cond.initialized "ReedBench" ∈ lw_tbl := List.mem_of_getElem? (i := 67) rfl
theorem xkey_all : (List.range 24).all (fun j => decide (Jvm.Cond.eq (Jvm.Term.elem (Jvm.Term.static "ReedBench" "ABOVE_KEY" "[I") (Jvm.Term.int (Int32.ofNat j))) (Jvm.Term.int (Int32.ofInt (xnth xkeys j 0))) ∈ flatC (Jvm.Cond.and given_1 narrow_1))) = true := by decide +kernel
theorem xkey_arr : Jvm.Cond.arrayOf (Jvm.Term.static "ReedBench" "ABOVE_KEY" "[I") .int ∈ flatC (Jvm.Cond.and given_1 narrow_1) := by decide +kernel
theorem xkey_len : Jvm.Cond.eq (Jvm.Term.length (Jvm.Term.static "ReedBench" "ABOVE_KEY" "[I")) (Jvm.Term.int (Int32.ofNat 24)) ∈ flatC (Jvm.Cond.and given_1 narrow_1) := by decide +kernel
set_option maxHeartbeats 1000000 in
theorem xlaw_W {p : Program} {e : Env} {s : State} {m : MethodId} {below : List Frame} {meth : Method} {c : Code} (l : Launch) {b L : Nat} {xs : Nat → Int32} (hL : L ≤ 2560) (C0 : lw_At p s m meth c b L xs)
    (hrun : ∃ n M', xrun n 128 0 (0, 0) (xloc 128 [.inr 1]) [] (xM0 L (fun j => (xs j).toInt)) = some ([.inl 1], M')) :
    W p l e room_1 s m #[Value.ref b] below meth c s.heap [] 0 0 (lw_Z below #[Value.ref b] s) (entryFrame m ([Value.ref b] : List Value).toArray 4) := by
  obtain ⟨hx, hb, hr, hml, hown, hts, hX, hbl, hlocks, hgv⟩ := C0
  have hT : xTB s := xword hts
  have hfl := flat_of_before _ hgv
  have hAn : ∀ a : Nat, a < s.heap.size → ¬ (fun q : Nat => s.heap.size ≤ q) a := fun a h => Nat.not_le.mpr h
  obtain ⟨ky, hky, hkT⟩ := va_Tof (N := 24) (f := fun j => .int (Int32.ofInt (xnth xkeys j 0))) (A := fun q : Nat => s.heap.size ≤ q) (by decide) (hfl _ xkey_arr) (va_eqt (hfl _ xkey_len)) (fun j hj => va_eqt (hfl _ (of_decide_eq_true (List.all_eq_true.mp xkey_all j (List.mem_range.mpr hj))))) hAn
  have hZ := va_Zof (A := fun q : Nat => s.heap.size ≤ q) (hts _ xlays) (hts _ xkinit) hky hAn
  -- the classes
  have hcls : ∀ k : Nat, ∃ (cC : ClassId) (iS : Nat → Nat), k < 8 → u_Kn s (xCn k) (xT k) (xN k) cC iS := fun k => by
    by_cases hk : k < 8
    · obtain ⟨cC, iS, h⟩ := u_known (C := xCn k) (T := xT k) (N := xN k) (hT.ws #[]) (xus_at k hk) (hT.get (xiw_at hk).1 rfl #[])
      exact ⟨cC, iS, fun _ => h⟩
    · exact ⟨0, fun _ => 0, fun h => absurd h hk⟩
  obtain ⟨dC, hdC⟩ := Classical.axiomOfChoice hcls
  obtain ⟨dI, hdI⟩ := Classical.axiomOfChoice hdC
  -- the array classes
  obtain ⟨cI, kI, compI, fI, gI, hI⟩ := Cond.arrayClass_spec (hT.get xw_int rfl #[])
  obtain ⟨compR, cR, kR, fR, -, gR, hR', eR⟩ := Cond.arrayOver_spec (hT.get xw_reed rfl #[])
  obtain ⟨compS, cS, kS, fS, -, gS, hS', eS⟩ := Cond.arrayOver_spec (hT.get xw_state rfl #[])
  obtain ⟨compA, cA, kA, fA, gA, hA', eA⟩ := Cond.arrayOver_specA (hT.get xw_aint rfl #[])
  obtain ⟨n, M', hrun⟩ := hrun
  let B : xB := ((dC, dI), (cI, cR, cS, cA), b, ky, s.heap.size)
  have hK : va_K (dC, dI) xcl (xtys B) s := by
    refine ⟨fun k q hq => ?_, fun k q hq => ?_⟩
    · have hk : k < 8 := by
        have := (List.getElem?_eq_some_iff.mp hq).1
        simpa using this
      have he := xcl_at k hk
      rw [he] at hq
      cases hq
      exact hdI k hk
    · match k, hq with
      | 0, hq => cases hq; exact ⟨fun n z => ⟨fun k h => (by cases h), kI, gI, compI, hI⟩, fI⟩
      | 1, hq => cases hq; exact ⟨fun n z => ⟨fun k h => (by cases h), kR, gR, compR, hR'⟩, kR, compR, gR, hR', fR, eR⟩
      | 2, hq => cases hq; exact ⟨fun n z => ⟨fun k h => (by cases h), kS, gS, compS, hS'⟩, kS, compS, gS, hS', fS, eS⟩
      | 3, hq => cases hq; exact ⟨fun n z => ⟨fun k h => (by cases h), kA, gA, compA, hA'⟩, eA⟩
      | k + 4, hq => simp [xtys] at hq
  have E : xE B s s.heap := ⟨hK, hT, Nat.le_refl _, hZ⟩
  have hkl : ky < s.heap.size := by
    obtain ⟨cell, h1, -⟩ := hkT
    exact (Array.getElem?_eq_some_iff.mp h1).1
  have hRel : xR B s (xM0 L (fun j => (xs j).toInt)) s.heap := by
    refine ⟨Nat.le_refl 3, rfl, fun k q h => by simp [xws, xM0] at h, rfl, ⟨hbl, rfl, ?_⟩, ⟨hkl, rfl, ?_⟩, fun q hq => ?_⟩
    · obtain ⟨scr, g1, g2, g3, g4, g5⟩ := hX
      refine ⟨scr, g1, g2, g3, ⟨by rw [g4]; exact Nat.le_refl _, by rw [g4]; rfl⟩, fun j hj => ?_⟩
      show _ = some (Value.int (Int32.ofInt (xs j).toInt))
      rw [Int32.ofInt_toInt]
      exact g5 j hj
    · obtain ⟨cell, g1, g2, g3, g4, g5, g6, -⟩ := hkT
      exact ⟨cell, g1, g2, g3, ⟨g4, g5⟩, fun j hj => g6 j hj⟩
    · unfold xat
      rw [xnth_of_le _ _ _ (by simpa [xM0] using hq)]
      decide
  rw [lg_entry_eq]
  refine xrun_W n hrun (s := s) (args := #[Value.ref b]) (below := below) (Q := lw_Z below #[Value.ref b] s) ⟨hx, hb, hml, hown, hlocks, hr, fun z => absurd z (by decide), by decide, by decide, by decide, by decide⟩ E ⟨Nat.zero_le _, Nat.zero_le _⟩ (fun pc k ls st hk hst => ?_) s.heap [] _ hRel va_S.rf (xentry B [.inr 1] 128 (by decide))
  obtain ⟨rfl, hd⟩ := xret_1 hst
  intro H locs Ls hR hS hLs
  refine va_forget (fun q hq => hS.2.2 q hq) ?_
  refine W.widen (k := 600000) (n := 7302250) hk.1 hk.2 ?_
  exact lw_ret hx hb hr hlocks hd
end
section
/-! ===== rules of the pure machine over fixed shapes ===== -/
abbrev xF : Type := Nat → Nat → Int
def xup (f : xF) (a i : Nat) (v : Int) : xF := fun a' i' => if a' = a ∧ i' = i then v else f a' i'
theorem xup_s {f : xF} {a i : Nat} {v : Int} : xup f a i v a i = v := if_pos ⟨rfl, rfl⟩
theorem xup_a {f : xF} {a i a' i' : Nat} {v : Int} (h : a' ≠ a) : xup f a i v a' i' = f a' i' := if_neg (fun z => h z.1)
theorem xup_i {f : xF} {a i a' i' : Nat} {v : Int} (h : i' ≠ i) : xup f a i v a' i' = f a' i' := if_neg (fun z => h z.2)
def xkd (S : List xC) (p : Nat) : Nat := (xnth S p (0, 0, fun _ => 0)).1
def xln (S : List xC) (p : Nat) : Nat := (xnth S p (0, 0, fun _ => 0)).2.1
def xrr (S : List xC) (p i : Nat) : Nat := (xnth S p (0, 0, fun _ => 0)).2.2 i
def Rf (S : List xC) (mi pc : Nat) (ls : xL) (st : List xV) (f : xF) (Q : List xV → xF → Prop) : Prop := ∃ (n : Nat) (v : List xV) (f' : xF), xrun n mi pc (0, 0) ls st (S, f) = some (v, (S, f')) ∧ Q v f'
section RF
variable {S : List xC} {mi pc : Nat} {ls : xL} {st r : List xV} {f : xF} {Q : List xV → xF → Prop} {a : Int} {b c : Nat} {x y z : Int} {p q : Nat}
theorem Rf.go {pc' : Nat} {ls' : xL} {st' : List xV} {f' : xF} (h : xstep mi pc (0, 0) ls st (S, f) = some (.inl (pc', (0, 0), ls', st', (S, f')))) (K : Rf S mi pc' ls' st' f' Q) : Rf S mi pc ls st f Q := by
  obtain ⟨n, v, f1, h1, h2⟩ := K
  refine ⟨n + 1, v, f1, ?_, h2⟩
  unfold xrun
  rw [h]
  exact h1
theorem Rf.mono {Q' : List xV → xF → Prop} (h : Rf S mi pc ls st f Q) (hQ : ∀ v f', Q v f' → Q' v f') : Rf S mi pc ls st f Q' := by
  obtain ⟨n, v, f1, h1, h2⟩ := h
  exact ⟨n, v, f1, h1, hQ _ _ h2⟩
theorem xstep_eq {t : Nat} (h : xins mi pc = (t, a, b, c)) (k : Nat × Nat) (ls : xL) (st : List xV) (M : xM) : xstep mi pc k ls st M = xsem t a b c mi pc k ls st M := by unfold xstep; rw [h]
theorem R_push (h : xins mi pc = (1, a, b, c)) (K : Rf S mi (pc + b) ls (.inl a :: st) f Q) : Rf S mi pc ls st f Q := Rf.go (by rw [xstep_eq h]; rfl) K
theorem R_il (h : xins mi pc = (2, a, b, c)) (hl : xnth ls b none = some (.inl x)) (K : Rf S mi (pc + c) ls (.inl x :: st) f Q) : Rf S mi pc ls st f Q := Rf.go (by rw [xstep_eq h]; simp only [xsem, hl]; rfl) K
theorem R_al (h : xins mi pc = (3, a, b, c)) (hl : xnth ls b none = some (.inr p)) (hp : 0 < p) (K : Rf S mi (pc + c) ls (.inr p :: st) f Q) : Rf S mi pc ls st f Q := by
  obtain ⟨p', rfl⟩ : ∃ p', p = p' + 1 := ⟨p - 1, by omega⟩
  exact Rf.go (by rw [xstep_eq h]; simp only [xsem, hl]; rfl) K
theorem R_is (h : xins mi pc = (4, a, b, c)) (K : Rf S mi (pc + c) (ls.set b (some (.inl x))) st f Q) : Rf S mi pc ls (.inl x :: st) f Q := Rf.go (by rw [xstep_eq h]; rfl) K
theorem R_as (h : xins mi pc = (5, a, b, c)) (hp : 0 < p) (K : Rf S mi (pc + c) (ls.set b (some (.inr p))) st f Q) : Rf S mi pc ls (.inr p :: st) f Q := by
  obtain ⟨p', rfl⟩ : ∃ p', p = p' + 1 := ⟨p - 1, by omega⟩
  exact Rf.go (by rw [xstep_eq h]; rfl) K
theorem R_inc (h : xins mi pc = (6, a, b, c)) (hl : xnth ls b none = some (.inl x)) (K : Rf S mi (pc + 3) (ls.set b (some (.inl (x + a)))) st f Q) : Rf S mi pc ls st f Q := Rf.go (by rw [xstep_eq h]; simp only [xsem, hl]; rfl) K
theorem R_add (h : xins mi pc = (7, a, 0, c)) (K : Rf S mi (pc + 1) ls (.inl (x + y) :: st) f Q) : Rf S mi pc ls (.inl y :: .inl x :: st) f Q := Rf.go (by rw [xstep_eq h]; rfl) K
theorem R_sub (h : xins mi pc = (7, a, 1, c)) (K : Rf S mi (pc + 1) ls (.inl (x - y) :: st) f Q) : Rf S mi pc ls (.inl y :: .inl x :: st) f Q := Rf.go (by rw [xstep_eq h]; rfl) K
theorem R_mul (h : xins mi pc = (7, a, 2, c)) (K : Rf S mi (pc + 1) ls (.inl (x * y) :: st) f Q) : Rf S mi pc ls (.inl y :: .inl x :: st) f Q := Rf.go (by rw [xstep_eq h]; rfl) K
theorem R_bin (h : xins mi pc = (7, a, b, c)) (hz : xbin b x y = some z) (K : Rf S mi (pc + 1) ls (.inl z :: st) f Q) : Rf S mi pc ls (.inl y :: .inl x :: st) f Q := Rf.go (by rw [xstep_eq h]; simp only [xsem, hz]; rfl) K
theorem R_neg (h : xins mi pc = (8, a, b, c)) (K : Rf S mi (pc + 1) ls (.inl (-x) :: st) f Q) : Rf S mi pc ls (.inl x :: st) f Q := Rf.go (by rw [xstep_eq h]; rfl) K
theorem R_if0 (h : xins mi pc = (9, a, b, c)) (hx : xok x ∨ (b ≤ 1 ∧ x = 0)) (K1 : xcmp b x 0 = true → Rf S mi c ls st f Q) (K2 : xcmp b x 0 = false → Rf S mi (pc + 3) ls st f Q) : Rf S mi pc ls (.inl x :: st) f Q := by
  cases hc : xcmp b x 0 with
  | true => exact Rf.go (pc' := c) (by rw [xstep_eq h]; simp only [xsem, if_pos hx, hc, if_true]; rfl) (K1 hc)
  | false => exact Rf.go (pc' := pc + 3) (by rw [xstep_eq h]; simp only [xsem, if_pos hx, hc]; rfl) (K2 hc)
theorem R_ifeq (h : xins mi pc = (9, a, 0, c)) (hx : xok x ∨ x = 0) (K1 : x = 0 → Rf S mi c ls st f Q) (K2 : ¬ x = 0 → Rf S mi (pc + 3) ls st f Q) : Rf S mi pc ls (.inl x :: st) f Q := R_if0 h (hx.imp id (fun z => ⟨by omega, z⟩)) (fun z => K1 (by simpa [xcmp] using z)) (fun z => K2 (by simpa [xcmp] using z))
theorem R_ifne (h : xins mi pc = (9, a, 1, c)) (hx : xok x ∨ x = 0) (K1 : ¬ x = 0 → Rf S mi c ls st f Q) (K2 : x = 0 → Rf S mi (pc + 3) ls st f Q) : Rf S mi pc ls (.inl x :: st) f Q := R_if0 h (hx.imp id (fun z => ⟨by omega, z⟩)) (fun z => K1 (by simpa [xcmp] using z)) (fun z => K2 (by simpa [xcmp] using z))
theorem R_iflt (h : xins mi pc = (9, a, 2, c)) (hx : xok x) (K1 : x < 0 → Rf S mi c ls st f Q) (K2 : ¬ x < 0 → Rf S mi (pc + 3) ls st f Q) : Rf S mi pc ls (.inl x :: st) f Q := R_if0 h (Or.inl hx) (fun z => K1 (by simpa [xcmp] using z)) (fun z => K2 (by simpa [xcmp] using z))
theorem R_ifge (h : xins mi pc = (9, a, 3, c)) (hx : xok x) (K1 : 0 ≤ x → Rf S mi c ls st f Q) (K2 : ¬ 0 ≤ x → Rf S mi (pc + 3) ls st f Q) : Rf S mi pc ls (.inl x :: st) f Q := R_if0 h (Or.inl hx) (fun z => K1 (by simpa [xcmp] using z)) (fun z => K2 (by simpa [xcmp] using z))
theorem R_ifgt (h : xins mi pc = (9, a, 4, c)) (hx : xok x) (K1 : 0 < x → Rf S mi c ls st f Q) (K2 : ¬ 0 < x → Rf S mi (pc + 3) ls st f Q) : Rf S mi pc ls (.inl x :: st) f Q := R_if0 h (Or.inl hx) (fun z => K1 (by simpa [xcmp] using z)) (fun z => K2 (by simpa [xcmp] using z))
theorem R_ifle (h : xins mi pc = (9, a, 5, c)) (hx : xok x) (K1 : x ≤ 0 → Rf S mi c ls st f Q) (K2 : ¬ x ≤ 0 → Rf S mi (pc + 3) ls st f Q) : Rf S mi pc ls (.inl x :: st) f Q := R_if0 h (Or.inl hx) (fun z => K1 (by simpa [xcmp] using z)) (fun z => K2 (by simpa [xcmp] using z))
theorem R_ic0 (h : xins mi pc = (10, a, b, c)) (hx : (xok x ∧ xok y) ∨ (b ≤ 1 ∧ x = y)) (K1 : xcmp b x y = true → Rf S mi c ls st f Q) (K2 : xcmp b x y = false → Rf S mi (pc + 3) ls st f Q) : Rf S mi pc ls (.inl y :: .inl x :: st) f Q := by
  cases hc : xcmp b x y with
  | true => exact Rf.go (pc' := c) (by rw [xstep_eq h]; simp only [xsem, if_pos hx, hc, if_true]; rfl) (K1 hc)
  | false => exact Rf.go (pc' := pc + 3) (by rw [xstep_eq h]; simp only [xsem, if_pos hx, hc]; rfl) (K2 hc)
theorem R_iceq (h : xins mi pc = (10, a, 0, c)) (hx : (xok x ∧ xok y) ∨ x = y) (K1 : x = y → Rf S mi c ls st f Q) (K2 : ¬ x = y → Rf S mi (pc + 3) ls st f Q) : Rf S mi pc ls (.inl y :: .inl x :: st) f Q := R_ic0 h (hx.imp id (fun z => ⟨by omega, z⟩)) (fun z => K1 (by simpa [xcmp] using z)) (fun z => K2 (by simpa [xcmp] using z))
theorem R_icne (h : xins mi pc = (10, a, 1, c)) (hx : (xok x ∧ xok y) ∨ x = y) (K1 : ¬ x = y → Rf S mi c ls st f Q) (K2 : x = y → Rf S mi (pc + 3) ls st f Q) : Rf S mi pc ls (.inl y :: .inl x :: st) f Q := R_ic0 h (hx.imp id (fun z => ⟨by omega, z⟩)) (fun z => K1 (by simpa [xcmp] using z)) (fun z => K2 (by simpa [xcmp] using z))
theorem R_iclt (h : xins mi pc = (10, a, 2, c)) (hx : xok x ∧ xok y) (K1 : x < y → Rf S mi c ls st f Q) (K2 : ¬ x < y → Rf S mi (pc + 3) ls st f Q) : Rf S mi pc ls (.inl y :: .inl x :: st) f Q := R_ic0 h (Or.inl hx) (fun z => K1 (by simpa [xcmp] using z)) (fun z => K2 (by simpa [xcmp] using z))
theorem R_icge (h : xins mi pc = (10, a, 3, c)) (hx : xok x ∧ xok y) (K1 : y ≤ x → Rf S mi c ls st f Q) (K2 : ¬ y ≤ x → Rf S mi (pc + 3) ls st f Q) : Rf S mi pc ls (.inl y :: .inl x :: st) f Q := R_ic0 h (Or.inl hx) (fun z => K1 (by simpa [xcmp] using z)) (fun z => K2 (by simpa [xcmp] using z))
theorem R_icgt (h : xins mi pc = (10, a, 4, c)) (hx : xok x ∧ xok y) (K1 : y < x → Rf S mi c ls st f Q) (K2 : ¬ y < x → Rf S mi (pc + 3) ls st f Q) : Rf S mi pc ls (.inl y :: .inl x :: st) f Q := R_ic0 h (Or.inl hx) (fun z => K1 (by simpa [xcmp] using z)) (fun z => K2 (by simpa [xcmp] using z))
theorem R_icle (h : xins mi pc = (10, a, 5, c)) (hx : xok x ∧ xok y) (K1 : x ≤ y → Rf S mi c ls st f Q) (K2 : ¬ x ≤ y → Rf S mi (pc + 3) ls st f Q) : Rf S mi pc ls (.inl y :: .inl x :: st) f Q := R_ic0 h (Or.inl hx) (fun z => K1 (by simpa [xcmp] using z)) (fun z => K2 (by simpa [xcmp] using z))
theorem R_goto (h : xins mi pc = (11, a, b, c)) (K : Rf S mi c ls st f Q) : Rf S mi pc ls st f Q := Rf.go (by rw [xstep_eq h]; rfl) K
theorem R_gf (h : xins mi pc = (12, a, b, c)) (hk : xkd S p = 10 + b) (hr : xrf b c = false) (K : Rf S mi (pc + 3) ls (.inl (f p c) :: st) f Q) : Rf S mi pc ls (.inr p :: st) f Q := by
  refine Rf.go ?_ K
  rw [xstep_eq h]
  show (if xkd S p = 10 + b then _ else none) = _
  rw [if_pos hk, hr]
  rfl
theorem R_gr (h : xins mi pc = (12, a, b, c)) (hk : xkd S p = 10 + b) (hr : xrf b c = true) (hq : xrr S p c = q) (K : Rf S mi (pc + 3) ls (.inr q :: st) f Q) : Rf S mi pc ls (.inr p :: st) f Q := by
  refine Rf.go ?_ K
  rw [xstep_eq h]
  show (if xkd S p = 10 + b then _ else none) = _
  rw [if_pos hk, hr, ← hq]
  rfl
theorem R_pf (h : xins mi pc = (13, a, b, c)) (hk : xkd S p = 10 + b) (hr : xrf b c = false) (hb : xbf b c = true → x = 0 ∨ x = 1) (K : Rf S mi (pc + 3) ls st (xup f p c x) Q) : Rf S mi pc ls (.inl x :: .inr p :: st) f Q := by
  refine Rf.go ?_ K
  rw [xstep_eq h]
  show (if xkd S p = 10 + b ∧ xrf b c = false ∧ (xbf b c = true → x = 0 ∨ x = 1) then _ else none) = _
  rw [if_pos ⟨hk, hr, hb⟩]
  rfl
theorem R_ia (h : xins mi pc = (14, a, b, c)) (hk : xkd S p = 1 ∨ xkd S p = 5) (h0 : 0 ≤ x) (h1 : x < xln S p) (hx : xok x) (K : Rf S mi (pc + 1) ls (.inl (f p x.toNat) :: st) f Q) : Rf S mi pc ls (.inl x :: .inr p :: st) f Q := by
  refine Rf.go ?_ K
  rw [xstep_eq h]
  show (if (xkd S p = 1 ∨ xkd S p = 5) ∧ 0 ≤ x ∧ x < xln S p ∧ xok x then _ else none) = _
  rw [if_pos ⟨hk, h0, h1, hx⟩]
  rfl
theorem R_ias (h : xins mi pc = (15, a, b, c)) (hk : xkd S p = 1) (h0 : 0 ≤ x) (h1 : x < xln S p) (hx : xok x) (K : Rf S mi (pc + 1) ls st (xup f p x.toNat y) Q) : Rf S mi pc ls (.inl y :: .inl x :: .inr p :: st) f Q := by
  refine Rf.go ?_ K
  rw [xstep_eq h]
  show (if xkd S p = 1 ∧ 0 ≤ x ∧ x < xln S p ∧ xok x then _ else none) = _
  rw [if_pos ⟨hk, h0, h1, hx⟩]
  rfl
theorem R_aa (h : xins mi pc = (16, a, b, c)) (hk : xkd S p = 2 ∨ xkd S p = 3 ∨ xkd S p = 4) (h0 : 0 ≤ x) (h1 : x < xln S p) (hx : xok x) (hq : xrr S p x.toNat = q) (K : Rf S mi (pc + 1) ls (.inr q :: st) f Q) : Rf S mi pc ls (.inl x :: .inr p :: st) f Q := by
  refine Rf.go ?_ K
  rw [xstep_eq h]
  show (if (xkd S p = 2 ∨ xkd S p = 3 ∨ xkd S p = 4) ∧ 0 ≤ x ∧ x < xln S p ∧ xok x then _ else none) = _
  rw [if_pos ⟨hk, h0, h1, hx⟩, ← hq]
  rfl
theorem R_len (h : xins mi pc = (18, a, b, c)) (hk : xkd S p = 1 ∨ xkd S p = 5) (K : Rf S mi (pc + 1) ls (.inl (xln S p) :: st) f Q) : Rf S mi pc ls (.inr p :: st) f Q := by
  refine Rf.go ?_ K
  rw [xstep_eq h]
  show (if xkd S p = 1 ∨ xkd S p = 5 then _ else none) = _
  rw [if_pos hk]
  rfl
theorem R_dup {v : xV} (h : xins mi pc = (23, a, b, c)) (K : Rf S mi (pc + 1) ls (v :: v :: st) f Q) : Rf S mi pc ls (v :: st) f Q := Rf.go (by rw [xstep_eq h]; rfl) K
theorem R_pop {v : xV} (h : xins mi pc = (24, a, b, c)) (K : Rf S mi (pc + 1) ls st f Q) : Rf S mi pc ls (v :: st) f Q := Rf.go (by rw [xstep_eq h]; rfl) K
theorem R_dup2 {v w : xV} (h : xins mi pc = (25, a, b, c)) (K : Rf S mi (pc + 1) ls (v :: w :: v :: w :: st) f Q) : Rf S mi pc ls (v :: w :: st) f Q := Rf.go (by rw [xstep_eq h]; rfl) K
theorem R_key (h : xins mi pc = (31, a, b, c)) (K : Rf S mi (pc + 3) ls (.inr 2 :: st) f Q) : Rf S mi pc ls st f Q := Rf.go (by rw [xstep_eq h]; rfl) K
theorem R_sw {t : Nat} (h : xins mi pc = (32, a, b, c)) (hx : xok x) (ht : (if x < a ∨ a + (xsw mi pc).length ≤ x then b else xnth (xsw mi pc) (x - a).toNat 0) = t) (K : Rf S mi t ls st f Q) : Rf S mi pc ls (.inl x :: st) f Q := by
  subst ht
  refine Rf.go ?_ K
  rw [xstep_eq h]
  show (if xok x then _ else none) = _
  rw [if_pos hx]
  rfl
theorem R_min (h : xins mi pc = (33, a, b, c)) (hx : xok x) (hy : xok y) (hg : 1 ≤ xmi mi 5 ∧ 21 ≤ xmi mi 6 ∧ st.length ≤ 8) (K : Rf S mi (pc + 3) ls (.inl (if y < x then y else x) :: st) f Q) : Rf S mi pc ls (.inl y :: .inl x :: st) f Q := by
  refine Rf.go ?_ K
  rw [xstep_eq h]
  show (if xok x ∧ xok y ∧ 1 ≤ xmi mi 5 ∧ 21 ≤ xmi mi 6 ∧ st.length ≤ 8 then _ else none) = _
  rw [if_pos ⟨hx, hy, hg⟩]
  rfl
theorem R_max (h : xins mi pc = (34, a, b, c)) (hx : xok x) (hy : xok y) (hg : 1 ≤ xmi mi 5 ∧ 21 ≤ xmi mi 6 ∧ st.length ≤ 8) (K : Rf S mi (pc + 3) ls (.inl (if x < y then y else x) :: st) f Q) : Rf S mi pc ls (.inl y :: .inl x :: st) f Q := by
  refine Rf.go ?_ K
  rw [xstep_eq h]
  show (if xok x ∧ xok y ∧ 1 ≤ xmi mi 5 ∧ 21 ≤ xmi mi 6 ∧ st.length ≤ 8 then _ else none) = _
  rw [if_pos ⟨hx, hy, hg⟩]
  rfl
theorem R_cpy {s d : Nat} {sp dp n : Int} (h : xins mi pc = (27, a, b, c)) (hk : xkd S s = 1 ∧ xkd S d = 1) (h1 : 0 ≤ sp ∧ xok sp) (h2 : 0 ≤ dp ∧ xok dp) (h3 : 0 ≤ n ∧ xok n) (h4 : sp + n ≤ xln S s) (h5 : dp + n ≤ xln S d) (hg : 1 ≤ xmi mi 5 ∧ 38 ≤ xmi mi 6 ∧ st.length ≤ 8) (K : Rf S mi (pc + 3) ls st (fun a' i' => if a' = d ∧ dp.toNat ≤ i' ∧ i' < dp.toNat + n.toNat then f s (sp.toNat + (i' - dp.toNat)) else f a' i') Q) : Rf S mi pc ls (.inl n :: .inl dp :: .inr d :: .inl sp :: .inr s :: st) f Q := by
  refine Rf.go ?_ K
  rw [xstep_eq h]
  show (if (xkd S s = 1 ∧ xkd S d = 1) ∧ (0 ≤ sp ∧ xok sp) ∧ (0 ≤ dp ∧ xok dp) ∧ (0 ≤ n ∧ xok n) ∧ sp + n ≤ xln S s ∧ dp + n ≤ xln S d ∧ 1 ≤ xmi mi 5 ∧ 38 ≤ xmi mi 6 ∧ st.length ≤ 8 then _ else none) = _
  rw [if_pos ⟨hk, h1, h2, h3, h4, h5, hg⟩]
  rfl
theorem R_ret (h : xins mi pc = (29, a, b, c)) (hg : xmi mi 1 = 1 ∨ (xmi mi 1 = 2 ∧ (x = 0 ∨ x = 1))) (K : Q [.inl x] f) : Rf S mi pc ls [.inl x] f Q := by
  refine ⟨1, [.inl x], f, ?_, K⟩
  unfold xrun
  rw [xstep_eq h]
  simp only [xsem, if_pos hg]
theorem R_retv (h : xins mi pc = (30, a, b, c)) (hg : xmi mi 1 = 0) (K : Q [] f) : Rf S mi pc ls [] f Q := by
  refine ⟨1, [], f, ?_, K⟩
  unfold xrun
  rw [xstep_eq h]
  simp only [xsem, if_pos hg]
theorem Rf.call {j : Nat} {as : List xV} (h : xstep mi pc (0, 0) ls st (S, f) = some (.inr (.inl (j, as, r)))) (hz : xmi j 7 = 0 ∧ xmi j 8 = 0) (K : Rf S j 0 (xloc j as) [] f (fun v f' => Rf S mi (pc + 3) ls (v ++ r) f' Q)) : Rf S mi pc ls st f Q := by
  obtain ⟨n, v, f1, h1, m, v2, f2, h2, h3⟩ := K
  refine ⟨max n m + 1, v2, f2, ?_, h3⟩
  unfold xrun
  rw [h]
  dsimp only
  rw [xrun_mono n _ _ _ _ _ _ _ h1 _ (Nat.le_max_left n m)]
  dsimp only
  rw [hz.1, hz.2]
  exact xrun_mono m _ _ _ _ _ _ _ h2 _ (Nat.le_max_right n m)
def xcg (mi j c n : Nat) : Bool := decide (c ≤ n) && (decide (n ≤ c + 8) && (decide (xmi j 5 + 1 ≤ xmi mi 5) && (decide (8 + (xmi j 0 + 11) + xmi j 6 ≤ xmi mi 6) && (decide (xmi j 7 = 0) && decide (xmi j 8 = 0)))))
theorem xcg_eq {j n : Nat} (h : xcg mi j c n = true) : (c ≤ n ∧ n ≤ c + 8 ∧ xmi j 5 + 1 ≤ xmi mi 5 ∧ 8 + (xmi j 0 + 11) + xmi j 6 ≤ xmi mi 6 ∧ 0 + xmi j 7 ≤ xmi mi 7 ∧ 0 + xmi j 8 ≤ xmi mi 8) ∧ xmi j 7 = 0 ∧ xmi j 8 = 0 := by
  simp only [xcg, Bool.and_eq_true, decide_eq_true_eq] at h
  obtain ⟨h1, h2, h3, h4, h5, h6⟩ := h
  exact ⟨⟨h1, h2, h3, h4, by omega, by omega⟩, h5, h6⟩
theorem R_cs {j : Nat} {as : List xV} (h : xins mi pc = (28, a, j, c)) (hk : xmi j 3 = 0) (hg : xcg mi j c st.length = true) (ha : (st.take c).reverse = as) (hr : st.drop c = r) (K : Rf S j 0 (xloc j as) [] f (fun v f' => Rf S mi (pc + 3) ls (v ++ r) f' Q)) : Rf S mi pc ls st f Q := by
  obtain ⟨g1, g2⟩ := xcg_eq hg
  refine Rf.call ?_ g2 K
  rw [xstep_eq h]
  simp only [xsem]
  rw [if_pos g1, hk, ha, hr]
  rfl
theorem R_cv {j : Nat} {as : List xV} (h : xins mi pc = (28, a, j, c)) (hk : xmi j 3 = 1) (hg : xcg mi j c st.length = true) (ha : (st.take c).reverse = .inr p :: as) (hr : st.drop c = r) (hp : xkd S p = 10 + xmi j 4) (K : Rf S j 0 (xloc j (.inr p :: as)) [] f (fun v f' => Rf S mi (pc + 3) ls (v ++ r) f' Q)) : Rf S mi pc ls st f Q := by
  obtain ⟨g1, g2⟩ := xcg_eq hg
  refine Rf.call ?_ g2 K
  rw [xstep_eq h]
  simp only [xsem]
  rw [if_pos g1, hk, ha, hr]
  show (if xkd S p = 10 + xmi j 4 then _ else none) = _
  rw [if_pos hp]
end RF
end
section
/-! ===== fetch rows ===== -/
theorem xq_0 : xnth xprog 0 [] = xk_0 := rfl
theorem fx_0_0 : xins 0 0 = (3, 0, 0, 1) := by decide +kernel
theorem fx_0_1 : xins 0 1 = (26, 85, 0, 0) := by decide +kernel
theorem fx_0_4 : xins 0 4 = (3, 0, 0, 1) := by decide +kernel
theorem fx_0_5 : xins 0 5 = (19, 88, 4, 0) := by decide +kernel
theorem fx_0_8 : xins 0 8 = (23, 0, 0, 0) := by decide +kernel
theorem fx_0_9 : xins 0 9 = (28, 90, 1, 1) := by decide +kernel
theorem fx_0_12 : xins 0 12 = (13, 268, 6, 0) := by decide +kernel
theorem fx_0_15 : xins 0 15 = (3, 0, 0, 1) := by decide +kernel
theorem fx_0_16 : xins 0 16 = (19, 181, 1, 0) := by decide +kernel
theorem fx_0_19 : xins 0 19 = (23, 0, 0, 0) := by decide +kernel
theorem fx_0_20 : xins 0 20 = (28, 183, 4, 1) := by decide +kernel
theorem fx_0_23 : xins 0 23 = (13, 269, 6, 1) := by decide +kernel
theorem fx_0_26 : xins 0 26 = (3, 0, 0, 1) := by decide +kernel
theorem fx_0_27 : xins 0 27 = (19, 200, 5, 0) := by decide +kernel
theorem fx_0_30 : xins 0 30 = (23, 0, 0, 0) := by decide +kernel
theorem fx_0_31 : xins 0 31 = (28, 202, 5, 1) := by decide +kernel
theorem fx_0_34 : xins 0 34 = (13, 270, 6, 2) := by decide +kernel
theorem fx_0_37 : xins 0 37 = (3, 0, 0, 1) := by decide +kernel
theorem fx_0_38 : xins 0 38 = (19, 218, 2, 0) := by decide +kernel
theorem fx_0_41 : xins 0 41 = (23, 0, 0, 0) := by decide +kernel
theorem fx_0_42 : xins 0 42 = (28, 220, 6, 1) := by decide +kernel
theorem fx_0_45 : xins 0 45 = (13, 271, 6, 3) := by decide +kernel
theorem fx_0_48 : xins 0 48 = (30, 0, 0, 0) := by decide +kernel
theorem xq_1 : xnth xprog 1 [] = xk_1 := rfl
theorem fx_1_0 : xins 1 0 = (3, 0, 0, 1) := by decide +kernel
theorem fx_1_1 : xins 1 1 = (26, 93, 0, 0) := by decide +kernel
theorem fx_1_4 : xins 1 4 = (3, 0, 0, 1) := by decide +kernel
theorem fx_1_5 : xins 1 5 = (1, 12, 2, 0) := by decide +kernel
theorem fx_1_7 : xins 1 7 = (21, 94, 2, 0) := by decide +kernel
theorem fx_1_10 : xins 1 10 = (13, 138, 4, 0) := by decide +kernel
theorem fx_1_13 : xins 1 13 = (3, 0, 0, 1) := by decide +kernel
theorem fx_1_14 : xins 1 14 = (1, 8, 2, 0) := by decide +kernel
theorem fx_1_16 : xins 1 16 = (20, 0, 0, 0) := by decide +kernel
theorem fx_1_18 : xins 1 18 = (13, 142, 4, 1) := by decide +kernel
theorem fx_1_21 : xins 1 21 = (3, 0, 0, 1) := by decide +kernel
theorem fx_1_22 : xins 1 22 = (1, 4, 1, 0) := by decide +kernel
theorem fx_1_23 : xins 1 23 = (20, 0, 0, 0) := by decide +kernel
theorem fx_1_25 : xins 1 25 = (13, 146, 4, 2) := by decide +kernel
theorem fx_1_28 : xins 1 28 = (3, 0, 0, 1) := by decide +kernel
theorem fx_1_29 : xins 1 29 = (1, 4, 1, 0) := by decide +kernel
theorem fx_1_30 : xins 1 30 = (20, 0, 0, 0) := by decide +kernel
theorem fx_1_32 : xins 1 32 = (13, 149, 4, 3) := by decide +kernel
theorem fx_1_35 : xins 1 35 = (3, 0, 0, 1) := by decide +kernel
theorem fx_1_36 : xins 1 36 = (1, 6, 2, 0) := by decide +kernel
theorem fx_1_38 : xins 1 38 = (13, 154, 4, 5) := by decide +kernel
theorem fx_1_41 : xins 1 41 = (3, 0, 0, 1) := by decide +kernel
theorem fx_1_42 : xins 1 42 = (1, 5, 1, 0) := by decide +kernel
theorem fx_1_43 : xins 1 43 = (13, 158, 4, 6) := by decide +kernel
theorem fx_1_46 : xins 1 46 = (1, 0, 1, 0) := by decide +kernel
theorem fx_1_47 : xins 1 47 = (4, 0, 1, 1) := by decide +kernel
theorem fx_1_48 : xins 1 48 = (2, 0, 1, 1) := by decide +kernel
theorem fx_1_49 : xins 1 49 = (1, 12, 2, 0) := by decide +kernel
theorem fx_1_51 : xins 1 51 = (10, 0, 3, 73) := by decide +kernel
theorem fx_1_54 : xins 1 54 = (3, 0, 0, 1) := by decide +kernel
theorem fx_1_55 : xins 1 55 = (12, 138, 4, 0) := by decide +kernel
theorem fx_1_58 : xins 1 58 = (2, 0, 1, 1) := by decide +kernel
theorem fx_1_59 : xins 1 59 = (19, 94, 3, 0) := by decide +kernel
theorem fx_1_62 : xins 1 62 = (23, 0, 0, 0) := by decide +kernel
theorem fx_1_63 : xins 1 63 = (28, 97, 2, 1) := by decide +kernel
theorem fx_1_66 : xins 1 66 = (17, 0, 0, 0) := by decide +kernel
theorem fx_1_67 : xins 1 67 = (6, 1, 1, 0) := by decide +kernel
theorem fx_1_70 : xins 1 70 = (11, 0, 0, 48) := by decide +kernel
theorem fx_1_73 : xins 1 73 = (3, 0, 0, 1) := by decide +kernel
theorem fx_1_74 : xins 1 74 = (12, 142, 4, 1) := by decide +kernel
theorem fx_1_77 : xins 1 77 = (1, (-1), 1, 0) := by decide +kernel
theorem fx_1_78 : xins 1 78 = (28, 135, 3, 2) := by decide +kernel
theorem fx_1_81 : xins 1 81 = (3, 0, 0, 1) := by decide +kernel
theorem fx_1_82 : xins 1 82 = (12, 146, 4, 2) := by decide +kernel
theorem fx_1_85 : xins 1 85 = (1, 1, 1, 0) := by decide +kernel
theorem fx_1_86 : xins 1 86 = (28, 135, 3, 2) := by decide +kernel
theorem fx_1_89 : xins 1 89 = (30, 0, 0, 0) := by decide +kernel
theorem xq_2 : xnth xprog 2 [] = xk_2 := rfl
theorem fx_2_0 : xins 2 0 = (3, 0, 0, 1) := by decide +kernel
theorem fx_2_1 : xins 2 1 = (26, 100, 0, 0) := by decide +kernel
theorem fx_2_4 : xins 2 4 = (3, 0, 0, 1) := by decide +kernel
theorem fx_2_5 : xins 2 5 = (1, 1, 1, 0) := by decide +kernel
theorem fx_2_6 : xins 2 6 = (13, 104, 3, 1) := by decide +kernel
theorem fx_2_9 : xins 2 9 = (3, 0, 0, 1) := by decide +kernel
theorem fx_2_10 : xins 2 10 = (1, 0, 1, 0) := by decide +kernel
theorem fx_2_11 : xins 2 11 = (13, 110, 3, 3) := by decide +kernel
theorem fx_2_14 : xins 2 14 = (3, 0, 0, 1) := by decide +kernel
theorem fx_2_15 : xins 2 15 = (1, (-1), 1, 0) := by decide +kernel
theorem fx_2_16 : xins 2 16 = (13, 113, 3, 4) := by decide +kernel
theorem fx_2_19 : xins 2 19 = (3, 0, 0, 1) := by decide +kernel
theorem fx_2_20 : xins 2 20 = (1, (-1), 1, 0) := by decide +kernel
theorem fx_2_21 : xins 2 21 = (13, 115, 3, 5) := by decide +kernel
theorem fx_2_24 : xins 2 24 = (30, 0, 0, 0) := by decide +kernel
theorem xq_3 : xnth xprog 3 [] = xk_3 := rfl
theorem fx_3_0 : xins 3 0 = (1, 0, 1, 0) := by decide +kernel
theorem fx_3_1 : xins 3 1 = (4, 0, 2, 1) := by decide +kernel
theorem fx_3_2 : xins 3 2 = (3, 0, 0, 1) := by decide +kernel
theorem fx_3_3 : xins 3 3 = (18, 0, 0, 0) := by decide +kernel
theorem fx_3_4 : xins 3 4 = (4, 0, 3, 1) := by decide +kernel
theorem fx_3_5 : xins 3 5 = (2, 0, 2, 1) := by decide +kernel
theorem fx_3_6 : xins 3 6 = (2, 0, 3, 1) := by decide +kernel
theorem fx_3_7 : xins 3 7 = (10, 0, 3, 20) := by decide +kernel
theorem fx_3_10 : xins 3 10 = (3, 0, 0, 1) := by decide +kernel
theorem fx_3_11 : xins 3 11 = (2, 0, 2, 1) := by decide +kernel
theorem fx_3_12 : xins 3 12 = (2, 0, 1, 1) := by decide +kernel
theorem fx_3_13 : xins 3 13 = (15, 0, 0, 0) := by decide +kernel
theorem fx_3_14 : xins 3 14 = (6, 1, 2, 0) := by decide +kernel
theorem fx_3_17 : xins 3 17 = (11, 0, 0, 5) := by decide +kernel
theorem fx_3_20 : xins 3 20 = (30, 0, 0, 0) := by decide +kernel
theorem xq_4 : xnth xprog 4 [] = xk_4 := rfl
theorem fx_4_0 : xins 4 0 = (3, 0, 0, 1) := by decide +kernel
theorem fx_4_1 : xins 4 1 = (26, 186, 0, 0) := by decide +kernel
theorem fx_4_4 : xins 4 4 = (3, 0, 0, 1) := by decide +kernel
theorem fx_4_5 : xins 4 5 = (1, 6, 2, 0) := by decide +kernel
theorem fx_4_7 : xins 4 7 = (21, 187, 3, 0) := by decide +kernel
theorem fx_4_10 : xins 4 10 = (13, 190, 1, 0) := by decide +kernel
theorem fx_4_13 : xins 4 13 = (1, 0, 1, 0) := by decide +kernel
theorem fx_4_14 : xins 4 14 = (4, 0, 1, 1) := by decide +kernel
theorem fx_4_15 : xins 4 15 = (2, 0, 1, 1) := by decide +kernel
theorem fx_4_16 : xins 4 16 = (1, 6, 2, 0) := by decide +kernel
theorem fx_4_18 : xins 4 18 = (10, 0, 3, 40) := by decide +kernel
theorem fx_4_21 : xins 4 21 = (3, 0, 0, 1) := by decide +kernel
theorem fx_4_22 : xins 4 22 = (12, 190, 1, 0) := by decide +kernel
theorem fx_4_25 : xins 4 25 = (2, 0, 1, 1) := by decide +kernel
theorem fx_4_26 : xins 4 26 = (19, 187, 4, 0) := by decide +kernel
theorem fx_4_29 : xins 4 29 = (23, 0, 0, 0) := by decide +kernel
theorem fx_4_30 : xins 4 30 = (28, 189, 1, 1) := by decide +kernel
theorem fx_4_33 : xins 4 33 = (17, 0, 0, 0) := by decide +kernel
theorem fx_4_34 : xins 4 34 = (6, 1, 1, 0) := by decide +kernel
theorem fx_4_37 : xins 4 37 = (11, 0, 0, 15) := by decide +kernel
theorem fx_4_40 : xins 4 40 = (30, 0, 0, 0) := by decide +kernel
theorem xq_5 : xnth xprog 5 [] = xk_5 := rfl
theorem fx_5_0 : xins 5 0 = (3, 0, 0, 1) := by decide +kernel
theorem fx_5_1 : xins 5 1 = (26, 205, 0, 0) := by decide +kernel
theorem fx_5_4 : xins 5 4 = (3, 0, 0, 1) := by decide +kernel
theorem fx_5_5 : xins 5 5 = (1, 12, 2, 0) := by decide +kernel
theorem fx_5_7 : xins 5 7 = (1, 101, 2, 0) := by decide +kernel
theorem fx_5_9 : xins 5 9 = (22, 206, 0, 0) := by decide +kernel
theorem fx_5_13 : xins 5 13 = (13, 208, 5, 0) := by decide +kernel
theorem fx_5_16 : xins 5 16 = (3, 0, 0, 1) := by decide +kernel
theorem fx_5_17 : xins 5 17 = (1, 101, 2, 0) := by decide +kernel
theorem fx_5_19 : xins 5 19 = (20, 0, 0, 0) := by decide +kernel
theorem fx_5_21 : xins 5 21 = (13, 209, 5, 1) := by decide +kernel
theorem fx_5_24 : xins 5 24 = (3, 0, 0, 1) := by decide +kernel
theorem fx_5_25 : xins 5 25 = (1, 101, 2, 0) := by decide +kernel
theorem fx_5_27 : xins 5 27 = (20, 0, 0, 0) := by decide +kernel
theorem fx_5_29 : xins 5 29 = (13, 210, 5, 2) := by decide +kernel
theorem fx_5_32 : xins 5 32 = (30, 0, 0, 0) := by decide +kernel
theorem xq_6 : xnth xprog 6 [] = xk_6 := rfl
theorem fx_6_0 : xins 6 0 = (3, 0, 0, 1) := by decide +kernel
theorem fx_6_1 : xins 6 1 = (26, 223, 0, 0) := by decide +kernel
theorem fx_6_4 : xins 6 4 = (3, 0, 0, 1) := by decide +kernel
theorem fx_6_5 : xins 6 5 = (19, 224, 0, 0) := by decide +kernel
theorem fx_6_8 : xins 6 8 = (23, 0, 0, 0) := by decide +kernel
theorem fx_6_9 : xins 6 9 = (28, 226, 7, 1) := by decide +kernel
theorem fx_6_12 : xins 6 12 = (13, 237, 2, 0) := by decide +kernel
theorem fx_6_15 : xins 6 15 = (3, 0, 0, 1) := by decide +kernel
theorem fx_6_16 : xins 6 16 = (1, 4096, 3, 0) := by decide +kernel
theorem fx_6_19 : xins 6 19 = (20, 0, 0, 0) := by decide +kernel
theorem fx_6_21 : xins 6 21 = (13, 238, 2, 1) := by decide +kernel
theorem fx_6_24 : xins 6 24 = (3, 0, 0, 1) := by decide +kernel
theorem fx_6_25 : xins 6 25 = (1, 4096, 3, 0) := by decide +kernel
theorem fx_6_28 : xins 6 28 = (20, 0, 0, 0) := by decide +kernel
theorem fx_6_30 : xins 6 30 = (13, 239, 2, 2) := by decide +kernel
theorem fx_6_33 : xins 6 33 = (3, 0, 0, 1) := by decide +kernel
theorem fx_6_34 : xins 6 34 = (1, 8, 2, 0) := by decide +kernel
theorem fx_6_36 : xins 6 36 = (20, 0, 0, 0) := by decide +kernel
theorem fx_6_38 : xins 6 38 = (13, 240, 2, 3) := by decide +kernel
theorem fx_6_41 : xins 6 41 = (3, 0, 0, 1) := by decide +kernel
theorem fx_6_42 : xins 6 42 = (1, 8, 2, 0) := by decide +kernel
theorem fx_6_44 : xins 6 44 = (20, 0, 0, 0) := by decide +kernel
theorem fx_6_46 : xins 6 46 = (13, 241, 2, 4) := by decide +kernel
theorem fx_6_49 : xins 6 49 = (30, 0, 0, 0) := by decide +kernel
theorem xq_7 : xnth xprog 7 [] = xk_7 := rfl
theorem fx_7_0 : xins 7 0 = (3, 0, 0, 1) := by decide +kernel
theorem fx_7_1 : xins 7 1 = (26, 229, 0, 0) := by decide +kernel
theorem fx_7_4 : xins 7 4 = (3, 0, 0, 1) := by decide +kernel
theorem fx_7_5 : xins 7 5 = (1, 96, 2, 0) := by decide +kernel
theorem fx_7_7 : xins 7 7 = (20, 0, 0, 0) := by decide +kernel
theorem fx_7_9 : xins 7 9 = (13, 230, 0, 0) := by decide +kernel
theorem fx_7_12 : xins 7 12 = (3, 0, 0, 1) := by decide +kernel
theorem fx_7_13 : xins 7 13 = (1, 576, 3, 0) := by decide +kernel
theorem fx_7_16 : xins 7 16 = (20, 0, 0, 0) := by decide +kernel
theorem fx_7_18 : xins 7 18 = (13, 231, 0, 1) := by decide +kernel
theorem fx_7_21 : xins 7 21 = (30, 0, 0, 0) := by decide +kernel
theorem xq_8 : xnth xprog 8 [] = xk_8 := rfl
theorem fx_8_0 : xins 8 0 = (2, 0, 1, 1) := by decide +kernel
theorem fx_8_1 : xins 8 1 = (1, 0, 1, 0) := by decide +kernel
theorem fx_8_2 : xins 8 2 = (1, 9999, 3, 0) := by decide +kernel
theorem fx_8_5 : xins 8 5 = (28, 285, 9, 3) := by decide +kernel
theorem fx_8_8 : xins 8 8 = (9, 0, 0, 35) := by decide +kernel
theorem fx_8_11 : xins 8 11 = (2, 0, 2, 1) := by decide +kernel
theorem fx_8_12 : xins 8 12 = (1, 1, 1, 0) := by decide +kernel
theorem fx_8_13 : xins 8 13 = (1, 20, 2, 0) := by decide +kernel
theorem fx_8_15 : xins 8 15 = (28, 285, 9, 3) := by decide +kernel
theorem fx_8_18 : xins 8 18 = (9, 0, 0, 35) := by decide +kernel
theorem fx_8_21 : xins 8 21 = (2, 0, 3, 1) := by decide +kernel
theorem fx_8_22 : xins 8 22 = (1, 0, 1, 0) := by decide +kernel
theorem fx_8_23 : xins 8 23 = (1, 20, 2, 0) := by decide +kernel
theorem fx_8_25 : xins 8 25 = (28, 285, 9, 3) := by decide +kernel
theorem fx_8_28 : xins 8 28 = (9, 0, 0, 35) := by decide +kernel
theorem fx_8_31 : xins 8 31 = (1, 1, 1, 0) := by decide +kernel
theorem fx_8_32 : xins 8 32 = (11, 0, 0, 36) := by decide +kernel
theorem fx_8_35 : xins 8 35 = (1, 0, 1, 0) := by decide +kernel
theorem fx_8_36 : xins 8 36 = (4, 0, 4, 2) := by decide +kernel
theorem fx_8_38 : xins 8 38 = (2, 0, 4, 2) := by decide +kernel
theorem fx_8_40 : xins 8 40 = (9, 0, 0, 55) := by decide +kernel
theorem fx_8_43 : xins 8 43 = (3, 0, 0, 1) := by decide +kernel
theorem fx_8_44 : xins 8 44 = (12, 268, 6, 0) := by decide +kernel
theorem fx_8_47 : xins 8 47 = (12, 152, 4, 4) := by decide +kernel
theorem fx_8_50 : xins 8 50 = (1, 12, 2, 0) := by decide +kernel
theorem fx_8_52 : xins 8 52 = (10, 0, 2, 57) := by decide +kernel
theorem fx_8_55 : xins 8 55 = (1, (-1), 1, 0) := by decide +kernel
theorem fx_8_56 : xins 8 56 = (29, 0, 0, 0) := by decide +kernel
theorem fx_8_57 : xins 8 57 = (3, 0, 0, 1) := by decide +kernel
theorem fx_8_58 : xins 8 58 = (28, 288, 10, 1) := by decide +kernel
theorem fx_8_61 : xins 8 61 = (3, 0, 0, 1) := by decide +kernel
theorem fx_8_62 : xins 8 62 = (12, 268, 6, 0) := by decide +kernel
theorem fx_8_65 : xins 8 65 = (12, 152, 4, 4) := by decide +kernel
theorem fx_8_68 : xins 8 68 = (4, 0, 5, 2) := by decide +kernel
theorem fx_8_70 : xins 8 70 = (3, 0, 0, 1) := by decide +kernel
theorem fx_8_71 : xins 8 71 = (12, 268, 6, 0) := by decide +kernel
theorem fx_8_74 : xins 8 74 = (12, 139, 4, 0) := by decide +kernel
theorem fx_8_77 : xins 8 77 = (2, 0, 5, 2) := by decide +kernel
theorem fx_8_79 : xins 8 79 = (16, 0, 0, 0) := by decide +kernel
theorem fx_8_80 : xins 8 80 = (2, 0, 1, 1) := by decide +kernel
theorem fx_8_81 : xins 8 81 = (2, 0, 2, 1) := by decide +kernel
theorem fx_8_82 : xins 8 82 = (2, 0, 3, 1) := by decide +kernel
theorem fx_8_83 : xins 8 83 = (28, 314, 16, 4) := by decide +kernel
theorem fx_8_86 : xins 8 86 = (3, 0, 0, 1) := by decide +kernel
theorem fx_8_87 : xins 8 87 = (12, 268, 6, 0) := by decide +kernel
theorem fx_8_90 : xins 8 90 = (2, 0, 5, 2) := by decide +kernel
theorem fx_8_92 : xins 8 92 = (1, 1, 1, 0) := by decide +kernel
theorem fx_8_93 : xins 8 93 = (7, 0, 0, 0) := by decide +kernel
theorem fx_8_94 : xins 8 94 = (13, 152, 4, 4) := by decide +kernel
theorem fx_8_97 : xins 8 97 = (2, 0, 5, 2) := by decide +kernel
theorem fx_8_99 : xins 8 99 = (29, 0, 0, 0) := by decide +kernel
theorem xq_9 : xnth xprog 9 [] = xk_9 := rfl
theorem fx_9_0 : xins 9 0 = (2, 0, 0, 1) := by decide +kernel
theorem fx_9_1 : xins 9 1 = (2, 0, 1, 1) := by decide +kernel
theorem fx_9_2 : xins 9 2 = (10, 0, 2, 14) := by decide +kernel
theorem fx_9_5 : xins 9 5 = (2, 0, 0, 1) := by decide +kernel
theorem fx_9_6 : xins 9 6 = (2, 0, 2, 1) := by decide +kernel
theorem fx_9_7 : xins 9 7 = (10, 0, 4, 14) := by decide +kernel
theorem fx_9_10 : xins 9 10 = (1, 1, 1, 0) := by decide +kernel
theorem fx_9_11 : xins 9 11 = (11, 0, 0, 15) := by decide +kernel
theorem fx_9_14 : xins 9 14 = (1, 0, 1, 0) := by decide +kernel
theorem fx_9_15 : xins 9 15 = (29, 0, 0, 0) := by decide +kernel
theorem xq_10 : xnth xprog 10 [] = xk_10 := rfl
theorem fx_10_0 : xins 10 0 = (3, 0, 0, 1) := by decide +kernel
theorem fx_10_1 : xins 10 1 = (12, 269, 6, 1) := by decide +kernel
theorem fx_10_4 : xins 10 4 = (3, 0, 0, 1) := by decide +kernel
theorem fx_10_5 : xins 10 5 = (12, 268, 6, 0) := by decide +kernel
theorem fx_10_8 : xins 10 8 = (28, 292, 11, 2) := by decide +kernel
theorem fx_10_11 : xins 10 11 = (3, 0, 0, 1) := by decide +kernel
theorem fx_10_12 : xins 10 12 = (12, 271, 6, 3) := by decide +kernel
theorem fx_10_15 : xins 10 15 = (28, 310, 15, 1) := by decide +kernel
theorem fx_10_18 : xins 10 18 = (30, 0, 0, 0) := by decide +kernel
theorem xq_11 : xnth xprog 11 [] = xk_11 := rfl
theorem fx_11_0 : xins 11 0 = (3, 0, 0, 1) := by decide +kernel
theorem fx_11_1 : xins 11 1 = (12, 190, 1, 0) := by decide +kernel
theorem fx_11_4 : xins 11 4 = (3, 0, 0, 1) := by decide +kernel
theorem fx_11_5 : xins 11 5 = (12, 192, 1, 2) := by decide +kernel
theorem fx_11_8 : xins 11 8 = (16, 0, 0, 0) := by decide +kernel
theorem fx_11_9 : xins 11 9 = (3, 0, 1, 1) := by decide +kernel
theorem fx_11_10 : xins 11 10 = (28, 296, 12, 2) := by decide +kernel
theorem fx_11_13 : xins 11 13 = (3, 0, 0, 1) := by decide +kernel
theorem fx_11_14 : xins 11 14 = (3, 0, 0, 1) := by decide +kernel
theorem fx_11_15 : xins 11 15 = (12, 192, 1, 2) := by decide +kernel
theorem fx_11_18 : xins 11 18 = (1, 5, 1, 0) := by decide +kernel
theorem fx_11_19 : xins 11 19 = (10, 0, 1, 26) := by decide +kernel
theorem fx_11_22 : xins 11 22 = (1, 0, 1, 0) := by decide +kernel
theorem fx_11_23 : xins 11 23 = (11, 0, 0, 32) := by decide +kernel
theorem fx_11_26 : xins 11 26 = (3, 0, 0, 1) := by decide +kernel
theorem fx_11_27 : xins 11 27 = (12, 192, 1, 2) := by decide +kernel
theorem fx_11_30 : xins 11 30 = (1, 1, 1, 0) := by decide +kernel
theorem fx_11_31 : xins 11 31 = (7, 0, 0, 0) := by decide +kernel
theorem fx_11_32 : xins 11 32 = (13, 192, 1, 2) := by decide +kernel
theorem fx_11_35 : xins 11 35 = (3, 0, 0, 1) := by decide +kernel
theorem fx_11_36 : xins 11 36 = (3, 0, 0, 1) := by decide +kernel
theorem fx_11_37 : xins 11 37 = (12, 191, 1, 1) := by decide +kernel
theorem fx_11_40 : xins 11 40 = (1, 1, 1, 0) := by decide +kernel
theorem fx_11_41 : xins 11 41 = (7, 0, 0, 0) := by decide +kernel
theorem fx_11_42 : xins 11 42 = (1, 6, 2, 0) := by decide +kernel
theorem fx_11_44 : xins 11 44 = (33, 307, 0, 0) := by decide +kernel
theorem fx_11_47 : xins 11 47 = (13, 191, 1, 1) := by decide +kernel
theorem fx_11_50 : xins 11 50 = (30, 0, 0, 0) := by decide +kernel
theorem xq_12 : xnth xprog 12 [] = xk_12 := rfl
theorem fx_12_0 : xins 12 0 = (1, 0, 1, 0) := by decide +kernel
theorem fx_12_1 : xins 12 1 = (4, 0, 2, 1) := by decide +kernel
theorem fx_12_2 : xins 12 2 = (2, 0, 2, 1) := by decide +kernel
theorem fx_12_3 : xins 12 3 = (1, 12, 2, 0) := by decide +kernel
theorem fx_12_5 : xins 12 5 = (10, 0, 3, 29) := by decide +kernel
theorem fx_12_8 : xins 12 8 = (3, 0, 0, 1) := by decide +kernel
theorem fx_12_9 : xins 12 9 = (12, 138, 4, 0) := by decide +kernel
theorem fx_12_12 : xins 12 12 = (2, 0, 2, 1) := by decide +kernel
theorem fx_12_13 : xins 12 13 = (16, 0, 0, 0) := by decide +kernel
theorem fx_12_14 : xins 12 14 = (3, 0, 1, 1) := by decide +kernel
theorem fx_12_15 : xins 12 15 = (12, 138, 4, 0) := by decide +kernel
theorem fx_12_18 : xins 12 18 = (2, 0, 2, 1) := by decide +kernel
theorem fx_12_19 : xins 12 19 = (16, 0, 0, 0) := by decide +kernel
theorem fx_12_20 : xins 12 20 = (28, 300, 13, 2) := by decide +kernel
theorem fx_12_23 : xins 12 23 = (6, 1, 2, 0) := by decide +kernel
theorem fx_12_26 : xins 12 26 = (11, 0, 0, 2) := by decide +kernel
theorem fx_12_29 : xins 12 29 = (3, 0, 1, 1) := by decide +kernel
theorem fx_12_30 : xins 12 30 = (12, 142, 4, 1) := by decide +kernel
theorem fx_12_33 : xins 12 33 = (1, 0, 1, 0) := by decide +kernel
theorem fx_12_34 : xins 12 34 = (3, 0, 0, 1) := by decide +kernel
theorem fx_12_35 : xins 12 35 = (12, 142, 4, 1) := by decide +kernel
theorem fx_12_38 : xins 12 38 = (1, 0, 1, 0) := by decide +kernel
theorem fx_12_39 : xins 12 39 = (1, 8, 2, 0) := by decide +kernel
theorem fx_12_41 : xins 12 41 = (27, 304, 0, 0) := by decide +kernel
theorem fx_12_44 : xins 12 44 = (3, 0, 1, 1) := by decide +kernel
theorem fx_12_45 : xins 12 45 = (12, 146, 4, 2) := by decide +kernel
theorem fx_12_48 : xins 12 48 = (1, 0, 1, 0) := by decide +kernel
theorem fx_12_49 : xins 12 49 = (3, 0, 0, 1) := by decide +kernel
theorem fx_12_50 : xins 12 50 = (12, 146, 4, 2) := by decide +kernel
theorem fx_12_53 : xins 12 53 = (1, 0, 1, 0) := by decide +kernel
theorem fx_12_54 : xins 12 54 = (1, 4, 1, 0) := by decide +kernel
theorem fx_12_55 : xins 12 55 = (27, 304, 0, 0) := by decide +kernel
theorem fx_12_58 : xins 12 58 = (3, 0, 1, 1) := by decide +kernel
theorem fx_12_59 : xins 12 59 = (12, 149, 4, 3) := by decide +kernel
theorem fx_12_62 : xins 12 62 = (1, 0, 1, 0) := by decide +kernel
theorem fx_12_63 : xins 12 63 = (3, 0, 0, 1) := by decide +kernel
theorem fx_12_64 : xins 12 64 = (12, 149, 4, 3) := by decide +kernel
theorem fx_12_67 : xins 12 67 = (1, 0, 1, 0) := by decide +kernel
theorem fx_12_68 : xins 12 68 = (1, 4, 1, 0) := by decide +kernel
theorem fx_12_69 : xins 12 69 = (27, 304, 0, 0) := by decide +kernel
theorem fx_12_72 : xins 12 72 = (3, 0, 0, 1) := by decide +kernel
theorem fx_12_73 : xins 12 73 = (3, 0, 1, 1) := by decide +kernel
theorem fx_12_74 : xins 12 74 = (12, 153, 4, 4) := by decide +kernel
theorem fx_12_77 : xins 12 77 = (13, 153, 4, 4) := by decide +kernel
theorem fx_12_80 : xins 12 80 = (3, 0, 0, 1) := by decide +kernel
theorem fx_12_81 : xins 12 81 = (3, 0, 1, 1) := by decide +kernel
theorem fx_12_82 : xins 12 82 = (12, 154, 4, 5) := by decide +kernel
theorem fx_12_85 : xins 12 85 = (13, 154, 4, 5) := by decide +kernel
theorem fx_12_88 : xins 12 88 = (3, 0, 0, 1) := by decide +kernel
theorem fx_12_89 : xins 12 89 = (3, 0, 1, 1) := by decide +kernel
theorem fx_12_90 : xins 12 90 = (12, 158, 4, 6) := by decide +kernel
theorem fx_12_93 : xins 12 93 = (13, 158, 4, 6) := by decide +kernel
theorem fx_12_96 : xins 12 96 = (3, 0, 0, 1) := by decide +kernel
theorem fx_12_97 : xins 12 97 = (3, 0, 1, 1) := by decide +kernel
theorem fx_12_98 : xins 12 98 = (12, 161, 4, 7) := by decide +kernel
theorem fx_12_101 : xins 12 101 = (13, 161, 4, 7) := by decide +kernel
theorem fx_12_104 : xins 12 104 = (30, 0, 0, 0) := by decide +kernel
theorem xq_13 : xnth xprog 13 [] = xk_13 := rfl
theorem fx_13_0 : xins 13 0 = (3, 0, 0, 1) := by decide +kernel
theorem fx_13_1 : xins 13 1 = (3, 0, 1, 1) := by decide +kernel
theorem fx_13_2 : xins 13 2 = (12, 101, 3, 0) := by decide +kernel
theorem fx_13_5 : xins 13 5 = (13, 101, 3, 0) := by decide +kernel
theorem fx_13_8 : xins 13 8 = (3, 0, 0, 1) := by decide +kernel
theorem fx_13_9 : xins 13 9 = (3, 0, 1, 1) := by decide +kernel
theorem fx_13_10 : xins 13 10 = (12, 104, 3, 1) := by decide +kernel
theorem fx_13_13 : xins 13 13 = (13, 104, 3, 1) := by decide +kernel
theorem fx_13_16 : xins 13 16 = (3, 0, 0, 1) := by decide +kernel
theorem fx_13_17 : xins 13 17 = (3, 0, 1, 1) := by decide +kernel
theorem fx_13_18 : xins 13 18 = (12, 107, 3, 2) := by decide +kernel
theorem fx_13_21 : xins 13 21 = (13, 107, 3, 2) := by decide +kernel
theorem fx_13_24 : xins 13 24 = (3, 0, 0, 1) := by decide +kernel
theorem fx_13_25 : xins 13 25 = (3, 0, 1, 1) := by decide +kernel
theorem fx_13_26 : xins 13 26 = (12, 110, 3, 3) := by decide +kernel
theorem fx_13_29 : xins 13 29 = (13, 110, 3, 3) := by decide +kernel
theorem fx_13_32 : xins 13 32 = (3, 0, 0, 1) := by decide +kernel
theorem fx_13_33 : xins 13 33 = (3, 0, 1, 1) := by decide +kernel
theorem fx_13_34 : xins 13 34 = (12, 113, 3, 4) := by decide +kernel
theorem fx_13_37 : xins 13 37 = (13, 113, 3, 4) := by decide +kernel
theorem fx_13_40 : xins 13 40 = (3, 0, 0, 1) := by decide +kernel
theorem fx_13_41 : xins 13 41 = (3, 0, 1, 1) := by decide +kernel
theorem fx_13_42 : xins 13 42 = (12, 115, 3, 5) := by decide +kernel
theorem fx_13_45 : xins 13 45 = (13, 115, 3, 5) := by decide +kernel
theorem fx_13_48 : xins 13 48 = (3, 0, 0, 1) := by decide +kernel
theorem fx_13_49 : xins 13 49 = (3, 0, 1, 1) := by decide +kernel
theorem fx_13_50 : xins 13 50 = (12, 117, 3, 6) := by decide +kernel
theorem fx_13_53 : xins 13 53 = (13, 117, 3, 6) := by decide +kernel
theorem fx_13_56 : xins 13 56 = (30, 0, 0, 0) := by decide +kernel
theorem xq_14 : xnth xprog 14 [] = xk_14 := rfl
theorem fx_14_0 : xins 14 0 = (2, 0, 0, 1) := by decide +kernel
theorem fx_14_1 : xins 14 1 = (2, 0, 1, 1) := by decide +kernel
theorem fx_14_2 : xins 14 2 = (10, 0, 4, 9) := by decide +kernel
theorem fx_14_5 : xins 14 5 = (2, 0, 0, 1) := by decide +kernel
theorem fx_14_6 : xins 14 6 = (11, 0, 0, 10) := by decide +kernel
theorem fx_14_9 : xins 14 9 = (2, 0, 1, 1) := by decide +kernel
theorem fx_14_10 : xins 14 10 = (29, 0, 0, 0) := by decide +kernel
theorem xq_15 : xnth xprog 15 [] = xk_15 := rfl
theorem fx_15_0 : xins 15 0 = (3, 0, 0, 1) := by decide +kernel
theorem fx_15_1 : xins 15 1 = (1, 0, 1, 0) := by decide +kernel
theorem fx_15_2 : xins 15 2 = (13, 248, 2, 8) := by decide +kernel
theorem fx_15_5 : xins 15 5 = (30, 0, 0, 0) := by decide +kernel
theorem xq_16 : xnth xprog 16 [] = xk_16 := rfl
theorem fx_16_0 : xins 16 0 = (3, 0, 0, 1) := by decide +kernel
theorem fx_16_1 : xins 16 1 = (2, 0, 1, 1) := by decide +kernel
theorem fx_16_2 : xins 16 2 = (13, 101, 3, 0) := by decide +kernel
theorem fx_16_5 : xins 16 5 = (3, 0, 0, 1) := by decide +kernel
theorem fx_16_6 : xins 16 6 = (2, 0, 2, 1) := by decide +kernel
theorem fx_16_7 : xins 16 7 = (13, 104, 3, 1) := by decide +kernel
theorem fx_16_10 : xins 16 10 = (3, 0, 0, 1) := by decide +kernel
theorem fx_16_11 : xins 16 11 = (2, 0, 3, 1) := by decide +kernel
theorem fx_16_12 : xins 16 12 = (13, 107, 3, 2) := by decide +kernel
theorem fx_16_15 : xins 16 15 = (3, 0, 0, 1) := by decide +kernel
theorem fx_16_16 : xins 16 16 = (1, 0, 1, 0) := by decide +kernel
theorem fx_16_17 : xins 16 17 = (13, 110, 3, 3) := by decide +kernel
theorem fx_16_20 : xins 16 20 = (3, 0, 0, 1) := by decide +kernel
theorem fx_16_21 : xins 16 21 = (1, (-1), 1, 0) := by decide +kernel
theorem fx_16_22 : xins 16 22 = (13, 113, 3, 4) := by decide +kernel
theorem fx_16_25 : xins 16 25 = (3, 0, 0, 1) := by decide +kernel
theorem fx_16_26 : xins 16 26 = (1, (-1), 1, 0) := by decide +kernel
theorem fx_16_27 : xins 16 27 = (13, 115, 3, 5) := by decide +kernel
theorem fx_16_30 : xins 16 30 = (3, 0, 0, 1) := by decide +kernel
theorem fx_16_31 : xins 16 31 = (1, 0, 1, 0) := by decide +kernel
theorem fx_16_32 : xins 16 32 = (13, 117, 3, 6) := by decide +kernel
theorem fx_16_35 : xins 16 35 = (30, 0, 0, 0) := by decide +kernel
theorem xq_17 : xnth xprog 17 [] = xk_17 := rfl
theorem fx_17_0 : xins 17 0 = (3, 0, 0, 1) := by decide +kernel
theorem fx_17_1 : xins 17 1 = (12, 268, 6, 0) := by decide +kernel
theorem fx_17_4 : xins 17 4 = (2, 0, 1, 1) := by decide +kernel
theorem fx_17_5 : xins 17 5 = (28, 322, 18, 2) := by decide +kernel
theorem fx_17_8 : xins 17 8 = (9, 0, 1, 13) := by decide +kernel
theorem fx_17_11 : xins 17 11 = (1, 0, 1, 0) := by decide +kernel
theorem fx_17_12 : xins 17 12 = (29, 0, 0, 0) := by decide +kernel
theorem fx_17_13 : xins 17 13 = (3, 0, 0, 1) := by decide +kernel
theorem fx_17_14 : xins 17 14 = (28, 288, 10, 1) := by decide +kernel
theorem fx_17_17 : xins 17 17 = (3, 0, 0, 1) := by decide +kernel
theorem fx_17_18 : xins 17 18 = (12, 268, 6, 0) := by decide +kernel
theorem fx_17_21 : xins 17 21 = (12, 139, 4, 0) := by decide +kernel
theorem fx_17_24 : xins 17 24 = (2, 0, 1, 1) := by decide +kernel
theorem fx_17_25 : xins 17 25 = (16, 0, 0, 0) := by decide +kernel
theorem fx_17_26 : xins 17 26 = (1, 2, 1, 0) := by decide +kernel
theorem fx_17_27 : xins 17 27 = (13, 111, 3, 3) := by decide +kernel
theorem fx_17_30 : xins 17 30 = (1, 1, 1, 0) := by decide +kernel
theorem fx_17_31 : xins 17 31 = (29, 0, 0, 0) := by decide +kernel
theorem xq_18 : xnth xprog 18 [] = xk_18 := rfl
theorem fx_18_0 : xins 18 0 = (3, 0, 0, 1) := by decide +kernel
theorem fx_18_1 : xins 18 1 = (2, 0, 1, 1) := by decide +kernel
theorem fx_18_2 : xins 18 2 = (28, 326, 19, 2) := by decide +kernel
theorem fx_18_5 : xins 18 5 = (9, 0, 0, 24) := by decide +kernel
theorem fx_18_8 : xins 18 8 = (3, 0, 0, 1) := by decide +kernel
theorem fx_18_9 : xins 18 9 = (12, 138, 4, 0) := by decide +kernel
theorem fx_18_12 : xins 18 12 = (2, 0, 1, 1) := by decide +kernel
theorem fx_18_13 : xins 18 13 = (16, 0, 0, 0) := by decide +kernel
theorem fx_18_14 : xins 18 14 = (12, 112, 3, 3) := by decide +kernel
theorem fx_18_17 : xins 18 17 = (9, 0, 1, 24) := by decide +kernel
theorem fx_18_20 : xins 18 20 = (1, 1, 1, 0) := by decide +kernel
theorem fx_18_21 : xins 18 21 = (11, 0, 0, 25) := by decide +kernel
theorem fx_18_24 : xins 18 24 = (1, 0, 1, 0) := by decide +kernel
theorem fx_18_25 : xins 18 25 = (29, 0, 0, 0) := by decide +kernel
theorem xq_19 : xnth xprog 19 [] = xk_19 := rfl
theorem fx_19_0 : xins 19 0 = (2, 0, 1, 1) := by decide +kernel
theorem fx_19_1 : xins 19 1 = (9, 0, 2, 22) := by decide +kernel
theorem fx_19_4 : xins 19 4 = (2, 0, 1, 1) := by decide +kernel
theorem fx_19_5 : xins 19 5 = (3, 0, 0, 1) := by decide +kernel
theorem fx_19_6 : xins 19 6 = (12, 153, 4, 4) := by decide +kernel
theorem fx_19_9 : xins 19 9 = (10, 0, 3, 22) := by decide +kernel
theorem fx_19_12 : xins 19 12 = (2, 0, 1, 1) := by decide +kernel
theorem fx_19_13 : xins 19 13 = (1, 12, 2, 0) := by decide +kernel
theorem fx_19_15 : xins 19 15 = (10, 0, 3, 22) := by decide +kernel
theorem fx_19_18 : xins 19 18 = (1, 1, 1, 0) := by decide +kernel
theorem fx_19_19 : xins 19 19 = (11, 0, 0, 23) := by decide +kernel
theorem fx_19_22 : xins 19 22 = (1, 0, 1, 0) := by decide +kernel
theorem fx_19_23 : xins 19 23 = (29, 0, 0, 0) := by decide +kernel
theorem xq_20 : xnth xprog 20 [] = xk_20 := rfl
theorem fx_20_0 : xins 20 0 = (2, 0, 1, 1) := by decide +kernel
theorem fx_20_1 : xins 20 1 = (1, 1, 1, 0) := by decide +kernel
theorem fx_20_2 : xins 20 2 = (1, 20, 2, 0) := by decide +kernel
theorem fx_20_4 : xins 20 4 = (28, 285, 9, 3) := by decide +kernel
theorem fx_20_7 : xins 20 7 = (9, 0, 0, 20) := by decide +kernel
theorem fx_20_10 : xins 20 10 = (2, 0, 2, 1) := by decide +kernel
theorem fx_20_11 : xins 20 11 = (1, 0, 1, 0) := by decide +kernel
theorem fx_20_12 : xins 20 12 = (1, 50, 2, 0) := by decide +kernel
theorem fx_20_14 : xins 20 14 = (28, 285, 9, 3) := by decide +kernel
theorem fx_20_17 : xins 20 17 = (9, 0, 1, 22) := by decide +kernel
theorem fx_20_20 : xins 20 20 = (1, 0, 1, 0) := by decide +kernel
theorem fx_20_21 : xins 20 21 = (29, 0, 0, 0) := by decide +kernel
theorem fx_20_22 : xins 20 22 = (3, 0, 0, 1) := by decide +kernel
theorem fx_20_23 : xins 20 23 = (28, 288, 10, 1) := by decide +kernel
theorem fx_20_26 : xins 20 26 = (3, 0, 0, 1) := by decide +kernel
theorem fx_20_27 : xins 20 27 = (12, 268, 6, 0) := by decide +kernel
theorem fx_20_30 : xins 20 30 = (2, 0, 1, 1) := by decide +kernel
theorem fx_20_31 : xins 20 31 = (13, 155, 4, 5) := by decide +kernel
theorem fx_20_34 : xins 20 34 = (3, 0, 0, 1) := by decide +kernel
theorem fx_20_35 : xins 20 35 = (12, 268, 6, 0) := by decide +kernel
theorem fx_20_38 : xins 20 38 = (2, 0, 2, 1) := by decide +kernel
theorem fx_20_39 : xins 20 39 = (13, 159, 4, 6) := by decide +kernel
theorem fx_20_42 : xins 20 42 = (1, 1, 1, 0) := by decide +kernel
theorem fx_20_43 : xins 20 43 = (29, 0, 0, 0) := by decide +kernel
theorem xq_21 : xnth xprog 21 [] = xk_21 := rfl
theorem fx_21_0 : xins 21 0 = (2, 0, 1, 1) := by decide +kernel
theorem fx_21_1 : xins 21 1 = (1, 0, 1, 0) := by decide +kernel
theorem fx_21_2 : xins 21 2 = (1, 7, 2, 0) := by decide +kernel
theorem fx_21_4 : xins 21 4 = (28, 285, 9, 3) := by decide +kernel
theorem fx_21_7 : xins 21 7 = (9, 0, 0, 21) := by decide +kernel
theorem fx_21_10 : xins 21 10 = (2, 0, 2, 1) := by decide +kernel
theorem fx_21_11 : xins 21 11 = (1, (-1), 1, 0) := by decide +kernel
theorem fx_21_12 : xins 21 12 = (1, 9999, 3, 0) := by decide +kernel
theorem fx_21_15 : xins 21 15 = (28, 285, 9, 3) := by decide +kernel
theorem fx_21_18 : xins 21 18 = (9, 0, 1, 23) := by decide +kernel
theorem fx_21_21 : xins 21 21 = (1, 0, 1, 0) := by decide +kernel
theorem fx_21_22 : xins 21 22 = (29, 0, 0, 0) := by decide +kernel
theorem fx_21_23 : xins 21 23 = (3, 0, 0, 1) := by decide +kernel
theorem fx_21_24 : xins 21 24 = (28, 288, 10, 1) := by decide +kernel
theorem fx_21_27 : xins 21 27 = (3, 0, 0, 1) := by decide +kernel
theorem fx_21_28 : xins 21 28 = (12, 268, 6, 0) := by decide +kernel
theorem fx_21_31 : xins 21 31 = (12, 143, 4, 1) := by decide +kernel
theorem fx_21_34 : xins 21 34 = (2, 0, 1, 1) := by decide +kernel
theorem fx_21_35 : xins 21 35 = (2, 0, 2, 1) := by decide +kernel
theorem fx_21_36 : xins 21 36 = (15, 0, 0, 0) := by decide +kernel
theorem fx_21_37 : xins 21 37 = (1, 1, 1, 0) := by decide +kernel
theorem fx_21_38 : xins 21 38 = (29, 0, 0, 0) := by decide +kernel
theorem xq_22 : xnth xprog 22 [] = xk_22 := rfl
theorem fx_22_0 : xins 22 0 = (2, 0, 1, 1) := by decide +kernel
theorem fx_22_1 : xins 22 1 = (1, 0, 1, 0) := by decide +kernel
theorem fx_22_2 : xins 22 2 = (1, 2, 1, 0) := by decide +kernel
theorem fx_22_3 : xins 22 3 = (28, 285, 9, 3) := by decide +kernel
theorem fx_22_6 : xins 22 6 = (9, 0, 0, 20) := by decide +kernel
theorem fx_22_9 : xins 22 9 = (2, 0, 2, 1) := by decide +kernel
theorem fx_22_10 : xins 22 10 = (1, 0, 1, 0) := by decide +kernel
theorem fx_22_11 : xins 22 11 = (1, 8000, 3, 0) := by decide +kernel
theorem fx_22_14 : xins 22 14 = (28, 285, 9, 3) := by decide +kernel
theorem fx_22_17 : xins 22 17 = (9, 0, 1, 22) := by decide +kernel
theorem fx_22_20 : xins 22 20 = (1, 0, 1, 0) := by decide +kernel
theorem fx_22_21 : xins 22 21 = (29, 0, 0, 0) := by decide +kernel
theorem fx_22_22 : xins 22 22 = (3, 0, 0, 1) := by decide +kernel
theorem fx_22_23 : xins 22 23 = (28, 288, 10, 1) := by decide +kernel
theorem fx_22_26 : xins 22 26 = (1, 0, 1, 0) := by decide +kernel
theorem fx_22_27 : xins 22 27 = (4, 0, 3, 1) := by decide +kernel
theorem fx_22_28 : xins 22 28 = (2, 0, 3, 1) := by decide +kernel
theorem fx_22_29 : xins 22 29 = (1, 8, 2, 0) := by decide +kernel
theorem fx_22_31 : xins 22 31 = (10, 0, 3, 61) := by decide +kernel
theorem fx_22_34 : xins 22 34 = (3, 0, 0, 1) := by decide +kernel
theorem fx_22_35 : xins 22 35 = (12, 268, 6, 0) := by decide +kernel
theorem fx_22_38 : xins 22 38 = (12, 143, 4, 1) := by decide +kernel
theorem fx_22_41 : xins 22 41 = (2, 0, 3, 1) := by decide +kernel
theorem fx_22_42 : xins 22 42 = (2, 0, 2, 1) := by decide +kernel
theorem fx_22_43 : xins 22 43 = (31, 342, 0, 0) := by decide +kernel
theorem fx_22_46 : xins 22 46 = (2, 0, 1, 1) := by decide +kernel
theorem fx_22_47 : xins 22 47 = (1, 8, 2, 0) := by decide +kernel
theorem fx_22_49 : xins 22 49 = (7, 0, 2, 0) := by decide +kernel
theorem fx_22_50 : xins 22 50 = (2, 0, 3, 1) := by decide +kernel
theorem fx_22_51 : xins 22 51 = (7, 0, 0, 0) := by decide +kernel
theorem fx_22_52 : xins 22 52 = (14, 0, 0, 0) := by decide +kernel
theorem fx_22_53 : xins 22 53 = (7, 0, 0, 0) := by decide +kernel
theorem fx_22_54 : xins 22 54 = (15, 0, 0, 0) := by decide +kernel
theorem fx_22_55 : xins 22 55 = (6, 1, 3, 0) := by decide +kernel
theorem fx_22_58 : xins 22 58 = (11, 0, 0, 28) := by decide +kernel
theorem fx_22_61 : xins 22 61 = (1, 1, 1, 0) := by decide +kernel
theorem fx_22_62 : xins 22 62 = (29, 0, 0, 0) := by decide +kernel
theorem xq_23 : xnth xprog 23 [] = xk_23 := rfl
theorem fx_23_0 : xins 23 0 = (2, 0, 1, 1) := by decide +kernel
theorem fx_23_1 : xins 23 1 = (1, 0, 1, 0) := by decide +kernel
theorem fx_23_2 : xins 23 2 = (1, 3, 1, 0) := by decide +kernel
theorem fx_23_3 : xins 23 3 = (28, 285, 9, 3) := by decide +kernel
theorem fx_23_6 : xins 23 6 = (9, 0, 0, 35) := by decide +kernel
theorem fx_23_9 : xins 23 9 = (2, 0, 2, 1) := by decide +kernel
theorem fx_23_10 : xins 23 10 = (1, (-100), 2, 0) := by decide +kernel
theorem fx_23_12 : xins 23 12 = (1, 100, 2, 0) := by decide +kernel
theorem fx_23_14 : xins 23 14 = (28, 285, 9, 3) := by decide +kernel
theorem fx_23_17 : xins 23 17 = (9, 0, 0, 35) := by decide +kernel
theorem fx_23_20 : xins 23 20 = (2, 0, 3, 1) := by decide +kernel
theorem fx_23_21 : xins 23 21 = (1, (-100), 2, 0) := by decide +kernel
theorem fx_23_23 : xins 23 23 = (1, 100, 2, 0) := by decide +kernel
theorem fx_23_25 : xins 23 25 = (28, 285, 9, 3) := by decide +kernel
theorem fx_23_28 : xins 23 28 = (9, 0, 0, 35) := by decide +kernel
theorem fx_23_31 : xins 23 31 = (1, 1, 1, 0) := by decide +kernel
theorem fx_23_32 : xins 23 32 = (11, 0, 0, 36) := by decide +kernel
theorem fx_23_35 : xins 23 35 = (1, 0, 1, 0) := by decide +kernel
theorem fx_23_36 : xins 23 36 = (4, 0, 4, 2) := by decide +kernel
theorem fx_23_38 : xins 23 38 = (2, 0, 4, 2) := by decide +kernel
theorem fx_23_40 : xins 23 40 = (9, 0, 1, 45) := by decide +kernel
theorem fx_23_43 : xins 23 43 = (1, 0, 1, 0) := by decide +kernel
theorem fx_23_44 : xins 23 44 = (29, 0, 0, 0) := by decide +kernel
theorem fx_23_45 : xins 23 45 = (3, 0, 0, 1) := by decide +kernel
theorem fx_23_46 : xins 23 46 = (28, 288, 10, 1) := by decide +kernel
theorem fx_23_49 : xins 23 49 = (3, 0, 0, 1) := by decide +kernel
theorem fx_23_50 : xins 23 50 = (12, 268, 6, 0) := by decide +kernel
theorem fx_23_53 : xins 23 53 = (12, 147, 4, 2) := by decide +kernel
theorem fx_23_56 : xins 23 56 = (2, 0, 1, 1) := by decide +kernel
theorem fx_23_57 : xins 23 57 = (2, 0, 2, 1) := by decide +kernel
theorem fx_23_58 : xins 23 58 = (15, 0, 0, 0) := by decide +kernel
theorem fx_23_59 : xins 23 59 = (3, 0, 0, 1) := by decide +kernel
theorem fx_23_60 : xins 23 60 = (12, 268, 6, 0) := by decide +kernel
theorem fx_23_63 : xins 23 63 = (12, 150, 4, 3) := by decide +kernel
theorem fx_23_66 : xins 23 66 = (2, 0, 1, 1) := by decide +kernel
theorem fx_23_67 : xins 23 67 = (2, 0, 3, 1) := by decide +kernel
theorem fx_23_68 : xins 23 68 = (15, 0, 0, 0) := by decide +kernel
theorem fx_23_69 : xins 23 69 = (1, 1, 1, 0) := by decide +kernel
theorem fx_23_70 : xins 23 70 = (29, 0, 0, 0) := by decide +kernel
theorem xq_24 : xnth xprog 24 [] = xk_24 := rfl
theorem fx_24_0 : xins 24 0 = (3, 0, 0, 1) := by decide +kernel
theorem fx_24_1 : xins 24 1 = (12, 268, 6, 0) := by decide +kernel
theorem fx_24_4 : xins 24 4 = (2, 0, 1, 1) := by decide +kernel
theorem fx_24_5 : xins 24 5 = (28, 322, 18, 2) := by decide +kernel
theorem fx_24_8 : xins 24 8 = (9, 0, 0, 28) := by decide +kernel
theorem fx_24_11 : xins 24 11 = (3, 0, 0, 1) := by decide +kernel
theorem fx_24_12 : xins 24 12 = (12, 268, 6, 0) := by decide +kernel
theorem fx_24_15 : xins 24 15 = (12, 139, 4, 0) := by decide +kernel
theorem fx_24_18 : xins 24 18 = (2, 0, 1, 1) := by decide +kernel
theorem fx_24_19 : xins 24 19 = (16, 0, 0, 0) := by decide +kernel
theorem fx_24_20 : xins 24 20 = (2, 0, 2, 1) := by decide +kernel
theorem fx_24_21 : xins 24 21 = (2, 0, 3, 1) := by decide +kernel
theorem fx_24_22 : xins 24 22 = (28, 352, 25, 3) := by decide +kernel
theorem fx_24_25 : xins 24 25 = (9, 0, 1, 31) := by decide +kernel
theorem fx_24_28 : xins 24 28 = (1, (-100000), 2, 357) := by decide +kernel
theorem fx_24_30 : xins 24 30 = (29, 0, 0, 0) := by decide +kernel
theorem fx_24_31 : xins 24 31 = (3, 0, 0, 1) := by decide +kernel
theorem fx_24_32 : xins 24 32 = (28, 288, 10, 1) := by decide +kernel
theorem fx_24_35 : xins 24 35 = (3, 0, 0, 1) := by decide +kernel
theorem fx_24_36 : xins 24 36 = (12, 268, 6, 0) := by decide +kernel
theorem fx_24_39 : xins 24 39 = (12, 139, 4, 0) := by decide +kernel
theorem fx_24_42 : xins 24 42 = (2, 0, 1, 1) := by decide +kernel
theorem fx_24_43 : xins 24 43 = (16, 0, 0, 0) := by decide +kernel
theorem fx_24_44 : xins 24 44 = (2, 0, 2, 1) := by decide +kernel
theorem fx_24_45 : xins 24 45 = (2, 0, 3, 1) := by decide +kernel
theorem fx_24_46 : xins 24 46 = (3, 0, 0, 1) := by decide +kernel
theorem fx_24_47 : xins 24 47 = (12, 268, 6, 0) := by decide +kernel
theorem fx_24_50 : xins 24 50 = (12, 155, 4, 5) := by decide +kernel
theorem fx_24_53 : xins 24 53 = (28, 358, 26, 4) := by decide +kernel
theorem fx_24_56 : xins 24 56 = (3, 0, 0, 1) := by decide +kernel
theorem fx_24_57 : xins 24 57 = (12, 268, 6, 0) := by decide +kernel
theorem fx_24_60 : xins 24 60 = (12, 139, 4, 0) := by decide +kernel
theorem fx_24_63 : xins 24 63 = (2, 0, 1, 1) := by decide +kernel
theorem fx_24_64 : xins 24 64 = (16, 0, 0, 0) := by decide +kernel
theorem fx_24_65 : xins 24 65 = (12, 102, 3, 0) := by decide +kernel
theorem fx_24_68 : xins 24 68 = (29, 0, 0, 0) := by decide +kernel
theorem xq_25 : xnth xprog 25 [] = xk_25 := rfl
theorem fx_25_0 : xins 25 0 = (2, 0, 1, 1) := by decide +kernel
theorem fx_25_1 : xins 25 1 = (1, 0, 1, 0) := by decide +kernel
theorem fx_25_2 : xins 25 2 = (3, 0, 0, 1) := by decide +kernel
theorem fx_25_3 : xins 25 3 = (12, 107, 3, 2) := by decide +kernel
theorem fx_25_6 : xins 25 6 = (28, 356, 9, 3) := by decide +kernel
theorem fx_25_9 : xins 25 9 = (9, 0, 0, 30) := by decide +kernel
theorem fx_25_12 : xins 25 12 = (2, 0, 2, 1) := by decide +kernel
theorem fx_25_13 : xins 25 13 = (1, 0, 1, 0) := by decide +kernel
theorem fx_25_14 : xins 25 14 = (3, 0, 0, 1) := by decide +kernel
theorem fx_25_15 : xins 25 15 = (12, 104, 3, 1) := by decide +kernel
theorem fx_25_18 : xins 25 18 = (1, 1, 1, 0) := by decide +kernel
theorem fx_25_19 : xins 25 19 = (7, 0, 1, 0) := by decide +kernel
theorem fx_25_20 : xins 25 20 = (28, 356, 9, 3) := by decide +kernel
theorem fx_25_23 : xins 25 23 = (9, 0, 0, 30) := by decide +kernel
theorem fx_25_26 : xins 25 26 = (1, 1, 1, 0) := by decide +kernel
theorem fx_25_27 : xins 25 27 = (11, 0, 0, 31) := by decide +kernel
theorem fx_25_30 : xins 25 30 = (1, 0, 1, 0) := by decide +kernel
theorem fx_25_31 : xins 25 31 = (29, 0, 0, 0) := by decide +kernel
theorem xq_26 : xnth xprog 26 [] = xk_26 := rfl
theorem fx_26_0 : xins 26 0 = (3, 0, 0, 1) := by decide +kernel
theorem fx_26_1 : xins 26 1 = (23, 0, 0, 0) := by decide +kernel
theorem fx_26_2 : xins 26 2 = (12, 101, 3, 0) := by decide +kernel
theorem fx_26_5 : xins 26 5 = (2, 0, 1, 1) := by decide +kernel
theorem fx_26_6 : xins 26 6 = (2, 0, 3, 1) := by decide +kernel
theorem fx_26_7 : xins 26 7 = (7, 0, 2, 0) := by decide +kernel
theorem fx_26_8 : xins 26 8 = (7, 0, 0, 0) := by decide +kernel
theorem fx_26_9 : xins 26 9 = (13, 101, 3, 0) := by decide +kernel
theorem fx_26_12 : xins 26 12 = (3, 0, 0, 1) := by decide +kernel
theorem fx_26_13 : xins 26 13 = (23, 0, 0, 0) := by decide +kernel
theorem fx_26_14 : xins 26 14 = (12, 107, 3, 2) := by decide +kernel
theorem fx_26_17 : xins 26 17 = (2, 0, 1, 1) := by decide +kernel
theorem fx_26_18 : xins 26 18 = (7, 0, 1, 0) := by decide +kernel
theorem fx_26_19 : xins 26 19 = (13, 107, 3, 2) := by decide +kernel
theorem fx_26_22 : xins 26 22 = (1, 0, 1, 0) := by decide +kernel
theorem fx_26_23 : xins 26 23 = (4, 0, 4, 2) := by decide +kernel
theorem fx_26_25 : xins 26 25 = (2, 0, 4, 2) := by decide +kernel
theorem fx_26_27 : xins 26 27 = (2, 0, 2, 1) := by decide +kernel
theorem fx_26_28 : xins 26 28 = (10, 0, 3, 60) := by decide +kernel
theorem fx_26_31 : xins 26 31 = (3, 0, 0, 1) := by decide +kernel
theorem fx_26_32 : xins 26 32 = (23, 0, 0, 0) := by decide +kernel
theorem fx_26_33 : xins 26 33 = (12, 101, 3, 0) := by decide +kernel
theorem fx_26_36 : xins 26 36 = (3, 0, 0, 1) := by decide +kernel
theorem fx_26_37 : xins 26 37 = (12, 104, 3, 1) := by decide +kernel
theorem fx_26_40 : xins 26 40 = (7, 0, 1, 0) := by decide +kernel
theorem fx_26_41 : xins 26 41 = (13, 101, 3, 0) := by decide +kernel
theorem fx_26_44 : xins 26 44 = (3, 0, 0, 1) := by decide +kernel
theorem fx_26_45 : xins 26 45 = (23, 0, 0, 0) := by decide +kernel
theorem fx_26_46 : xins 26 46 = (12, 104, 3, 1) := by decide +kernel
theorem fx_26_49 : xins 26 49 = (1, 1, 1, 0) := by decide +kernel
theorem fx_26_50 : xins 26 50 = (7, 0, 1, 0) := by decide +kernel
theorem fx_26_51 : xins 26 51 = (13, 104, 3, 1) := by decide +kernel
theorem fx_26_54 : xins 26 54 = (6, 1, 4, 0) := by decide +kernel
theorem fx_26_57 : xins 26 57 = (11, 0, 0, 25) := by decide +kernel
theorem fx_26_60 : xins 26 60 = (3, 0, 0, 1) := by decide +kernel
theorem fx_26_61 : xins 26 61 = (23, 0, 0, 0) := by decide +kernel
theorem fx_26_62 : xins 26 62 = (12, 117, 3, 6) := by decide +kernel
theorem fx_26_65 : xins 26 65 = (2, 0, 1, 1) := by decide +kernel
theorem fx_26_66 : xins 26 66 = (2, 0, 2, 1) := by decide +kernel
theorem fx_26_67 : xins 26 67 = (7, 0, 0, 0) := by decide +kernel
theorem fx_26_68 : xins 26 68 = (7, 0, 0, 0) := by decide +kernel
theorem fx_26_69 : xins 26 69 = (13, 117, 3, 6) := by decide +kernel
theorem fx_26_72 : xins 26 72 = (30, 0, 0, 0) := by decide +kernel
theorem xq_27 : xnth xprog 27 [] = xk_27 := rfl
theorem fx_27_0 : xins 27 0 = (2, 0, 1, 1) := by decide +kernel
theorem fx_27_1 : xins 27 1 = (1, 10, 2, 0) := by decide +kernel
theorem fx_27_3 : xins 27 3 = (1, 17, 2, 0) := by decide +kernel
theorem fx_27_5 : xins 27 5 = (28, 285, 9, 3) := by decide +kernel
theorem fx_27_8 : xins 27 8 = (9, 0, 0, 24) := by decide +kernel
theorem fx_27_11 : xins 27 11 = (3, 0, 0, 1) := by decide +kernel
theorem fx_27_12 : xins 27 12 = (12, 268, 6, 0) := by decide +kernel
theorem fx_27_15 : xins 27 15 = (12, 143, 4, 1) := by decide +kernel
theorem fx_27_18 : xins 27 18 = (2, 0, 1, 1) := by decide +kernel
theorem fx_27_19 : xins 27 19 = (1, 10, 2, 0) := by decide +kernel
theorem fx_27_21 : xins 27 21 = (7, 0, 1, 0) := by decide +kernel
theorem fx_27_22 : xins 27 22 = (14, 0, 0, 0) := by decide +kernel
theorem fx_27_23 : xins 27 23 = (29, 0, 0, 0) := by decide +kernel
theorem fx_27_24 : xins 27 24 = (2, 0, 1, 1) := by decide +kernel
theorem fx_27_25 : xins 27 25 = (1, 20, 2, 0) := by decide +kernel
theorem fx_27_27 : xins 27 27 = (1, 27, 2, 0) := by decide +kernel
theorem fx_27_29 : xins 27 29 = (28, 285, 9, 3) := by decide +kernel
theorem fx_27_32 : xins 27 32 = (9, 0, 0, 44) := by decide +kernel
theorem fx_27_35 : xins 27 35 = (3, 0, 0, 1) := by decide +kernel
theorem fx_27_36 : xins 27 36 = (2, 0, 1, 1) := by decide +kernel
theorem fx_27_37 : xins 27 37 = (1, 20, 2, 0) := by decide +kernel
theorem fx_27_39 : xins 27 39 = (7, 0, 1, 0) := by decide +kernel
theorem fx_27_40 : xins 27 40 = (28, 366, 28, 2) := by decide +kernel
theorem fx_27_43 : xins 27 43 = (29, 0, 0, 0) := by decide +kernel
theorem fx_27_44 : xins 27 44 = (2, 0, 1, 1) := by decide +kernel
theorem fx_27_45 : xins 27 45 = (32, 0, 135, 39) := by decide +kernel
theorem fx_27_84 : xins 27 84 = (3, 0, 0, 1) := by decide +kernel
theorem fx_27_85 : xins 27 85 = (12, 268, 6, 0) := by decide +kernel
theorem fx_27_88 : xins 27 88 = (12, 152, 4, 4) := by decide +kernel
theorem fx_27_91 : xins 27 91 = (29, 0, 0, 0) := by decide +kernel
theorem fx_27_92 : xins 27 92 = (3, 0, 0, 1) := by decide +kernel
theorem fx_27_93 : xins 27 93 = (12, 268, 6, 0) := by decide +kernel
theorem fx_27_96 : xins 27 96 = (28, 374, 30, 1) := by decide +kernel
theorem fx_27_99 : xins 27 99 = (28, 379, 31, 1) := by decide +kernel
theorem fx_27_102 : xins 27 102 = (29, 0, 0, 0) := by decide +kernel
theorem fx_27_103 : xins 27 103 = (3, 0, 0, 1) := by decide +kernel
theorem fx_27_104 : xins 27 104 = (12, 268, 6, 0) := by decide +kernel
theorem fx_27_107 : xins 27 107 = (12, 155, 4, 5) := by decide +kernel
theorem fx_27_110 : xins 27 110 = (29, 0, 0, 0) := by decide +kernel
theorem fx_27_111 : xins 27 111 = (3, 0, 0, 1) := by decide +kernel
theorem fx_27_112 : xins 27 112 = (12, 268, 6, 0) := by decide +kernel
theorem fx_27_115 : xins 27 115 = (12, 159, 4, 6) := by decide +kernel
theorem fx_27_118 : xins 27 118 = (29, 0, 0, 0) := by decide +kernel
theorem fx_27_119 : xins 27 119 = (3, 0, 0, 1) := by decide +kernel
theorem fx_27_120 : xins 27 120 = (12, 268, 6, 0) := by decide +kernel
theorem fx_27_123 : xins 27 123 = (28, 385, 32, 1) := by decide +kernel
theorem fx_27_126 : xins 27 126 = (29, 0, 0, 0) := by decide +kernel
theorem fx_27_127 : xins 27 127 = (3, 0, 0, 1) := by decide +kernel
theorem fx_27_128 : xins 27 128 = (12, 268, 6, 0) := by decide +kernel
theorem fx_27_131 : xins 27 131 = (12, 162, 4, 7) := by decide +kernel
theorem fx_27_134 : xins 27 134 = (29, 0, 0, 0) := by decide +kernel
theorem fx_27_135 : xins 27 135 = (1, (-1001), 3, 0) := by decide +kernel
theorem fx_27_138 : xins 27 138 = (29, 0, 0, 0) := by decide +kernel
theorem xq_28 : xnth xprog 28 [] = xk_28 := rfl
theorem fx_28_0 : xins 28 0 = (2, 0, 1, 1) := by decide +kernel
theorem fx_28_1 : xins 28 1 = (1, 2, 1, 0) := by decide +kernel
theorem fx_28_2 : xins 28 2 = (7, 0, 3, 0) := by decide +kernel
theorem fx_28_3 : xins 28 3 = (4, 0, 2, 1) := by decide +kernel
theorem fx_28_4 : xins 28 4 = (3, 0, 0, 1) := by decide +kernel
theorem fx_28_5 : xins 28 5 = (12, 268, 6, 0) := by decide +kernel
theorem fx_28_8 : xins 28 8 = (2, 0, 2, 1) := by decide +kernel
theorem fx_28_9 : xins 28 9 = (28, 370, 29, 2) := by decide +kernel
theorem fx_28_12 : xins 28 12 = (9, 0, 1, 19) := by decide +kernel
theorem fx_28_15 : xins 28 15 = (1, (-1001), 3, 0) := by decide +kernel
theorem fx_28_18 : xins 28 18 = (29, 0, 0, 0) := by decide +kernel
theorem fx_28_19 : xins 28 19 = (2, 0, 1, 1) := by decide +kernel
theorem fx_28_20 : xins 28 20 = (1, 2, 1, 0) := by decide +kernel
theorem fx_28_21 : xins 28 21 = (7, 0, 4, 0) := by decide +kernel
theorem fx_28_22 : xins 28 22 = (9, 0, 1, 37) := by decide +kernel
theorem fx_28_25 : xins 28 25 = (3, 0, 0, 1) := by decide +kernel
theorem fx_28_26 : xins 28 26 = (12, 268, 6, 0) := by decide +kernel
theorem fx_28_29 : xins 28 29 = (12, 147, 4, 2) := by decide +kernel
theorem fx_28_32 : xins 28 32 = (2, 0, 2, 1) := by decide +kernel
theorem fx_28_33 : xins 28 33 = (14, 0, 0, 0) := by decide +kernel
theorem fx_28_34 : xins 28 34 = (11, 0, 0, 46) := by decide +kernel
theorem fx_28_37 : xins 28 37 = (3, 0, 0, 1) := by decide +kernel
theorem fx_28_38 : xins 28 38 = (12, 268, 6, 0) := by decide +kernel
theorem fx_28_41 : xins 28 41 = (12, 150, 4, 3) := by decide +kernel
theorem fx_28_44 : xins 28 44 = (2, 0, 2, 1) := by decide +kernel
theorem fx_28_45 : xins 28 45 = (14, 0, 0, 0) := by decide +kernel
theorem fx_28_46 : xins 28 46 = (29, 0, 0, 0) := by decide +kernel
theorem xq_29 : xnth xprog 29 [] = xk_29 := rfl
theorem fx_29_0 : xins 29 0 = (2, 0, 1, 1) := by decide +kernel
theorem fx_29_1 : xins 29 1 = (9, 0, 2, 28) := by decide +kernel
theorem fx_29_4 : xins 29 4 = (2, 0, 1, 1) := by decide +kernel
theorem fx_29_5 : xins 29 5 = (1, 4, 1, 0) := by decide +kernel
theorem fx_29_6 : xins 29 6 = (10, 0, 3, 28) := by decide +kernel
theorem fx_29_9 : xins 29 9 = (3, 0, 0, 1) := by decide +kernel
theorem fx_29_10 : xins 29 10 = (12, 146, 4, 2) := by decide +kernel
theorem fx_29_13 : xins 29 13 = (2, 0, 1, 1) := by decide +kernel
theorem fx_29_14 : xins 29 14 = (14, 0, 0, 0) := by decide +kernel
theorem fx_29_15 : xins 29 15 = (3, 0, 0, 1) := by decide +kernel
theorem fx_29_16 : xins 29 16 = (12, 149, 4, 3) := by decide +kernel
theorem fx_29_19 : xins 29 19 = (2, 0, 1, 1) := by decide +kernel
theorem fx_29_20 : xins 29 20 = (14, 0, 0, 0) := by decide +kernel
theorem fx_29_21 : xins 29 21 = (10, 0, 4, 28) := by decide +kernel
theorem fx_29_24 : xins 29 24 = (1, 1, 1, 0) := by decide +kernel
theorem fx_29_25 : xins 29 25 = (11, 0, 0, 29) := by decide +kernel
theorem fx_29_28 : xins 29 28 = (1, 0, 1, 0) := by decide +kernel
theorem fx_29_29 : xins 29 29 = (29, 0, 0, 0) := by decide +kernel
theorem xq_30 : xnth xprog 30 [] = xk_30 := rfl
theorem fx_30_0 : xins 30 0 = (1, 0, 1, 0) := by decide +kernel
theorem fx_30_1 : xins 30 1 = (4, 0, 1, 1) := by decide +kernel
theorem fx_30_2 : xins 30 2 = (1, 0, 1, 0) := by decide +kernel
theorem fx_30_3 : xins 30 3 = (4, 0, 2, 1) := by decide +kernel
theorem fx_30_4 : xins 30 4 = (2, 0, 2, 1) := by decide +kernel
theorem fx_30_5 : xins 30 5 = (1, 12, 2, 0) := by decide +kernel
theorem fx_30_7 : xins 30 7 = (10, 0, 3, 30) := by decide +kernel
theorem fx_30_10 : xins 30 10 = (3, 0, 0, 1) := by decide +kernel
theorem fx_30_11 : xins 30 11 = (2, 0, 2, 1) := by decide +kernel
theorem fx_30_12 : xins 30 12 = (28, 378, 18, 2) := by decide +kernel
theorem fx_30_15 : xins 30 15 = (9, 0, 0, 24) := by decide +kernel
theorem fx_30_18 : xins 30 18 = (2, 0, 1, 1) := by decide +kernel
theorem fx_30_19 : xins 30 19 = (1, 1, 1, 0) := by decide +kernel
theorem fx_30_20 : xins 30 20 = (2, 0, 2, 1) := by decide +kernel
theorem fx_30_21 : xins 30 21 = (7, 0, 8, 0) := by decide +kernel
theorem fx_30_22 : xins 30 22 = (7, 0, 6, 0) := by decide +kernel
theorem fx_30_23 : xins 30 23 = (4, 0, 1, 1) := by decide +kernel
theorem fx_30_24 : xins 30 24 = (6, 1, 2, 0) := by decide +kernel
theorem fx_30_27 : xins 30 27 = (11, 0, 0, 4) := by decide +kernel
theorem fx_30_30 : xins 30 30 = (2, 0, 1, 1) := by decide +kernel
theorem fx_30_31 : xins 30 31 = (29, 0, 0, 0) := by decide +kernel
theorem xq_31 : xnth xprog 31 [] = xk_31 := rfl
theorem fx_31_0 : xins 31 0 = (2, 0, 0, 1) := by decide +kernel
theorem fx_31_1 : xins 31 1 = (2, 0, 0, 1) := by decide +kernel
theorem fx_31_2 : xins 31 2 = (1, 1, 1, 0) := by decide +kernel
theorem fx_31_3 : xins 31 3 = (7, 0, 10, 0) := by decide +kernel
theorem fx_31_4 : xins 31 4 = (1, 1431655765, 3, 382) := by decide +kernel
theorem fx_31_7 : xins 31 7 = (7, 0, 5, 0) := by decide +kernel
theorem fx_31_8 : xins 31 8 = (7, 0, 1, 0) := by decide +kernel
theorem fx_31_9 : xins 31 9 = (4, 0, 0, 1) := by decide +kernel
theorem fx_31_10 : xins 31 10 = (2, 0, 0, 1) := by decide +kernel
theorem fx_31_11 : xins 31 11 = (1, 858993459, 3, 383) := by decide +kernel
theorem fx_31_14 : xins 31 14 = (7, 0, 5, 0) := by decide +kernel
theorem fx_31_15 : xins 31 15 = (2, 0, 0, 1) := by decide +kernel
theorem fx_31_16 : xins 31 16 = (1, 2, 1, 0) := by decide +kernel
theorem fx_31_17 : xins 31 17 = (7, 0, 10, 0) := by decide +kernel
theorem fx_31_18 : xins 31 18 = (1, 858993459, 3, 383) := by decide +kernel
theorem fx_31_21 : xins 31 21 = (7, 0, 5, 0) := by decide +kernel
theorem fx_31_22 : xins 31 22 = (7, 0, 0, 0) := by decide +kernel
theorem fx_31_23 : xins 31 23 = (4, 0, 0, 1) := by decide +kernel
theorem fx_31_24 : xins 31 24 = (2, 0, 0, 1) := by decide +kernel
theorem fx_31_25 : xins 31 25 = (2, 0, 0, 1) := by decide +kernel
theorem fx_31_26 : xins 31 26 = (1, 4, 1, 0) := by decide +kernel
theorem fx_31_27 : xins 31 27 = (7, 0, 10, 0) := by decide +kernel
theorem fx_31_28 : xins 31 28 = (7, 0, 0, 0) := by decide +kernel
theorem fx_31_29 : xins 31 29 = (1, 252645135, 3, 384) := by decide +kernel
theorem fx_31_32 : xins 31 32 = (7, 0, 5, 0) := by decide +kernel
theorem fx_31_33 : xins 31 33 = (4, 0, 0, 1) := by decide +kernel
theorem fx_31_34 : xins 31 34 = (2, 0, 0, 1) := by decide +kernel
theorem fx_31_35 : xins 31 35 = (2, 0, 0, 1) := by decide +kernel
theorem fx_31_36 : xins 31 36 = (1, 8, 2, 0) := by decide +kernel
theorem fx_31_38 : xins 31 38 = (7, 0, 10, 0) := by decide +kernel
theorem fx_31_39 : xins 31 39 = (7, 0, 0, 0) := by decide +kernel
theorem fx_31_40 : xins 31 40 = (4, 0, 0, 1) := by decide +kernel
theorem fx_31_41 : xins 31 41 = (2, 0, 0, 1) := by decide +kernel
theorem fx_31_42 : xins 31 42 = (2, 0, 0, 1) := by decide +kernel
theorem fx_31_43 : xins 31 43 = (1, 16, 2, 0) := by decide +kernel
theorem fx_31_45 : xins 31 45 = (7, 0, 10, 0) := by decide +kernel
theorem fx_31_46 : xins 31 46 = (7, 0, 0, 0) := by decide +kernel
theorem fx_31_47 : xins 31 47 = (4, 0, 0, 1) := by decide +kernel
theorem fx_31_48 : xins 31 48 = (2, 0, 0, 1) := by decide +kernel
theorem fx_31_49 : xins 31 49 = (1, 63, 2, 0) := by decide +kernel
theorem fx_31_51 : xins 31 51 = (7, 0, 5, 0) := by decide +kernel
theorem fx_31_52 : xins 31 52 = (29, 0, 0, 0) := by decide +kernel
theorem xq_32 : xnth xprog 32 [] = xk_32 := rfl
theorem fx_32_0 : xins 32 0 = (1, 0, 1, 0) := by decide +kernel
theorem fx_32_1 : xins 32 1 = (4, 0, 1, 1) := by decide +kernel
theorem fx_32_2 : xins 32 2 = (1, 0, 1, 0) := by decide +kernel
theorem fx_32_3 : xins 32 3 = (4, 0, 2, 1) := by decide +kernel
theorem fx_32_4 : xins 32 4 = (2, 0, 2, 1) := by decide +kernel
theorem fx_32_5 : xins 32 5 = (1, 8, 2, 0) := by decide +kernel
theorem fx_32_7 : xins 32 7 = (10, 0, 3, 30) := by decide +kernel
theorem fx_32_10 : xins 32 10 = (3, 0, 0, 1) := by decide +kernel
theorem fx_32_11 : xins 32 11 = (2, 0, 2, 1) := by decide +kernel
theorem fx_32_12 : xins 32 12 = (28, 389, 33, 2) := by decide +kernel
theorem fx_32_15 : xins 32 15 = (9, 0, 0, 24) := by decide +kernel
theorem fx_32_18 : xins 32 18 = (2, 0, 1, 1) := by decide +kernel
theorem fx_32_19 : xins 32 19 = (1, 1, 1, 0) := by decide +kernel
theorem fx_32_20 : xins 32 20 = (2, 0, 2, 1) := by decide +kernel
theorem fx_32_21 : xins 32 21 = (7, 0, 8, 0) := by decide +kernel
theorem fx_32_22 : xins 32 22 = (7, 0, 6, 0) := by decide +kernel
theorem fx_32_23 : xins 32 23 = (4, 0, 1, 1) := by decide +kernel
theorem fx_32_24 : xins 32 24 = (6, 1, 2, 0) := by decide +kernel
theorem fx_32_27 : xins 32 27 = (11, 0, 0, 4) := by decide +kernel
theorem fx_32_30 : xins 32 30 = (2, 0, 1, 1) := by decide +kernel
theorem fx_32_31 : xins 32 31 = (29, 0, 0, 0) := by decide +kernel
theorem xq_33 : xnth xprog 33 [] = xk_33 := rfl
theorem fx_33_0 : xins 33 0 = (2, 0, 1, 1) := by decide +kernel
theorem fx_33_1 : xins 33 1 = (9, 0, 2, 24) := by decide +kernel
theorem fx_33_4 : xins 33 4 = (2, 0, 1, 1) := by decide +kernel
theorem fx_33_5 : xins 33 5 = (1, 8, 2, 0) := by decide +kernel
theorem fx_33_7 : xins 33 7 = (10, 0, 3, 24) := by decide +kernel
theorem fx_33_10 : xins 33 10 = (3, 0, 0, 1) := by decide +kernel
theorem fx_33_11 : xins 33 11 = (12, 142, 4, 1) := by decide +kernel
theorem fx_33_14 : xins 33 14 = (2, 0, 1, 1) := by decide +kernel
theorem fx_33_15 : xins 33 15 = (14, 0, 0, 0) := by decide +kernel
theorem fx_33_16 : xins 33 16 = (1, (-1), 1, 0) := by decide +kernel
theorem fx_33_17 : xins 33 17 = (10, 0, 0, 24) := by decide +kernel
theorem fx_33_20 : xins 33 20 = (1, 1, 1, 0) := by decide +kernel
theorem fx_33_21 : xins 33 21 = (11, 0, 0, 25) := by decide +kernel
theorem fx_33_24 : xins 33 24 = (1, 0, 1, 0) := by decide +kernel
theorem fx_33_25 : xins 33 25 = (29, 0, 0, 0) := by decide +kernel
theorem xq_34 : xnth xprog 34 [] = xk_34 := rfl
theorem fx_34_0 : xins 34 0 = (3, 0, 0, 1) := by decide +kernel
theorem fx_34_1 : xins 34 1 = (12, 268, 6, 0) := by decide +kernel
theorem fx_34_4 : xins 34 4 = (2, 0, 1, 1) := by decide +kernel
theorem fx_34_5 : xins 34 5 = (28, 397, 19, 2) := by decide +kernel
theorem fx_34_8 : xins 34 8 = (9, 0, 1, 14) := by decide +kernel
theorem fx_34_11 : xins 34 11 = (1, (-100000), 2, 357) := by decide +kernel
theorem fx_34_13 : xins 34 13 = (29, 0, 0, 0) := by decide +kernel
theorem fx_34_14 : xins 34 14 = (3, 0, 0, 1) := by decide +kernel
theorem fx_34_15 : xins 34 15 = (12, 268, 6, 0) := by decide +kernel
theorem fx_34_18 : xins 34 18 = (12, 139, 4, 0) := by decide +kernel
theorem fx_34_21 : xins 34 21 = (2, 0, 1, 1) := by decide +kernel
theorem fx_34_22 : xins 34 22 = (16, 0, 0, 0) := by decide +kernel
theorem fx_34_23 : xins 34 23 = (5, 0, 3, 1) := by decide +kernel
theorem fx_34_24 : xins 34 24 = (2, 0, 2, 1) := by decide +kernel
theorem fx_34_25 : xins 34 25 = (32, 0, 103, 43) := by decide +kernel
theorem fx_34_68 : xins 34 68 = (3, 0, 3, 1) := by decide +kernel
theorem fx_34_69 : xins 34 69 = (12, 102, 3, 0) := by decide +kernel
theorem fx_34_72 : xins 34 72 = (29, 0, 0, 0) := by decide +kernel
theorem fx_34_73 : xins 34 73 = (3, 0, 3, 1) := by decide +kernel
theorem fx_34_74 : xins 34 74 = (12, 105, 3, 1) := by decide +kernel
theorem fx_34_77 : xins 34 77 = (29, 0, 0, 0) := by decide +kernel
theorem fx_34_78 : xins 34 78 = (3, 0, 3, 1) := by decide +kernel
theorem fx_34_79 : xins 34 79 = (12, 108, 3, 2) := by decide +kernel
theorem fx_34_82 : xins 34 82 = (29, 0, 0, 0) := by decide +kernel
theorem fx_34_83 : xins 34 83 = (3, 0, 3, 1) := by decide +kernel
theorem fx_34_84 : xins 34 84 = (12, 111, 3, 3) := by decide +kernel
theorem fx_34_87 : xins 34 87 = (29, 0, 0, 0) := by decide +kernel
theorem fx_34_88 : xins 34 88 = (3, 0, 3, 1) := by decide +kernel
theorem fx_34_89 : xins 34 89 = (12, 114, 3, 4) := by decide +kernel
theorem fx_34_92 : xins 34 92 = (29, 0, 0, 0) := by decide +kernel
theorem fx_34_93 : xins 34 93 = (3, 0, 3, 1) := by decide +kernel
theorem fx_34_94 : xins 34 94 = (12, 116, 3, 5) := by decide +kernel
theorem fx_34_97 : xins 34 97 = (29, 0, 0, 0) := by decide +kernel
theorem fx_34_98 : xins 34 98 = (3, 0, 3, 1) := by decide +kernel
theorem fx_34_99 : xins 34 99 = (12, 118, 3, 6) := by decide +kernel
theorem fx_34_102 : xins 34 102 = (29, 0, 0, 0) := by decide +kernel
theorem fx_34_103 : xins 34 103 = (1, (-100000), 2, 357) := by decide +kernel
theorem fx_34_105 : xins 34 105 = (29, 0, 0, 0) := by decide +kernel
theorem xq_35 : xnth xprog 35 [] = xk_35 := rfl
theorem fx_35_0 : xins 35 0 = (3, 0, 0, 1) := by decide +kernel
theorem fx_35_1 : xins 35 1 = (12, 268, 6, 0) := by decide +kernel
theorem fx_35_4 : xins 35 4 = (2, 0, 1, 1) := by decide +kernel
theorem fx_35_5 : xins 35 5 = (28, 397, 19, 2) := by decide +kernel
theorem fx_35_8 : xins 35 8 = (9, 0, 0, 22) := by decide +kernel
theorem fx_35_11 : xins 35 11 = (3, 0, 0, 1) := by decide +kernel
theorem fx_35_12 : xins 35 12 = (12, 268, 6, 0) := by decide +kernel
theorem fx_35_15 : xins 35 15 = (2, 0, 2, 1) := by decide +kernel
theorem fx_35_16 : xins 35 16 = (28, 402, 33, 2) := by decide +kernel
theorem fx_35_19 : xins 35 19 = (9, 0, 1, 24) := by decide +kernel
theorem fx_35_22 : xins 35 22 = (1, (-1), 1, 0) := by decide +kernel
theorem fx_35_23 : xins 35 23 = (29, 0, 0, 0) := by decide +kernel
theorem fx_35_24 : xins 35 24 = (3, 0, 0, 1) := by decide +kernel
theorem fx_35_25 : xins 35 25 = (12, 270, 6, 2) := by decide +kernel
theorem fx_35_28 : xins 35 28 = (3, 0, 0, 1) := by decide +kernel
theorem fx_35_29 : xins 35 29 = (12, 268, 6, 0) := by decide +kernel
theorem fx_35_32 : xins 35 32 = (2, 0, 1, 1) := by decide +kernel
theorem fx_35_33 : xins 35 33 = (2, 0, 2, 1) := by decide +kernel
theorem fx_35_34 : xins 35 34 = (28, 403, 36, 4) := by decide +kernel
theorem fx_35_37 : xins 35 37 = (4, 0, 4, 2) := by decide +kernel
theorem fx_35_39 : xins 35 39 = (2, 0, 4, 2) := by decide +kernel
theorem fx_35_41 : xins 35 41 = (1, 268435456, 2, 415) := by decide +kernel
theorem fx_35_43 : xins 35 43 = (10, 0, 1, 48) := by decide +kernel
theorem fx_35_46 : xins 35 46 = (1, (-1), 1, 0) := by decide +kernel
theorem fx_35_47 : xins 35 47 = (29, 0, 0, 0) := by decide +kernel
theorem fx_35_48 : xins 35 48 = (2, 0, 3, 1) := by decide +kernel
theorem fx_35_49 : xins 35 49 = (32, 0, 94, 27) := by decide +kernel
theorem fx_35_76 : xins 35 76 = (2, 0, 4, 2) := by decide +kernel
theorem fx_35_78 : xins 35 78 = (28, 416, 39, 1) := by decide +kernel
theorem fx_35_81 : xins 35 81 = (29, 0, 0, 0) := by decide +kernel
theorem fx_35_82 : xins 35 82 = (2, 0, 4, 2) := by decide +kernel
theorem fx_35_84 : xins 35 84 = (28, 419, 40, 1) := by decide +kernel
theorem fx_35_87 : xins 35 87 = (29, 0, 0, 0) := by decide +kernel
theorem fx_35_88 : xins 35 88 = (2, 0, 4, 2) := by decide +kernel
theorem fx_35_90 : xins 35 90 = (28, 422, 41, 1) := by decide +kernel
theorem fx_35_93 : xins 35 93 = (29, 0, 0, 0) := by decide +kernel
theorem fx_35_94 : xins 35 94 = (1, (-1), 1, 0) := by decide +kernel
theorem fx_35_95 : xins 35 95 = (29, 0, 0, 0) := by decide +kernel
theorem xq_36 : xnth xprog 36 [] = xk_36 := rfl
theorem fx_36_0 : xins 36 0 = (3, 0, 1, 1) := by decide +kernel
theorem fx_36_1 : xins 36 1 = (2, 0, 2, 1) := by decide +kernel
theorem fx_36_2 : xins 36 2 = (2, 0, 3, 1) := by decide +kernel
theorem fx_36_3 : xins 36 3 = (3, 0, 0, 1) := by decide +kernel
theorem fx_36_4 : xins 36 4 = (12, 209, 5, 1) := by decide +kernel
theorem fx_36_7 : xins 36 7 = (28, 407, 37, 4) := by decide +kernel
theorem fx_36_10 : xins 36 10 = (1, 268435456, 2, 410) := by decide +kernel
theorem fx_36_12 : xins 36 12 = (4, 0, 4, 2) := by decide +kernel
theorem fx_36_14 : xins 36 14 = (1, 0, 1, 0) := by decide +kernel
theorem fx_36_15 : xins 36 15 = (4, 0, 5, 2) := by decide +kernel
theorem fx_36_17 : xins 36 17 = (2, 0, 5, 2) := by decide +kernel
theorem fx_36_19 : xins 36 19 = (1, 2, 1, 0) := by decide +kernel
theorem fx_36_20 : xins 36 20 = (3, 0, 1, 1) := by decide +kernel
theorem fx_36_21 : xins 36 21 = (12, 160, 4, 6) := by decide +kernel
theorem fx_36_24 : xins 36 24 = (7, 0, 2, 0) := by decide +kernel
theorem fx_36_25 : xins 36 25 = (10, 0, 4, 48) := by decide +kernel
theorem fx_36_28 : xins 36 28 = (2, 0, 4, 2) := by decide +kernel
theorem fx_36_30 : xins 36 30 = (3, 0, 0, 1) := by decide +kernel
theorem fx_36_31 : xins 36 31 = (12, 209, 5, 1) := by decide +kernel
theorem fx_36_34 : xins 36 34 = (2, 0, 5, 2) := by decide +kernel
theorem fx_36_36 : xins 36 36 = (14, 0, 0, 0) := by decide +kernel
theorem fx_36_37 : xins 36 37 = (33, 414, 0, 0) := by decide +kernel
theorem fx_36_40 : xins 36 40 = (4, 0, 4, 2) := by decide +kernel
theorem fx_36_42 : xins 36 42 = (6, 1, 5, 0) := by decide +kernel
theorem fx_36_45 : xins 36 45 = (11, 0, 0, 17) := by decide +kernel
theorem fx_36_48 : xins 36 48 = (2, 0, 4, 2) := by decide +kernel
theorem fx_36_50 : xins 36 50 = (29, 0, 0, 0) := by decide +kernel
theorem xq_37 : xnth xprog 37 [] = xk_37 := rfl
theorem fx_37_0 : xins 37 0 = (3, 0, 0, 1) := by decide +kernel
theorem fx_37_1 : xins 37 1 = (12, 141, 4, 0) := by decide +kernel
theorem fx_37_4 : xins 37 4 = (2, 0, 1, 1) := by decide +kernel
theorem fx_37_5 : xins 37 5 = (16, 0, 0, 0) := by decide +kernel
theorem fx_37_6 : xins 37 6 = (5, 0, 4, 2) := by decide +kernel
theorem fx_37_8 : xins 37 8 = (3, 0, 0, 1) := by decide +kernel
theorem fx_37_9 : xins 37 9 = (12, 144, 4, 1) := by decide +kernel
theorem fx_37_12 : xins 37 12 = (2, 0, 2, 1) := by decide +kernel
theorem fx_37_13 : xins 37 13 = (14, 0, 0, 0) := by decide +kernel
theorem fx_37_14 : xins 37 14 = (3, 0, 0, 1) := by decide +kernel
theorem fx_37_15 : xins 37 15 = (12, 160, 4, 6) := by decide +kernel
theorem fx_37_18 : xins 37 18 = (7, 0, 1, 0) := by decide +kernel
theorem fx_37_19 : xins 37 19 = (4, 0, 5, 2) := by decide +kernel
theorem fx_37_21 : xins 37 21 = (1, 2, 1, 0) := by decide +kernel
theorem fx_37_22 : xins 37 22 = (3, 0, 0, 1) := by decide +kernel
theorem fx_37_23 : xins 37 23 = (12, 160, 4, 6) := by decide +kernel
theorem fx_37_26 : xins 37 26 = (7, 0, 2, 0) := by decide +kernel
theorem fx_37_27 : xins 37 27 = (4, 0, 6, 2) := by decide +kernel
theorem fx_37_29 : xins 37 29 = (1, 0, 1, 0) := by decide +kernel
theorem fx_37_30 : xins 37 30 = (4, 0, 7, 2) := by decide +kernel
theorem fx_37_32 : xins 37 32 = (2, 0, 7, 2) := by decide +kernel
theorem fx_37_34 : xins 37 34 = (2, 0, 6, 2) := by decide +kernel
theorem fx_37_36 : xins 37 36 = (10, 0, 4, 51) := by decide +kernel
theorem fx_37_39 : xins 37 39 = (3, 0, 3, 1) := by decide +kernel
theorem fx_37_40 : xins 37 40 = (2, 0, 7, 2) := by decide +kernel
theorem fx_37_42 : xins 37 42 = (1, 268435456, 2, 410) := by decide +kernel
theorem fx_37_44 : xins 37 44 = (15, 0, 0, 0) := by decide +kernel
theorem fx_37_45 : xins 37 45 = (6, 1, 7, 0) := by decide +kernel
theorem fx_37_48 : xins 37 48 = (11, 0, 0, 32) := by decide +kernel
theorem fx_37_51 : xins 37 51 = (1, 0, 1, 0) := by decide +kernel
theorem fx_37_52 : xins 37 52 = (4, 0, 7, 2) := by decide +kernel
theorem fx_37_54 : xins 37 54 = (2, 0, 7, 2) := by decide +kernel
theorem fx_37_56 : xins 37 56 = (3, 0, 4, 2) := by decide +kernel
theorem fx_37_58 : xins 37 58 = (12, 109, 3, 2) := by decide +kernel
theorem fx_37_61 : xins 37 61 = (10, 0, 4, 150) := by decide +kernel
theorem fx_37_64 : xins 37 64 = (3, 0, 4, 2) := by decide +kernel
theorem fx_37_66 : xins 37 66 = (12, 103, 3, 0) := by decide +kernel
theorem fx_37_69 : xins 37 69 = (2, 0, 7, 2) := by decide +kernel
theorem fx_37_71 : xins 37 71 = (3, 0, 0, 1) := by decide +kernel
theorem fx_37_72 : xins 37 72 = (12, 157, 4, 5) := by decide +kernel
theorem fx_37_75 : xins 37 75 = (7, 0, 2, 0) := by decide +kernel
theorem fx_37_76 : xins 37 76 = (7, 0, 0, 0) := by decide +kernel
theorem fx_37_77 : xins 37 77 = (2, 0, 5, 2) := by decide +kernel
theorem fx_37_79 : xins 37 79 = (7, 0, 1, 0) := by decide +kernel
theorem fx_37_80 : xins 37 80 = (4, 0, 8, 2) := by decide +kernel
theorem fx_37_82 : xins 37 82 = (1, 0, 1, 0) := by decide +kernel
theorem fx_37_83 : xins 37 83 = (4, 0, 9, 2) := by decide +kernel
theorem fx_37_85 : xins 37 85 = (2, 0, 9, 2) := by decide +kernel
theorem fx_37_87 : xins 37 87 = (3, 0, 4, 2) := by decide +kernel
theorem fx_37_89 : xins 37 89 = (12, 106, 3, 1) := by decide +kernel
theorem fx_37_92 : xins 37 92 = (10, 0, 3, 144) := by decide +kernel
theorem fx_37_95 : xins 37 95 = (2, 0, 8, 2) := by decide +kernel
theorem fx_37_97 : xins 37 97 = (9, 0, 2, 144) := by decide +kernel
theorem fx_37_100 : xins 37 100 = (2, 0, 8, 2) := by decide +kernel
theorem fx_37_102 : xins 37 102 = (2, 0, 6, 2) := by decide +kernel
theorem fx_37_104 : xins 37 104 = (10, 0, 4, 125) := by decide +kernel
theorem fx_37_107 : xins 37 107 = (3, 0, 3, 1) := by decide +kernel
theorem fx_37_108 : xins 37 108 = (2, 0, 8, 2) := by decide +kernel
theorem fx_37_110 : xins 37 110 = (3, 0, 3, 1) := by decide +kernel
theorem fx_37_111 : xins 37 111 = (2, 0, 8, 2) := by decide +kernel
theorem fx_37_113 : xins 37 113 = (14, 0, 0, 0) := by decide +kernel
theorem fx_37_114 : xins 37 114 = (2, 0, 7, 2) := by decide +kernel
theorem fx_37_116 : xins 37 116 = (2, 0, 9, 2) := by decide +kernel
theorem fx_37_118 : xins 37 118 = (28, 411, 38, 2) := by decide +kernel
theorem fx_37_121 : xins 37 121 = (33, 414, 0, 0) := by decide +kernel
theorem fx_37_124 : xins 37 124 = (15, 0, 0, 0) := by decide +kernel
theorem fx_37_125 : xins 37 125 = (2, 0, 8, 2) := by decide +kernel
theorem fx_37_127 : xins 37 127 = (3, 0, 4, 2) := by decide +kernel
theorem fx_37_129 : xins 37 129 = (12, 106, 3, 1) := by decide +kernel
theorem fx_37_132 : xins 37 132 = (2, 0, 9, 2) := by decide +kernel
theorem fx_37_134 : xins 37 134 = (7, 0, 1, 0) := by decide +kernel
theorem fx_37_135 : xins 37 135 = (7, 0, 1, 0) := by decide +kernel
theorem fx_37_136 : xins 37 136 = (4, 0, 8, 2) := by decide +kernel
theorem fx_37_138 : xins 37 138 = (6, 1, 9, 0) := by decide +kernel
theorem fx_37_141 : xins 37 141 = (11, 0, 0, 85) := by decide +kernel
theorem fx_37_144 : xins 37 144 = (6, 1, 7, 0) := by decide +kernel
theorem fx_37_147 : xins 37 147 = (11, 0, 0, 54) := by decide +kernel
theorem fx_37_150 : xins 37 150 = (30, 0, 0, 0) := by decide +kernel
theorem xq_38 : xnth xprog 38 [] = xk_38 := rfl
theorem fx_38_0 : xins 38 0 = (2, 0, 0, 1) := by decide +kernel
theorem fx_38_1 : xins 38 1 = (2, 0, 1, 1) := by decide +kernel
theorem fx_38_2 : xins 38 2 = (7, 0, 0, 0) := by decide +kernel
theorem fx_38_3 : xins 38 3 = (1, 32, 2, 0) := by decide +kernel
theorem fx_38_5 : xins 38 5 = (7, 0, 2, 0) := by decide +kernel
theorem fx_38_6 : xins 38 6 = (2, 0, 0, 1) := by decide +kernel
theorem fx_38_7 : xins 38 7 = (7, 0, 0, 0) := by decide +kernel
theorem fx_38_8 : xins 38 8 = (29, 0, 0, 0) := by decide +kernel
theorem xq_39 : xnth xprog 39 [] = xk_39 := rfl
theorem fx_39_0 : xins 39 0 = (2, 0, 0, 1) := by decide +kernel
theorem fx_39_1 : xins 39 1 = (1, 32, 2, 0) := by decide +kernel
theorem fx_39_3 : xins 39 3 = (7, 0, 3, 0) := by decide +kernel
theorem fx_39_4 : xins 39 4 = (29, 0, 0, 0) := by decide +kernel
theorem xq_40 : xnth xprog 40 [] = xk_40 := rfl
theorem fx_40_0 : xins 40 0 = (2, 0, 0, 1) := by decide +kernel
theorem fx_40_1 : xins 40 1 = (1, 32, 2, 0) := by decide +kernel
theorem fx_40_3 : xins 40 3 = (7, 0, 4, 0) := by decide +kernel
theorem fx_40_4 : xins 40 4 = (29, 0, 0, 0) := by decide +kernel
theorem xq_41 : xnth xprog 41 [] = xk_41 := rfl
theorem fx_41_0 : xins 41 0 = (2, 0, 0, 1) := by decide +kernel
theorem fx_41_1 : xins 41 1 = (28, 425, 39, 1) := by decide +kernel
theorem fx_41_4 : xins 41 4 = (2, 0, 0, 1) := by decide +kernel
theorem fx_41_5 : xins 41 5 = (28, 426, 40, 1) := by decide +kernel
theorem fx_41_8 : xins 41 8 = (7, 0, 1, 0) := by decide +kernel
theorem fx_41_9 : xins 41 9 = (29, 0, 0, 0) := by decide +kernel
theorem xq_42 : xnth xprog 42 [] = xk_42 := rfl
theorem fx_42_0 : xins 42 0 = (3, 0, 0, 1) := by decide +kernel
theorem fx_42_1 : xins 42 1 = (12, 268, 6, 0) := by decide +kernel
theorem fx_42_4 : xins 42 4 = (2, 0, 1, 1) := by decide +kernel
theorem fx_42_5 : xins 42 5 = (28, 397, 19, 2) := by decide +kernel
theorem fx_42_8 : xins 42 8 = (9, 0, 0, 38) := by decide +kernel
theorem fx_42_11 : xins 42 11 = (3, 0, 0, 1) := by decide +kernel
theorem fx_42_12 : xins 42 12 = (12, 268, 6, 0) := by decide +kernel
theorem fx_42_15 : xins 42 15 = (2, 0, 2, 1) := by decide +kernel
theorem fx_42_16 : xins 42 16 = (28, 397, 19, 2) := by decide +kernel
theorem fx_42_19 : xins 42 19 = (9, 0, 0, 38) := by decide +kernel
theorem fx_42_22 : xins 42 22 = (2, 0, 1, 1) := by decide +kernel
theorem fx_42_23 : xins 42 23 = (2, 0, 2, 1) := by decide +kernel
theorem fx_42_24 : xins 42 24 = (10, 0, 0, 38) := by decide +kernel
theorem fx_42_27 : xins 42 27 = (3, 0, 0, 1) := by decide +kernel
theorem fx_42_28 : xins 42 28 = (12, 268, 6, 0) := by decide +kernel
theorem fx_42_31 : xins 42 31 = (2, 0, 3, 1) := by decide +kernel
theorem fx_42_32 : xins 42 32 = (28, 431, 43, 2) := by decide +kernel
theorem fx_42_35 : xins 42 35 = (9, 0, 1, 40) := by decide +kernel
theorem fx_42_38 : xins 42 38 = (1, (-1), 1, 0) := by decide +kernel
theorem fx_42_39 : xins 42 39 = (29, 0, 0, 0) := by decide +kernel
theorem fx_42_40 : xins 42 40 = (3, 0, 0, 1) := by decide +kernel
theorem fx_42_41 : xins 42 41 = (12, 270, 6, 2) := by decide +kernel
theorem fx_42_44 : xins 42 44 = (3, 0, 0, 1) := by decide +kernel
theorem fx_42_45 : xins 42 45 = (12, 268, 6, 0) := by decide +kernel
theorem fx_42_48 : xins 42 48 = (2, 0, 1, 1) := by decide +kernel
theorem fx_42_49 : xins 42 49 = (2, 0, 2, 1) := by decide +kernel
theorem fx_42_50 : xins 42 50 = (2, 0, 3, 1) := by decide +kernel
theorem fx_42_51 : xins 42 51 = (28, 435, 44, 5) := by decide +kernel
theorem fx_42_54 : xins 42 54 = (4, 0, 5, 2) := by decide +kernel
theorem fx_42_56 : xins 42 56 = (2, 0, 5, 2) := by decide +kernel
theorem fx_42_58 : xins 42 58 = (1, 268435456, 2, 415) := by decide +kernel
theorem fx_42_60 : xins 42 60 = (10, 0, 1, 65) := by decide +kernel
theorem fx_42_63 : xins 42 63 = (1, (-1), 1, 0) := by decide +kernel
theorem fx_42_64 : xins 42 64 = (29, 0, 0, 0) := by decide +kernel
theorem fx_42_65 : xins 42 65 = (2, 0, 4, 2) := by decide +kernel
theorem fx_42_67 : xins 42 67 = (32, 0, 130, 33) := by decide +kernel
theorem fx_42_100 : xins 42 100 = (2, 0, 5, 2) := by decide +kernel
theorem fx_42_102 : xins 42 102 = (28, 462, 51, 1) := by decide +kernel
theorem fx_42_105 : xins 42 105 = (29, 0, 0, 0) := by decide +kernel
theorem fx_42_106 : xins 42 106 = (2, 0, 5, 2) := by decide +kernel
theorem fx_42_108 : xins 42 108 = (28, 465, 52, 1) := by decide +kernel
theorem fx_42_111 : xins 42 111 = (29, 0, 0, 0) := by decide +kernel
theorem fx_42_112 : xins 42 112 = (2, 0, 5, 2) := by decide +kernel
theorem fx_42_114 : xins 42 114 = (28, 468, 53, 1) := by decide +kernel
theorem fx_42_117 : xins 42 117 = (29, 0, 0, 0) := by decide +kernel
theorem fx_42_118 : xins 42 118 = (2, 0, 5, 2) := by decide +kernel
theorem fx_42_120 : xins 42 120 = (28, 471, 54, 1) := by decide +kernel
theorem fx_42_123 : xins 42 123 = (29, 0, 0, 0) := by decide +kernel
theorem fx_42_124 : xins 42 124 = (2, 0, 5, 2) := by decide +kernel
theorem fx_42_126 : xins 42 126 = (28, 474, 55, 1) := by decide +kernel
theorem fx_42_129 : xins 42 129 = (29, 0, 0, 0) := by decide +kernel
theorem fx_42_130 : xins 42 130 = (1, (-1), 1, 0) := by decide +kernel
theorem fx_42_131 : xins 42 131 = (29, 0, 0, 0) := by decide +kernel
theorem xq_43 : xnth xprog 43 [] = xk_43 := rfl
theorem fx_43_0 : xins 43 0 = (2, 0, 1, 1) := by decide +kernel
theorem fx_43_1 : xins 43 1 = (9, 0, 2, 35) := by decide +kernel
theorem fx_43_4 : xins 43 4 = (2, 0, 1, 1) := by decide +kernel
theorem fx_43_5 : xins 43 5 = (1, 4, 1, 0) := by decide +kernel
theorem fx_43_6 : xins 43 6 = (10, 0, 3, 35) := by decide +kernel
theorem fx_43_9 : xins 43 9 = (3, 0, 0, 1) := by decide +kernel
theorem fx_43_10 : xins 43 10 = (1, 2, 1, 0) := by decide +kernel
theorem fx_43_11 : xins 43 11 = (2, 0, 1, 1) := by decide +kernel
theorem fx_43_12 : xins 43 12 = (7, 0, 2, 0) := by decide +kernel
theorem fx_43_13 : xins 43 13 = (28, 389, 33, 2) := by decide +kernel
theorem fx_43_16 : xins 43 16 = (9, 0, 0, 35) := by decide +kernel
theorem fx_43_19 : xins 43 19 = (3, 0, 0, 1) := by decide +kernel
theorem fx_43_20 : xins 43 20 = (1, 2, 1, 0) := by decide +kernel
theorem fx_43_21 : xins 43 21 = (2, 0, 1, 1) := by decide +kernel
theorem fx_43_22 : xins 43 22 = (7, 0, 2, 0) := by decide +kernel
theorem fx_43_23 : xins 43 23 = (1, 1, 1, 0) := by decide +kernel
theorem fx_43_24 : xins 43 24 = (7, 0, 0, 0) := by decide +kernel
theorem fx_43_25 : xins 43 25 = (28, 389, 33, 2) := by decide +kernel
theorem fx_43_28 : xins 43 28 = (9, 0, 0, 35) := by decide +kernel
theorem fx_43_31 : xins 43 31 = (1, 1, 1, 0) := by decide +kernel
theorem fx_43_32 : xins 43 32 = (11, 0, 0, 36) := by decide +kernel
theorem fx_43_35 : xins 43 35 = (1, 0, 1, 0) := by decide +kernel
theorem fx_43_36 : xins 43 36 = (29, 0, 0, 0) := by decide +kernel
theorem xq_44 : xnth xprog 44 [] = xk_44 := rfl
theorem fx_44_0 : xins 44 0 = (3, 0, 0, 1) := by decide +kernel
theorem fx_44_1 : xins 44 1 = (3, 0, 1, 1) := by decide +kernel
theorem fx_44_2 : xins 44 2 = (2, 0, 2, 1) := by decide +kernel
theorem fx_44_3 : xins 44 3 = (2, 0, 4, 2) := by decide +kernel
theorem fx_44_5 : xins 44 5 = (28, 439, 45, 4) := by decide +kernel
theorem fx_44_8 : xins 44 8 = (3, 0, 0, 1) := by decide +kernel
theorem fx_44_9 : xins 44 9 = (3, 0, 1, 1) := by decide +kernel
theorem fx_44_10 : xins 44 10 = (2, 0, 3, 1) := by decide +kernel
theorem fx_44_11 : xins 44 11 = (2, 0, 4, 2) := by decide +kernel
theorem fx_44_13 : xins 44 13 = (28, 443, 46, 4) := by decide +kernel
theorem fx_44_16 : xins 44 16 = (3, 0, 0, 1) := by decide +kernel
theorem fx_44_17 : xins 44 17 = (3, 0, 1, 1) := by decide +kernel
theorem fx_44_18 : xins 44 18 = (2, 0, 2, 1) := by decide +kernel
theorem fx_44_19 : xins 44 19 = (28, 454, 49, 3) := by decide +kernel
theorem fx_44_22 : xins 44 22 = (29, 0, 0, 0) := by decide +kernel
theorem xq_45 : xnth xprog 45 [] = xk_45 := rfl
theorem fx_45_0 : xins 45 0 = (3, 0, 1, 1) := by decide +kernel
theorem fx_45_1 : xins 45 1 = (2, 0, 2, 1) := by decide +kernel
theorem fx_45_2 : xins 45 2 = (1, 2, 1, 0) := by decide +kernel
theorem fx_45_3 : xins 45 3 = (2, 0, 3, 1) := by decide +kernel
theorem fx_45_4 : xins 45 4 = (7, 0, 2, 0) := by decide +kernel
theorem fx_45_5 : xins 45 5 = (3, 0, 0, 1) := by decide +kernel
theorem fx_45_6 : xins 45 6 = (12, 208, 5, 0) := by decide +kernel
theorem fx_45_9 : xins 45 9 = (2, 0, 2, 1) := by decide +kernel
theorem fx_45_10 : xins 45 10 = (16, 0, 0, 0) := by decide +kernel
theorem fx_45_11 : xins 45 11 = (28, 407, 37, 4) := by decide +kernel
theorem fx_45_14 : xins 45 14 = (30, 0, 0, 0) := by decide +kernel
theorem xq_46 : xnth xprog 46 [] = xk_46 := rfl
theorem fx_46_0 : xins 46 0 = (3, 0, 1, 1) := by decide +kernel
theorem fx_46_1 : xins 46 1 = (2, 0, 2, 1) := by decide +kernel
theorem fx_46_2 : xins 46 2 = (1, 2, 1, 0) := by decide +kernel
theorem fx_46_3 : xins 46 3 = (2, 0, 3, 1) := by decide +kernel
theorem fx_46_4 : xins 46 4 = (7, 0, 2, 0) := by decide +kernel
theorem fx_46_5 : xins 46 5 = (1, 1, 1, 0) := by decide +kernel
theorem fx_46_6 : xins 46 6 = (7, 0, 0, 0) := by decide +kernel
theorem fx_46_7 : xins 46 7 = (3, 0, 0, 1) := by decide +kernel
theorem fx_46_8 : xins 46 8 = (12, 209, 5, 1) := by decide +kernel
theorem fx_46_11 : xins 46 11 = (28, 407, 37, 4) := by decide +kernel
theorem fx_46_14 : xins 46 14 = (1, 2, 1, 0) := by decide +kernel
theorem fx_46_15 : xins 46 15 = (3, 0, 1, 1) := by decide +kernel
theorem fx_46_16 : xins 46 16 = (12, 160, 4, 6) := by decide +kernel
theorem fx_46_19 : xins 46 19 = (7, 0, 2, 0) := by decide +kernel
theorem fx_46_20 : xins 46 20 = (4, 0, 4, 2) := by decide +kernel
theorem fx_46_22 : xins 46 22 = (3, 0, 1, 1) := by decide +kernel
theorem fx_46_23 : xins 46 23 = (12, 144, 4, 1) := by decide +kernel
theorem fx_46_26 : xins 46 26 = (1, 2, 1, 0) := by decide +kernel
theorem fx_46_27 : xins 46 27 = (2, 0, 3, 1) := by decide +kernel
theorem fx_46_28 : xins 46 28 = (7, 0, 2, 0) := by decide +kernel
theorem fx_46_29 : xins 46 29 = (1, 1, 1, 0) := by decide +kernel
theorem fx_46_30 : xins 46 30 = (7, 0, 0, 0) := by decide +kernel
theorem fx_46_31 : xins 46 31 = (14, 0, 0, 0) := by decide +kernel
theorem fx_46_32 : xins 46 32 = (3, 0, 1, 1) := by decide +kernel
theorem fx_46_33 : xins 46 33 = (12, 144, 4, 1) := by decide +kernel
theorem fx_46_36 : xins 46 36 = (1, 2, 1, 0) := by decide +kernel
theorem fx_46_37 : xins 46 37 = (2, 0, 3, 1) := by decide +kernel
theorem fx_46_38 : xins 46 38 = (7, 0, 2, 0) := by decide +kernel
theorem fx_46_39 : xins 46 39 = (14, 0, 0, 0) := by decide +kernel
theorem fx_46_40 : xins 46 40 = (7, 0, 1, 0) := by decide +kernel
theorem fx_46_41 : xins 46 41 = (4, 0, 5, 2) := by decide +kernel
theorem fx_46_43 : xins 46 43 = (3, 0, 1, 1) := by decide +kernel
theorem fx_46_44 : xins 46 44 = (2, 0, 3, 1) := by decide +kernel
theorem fx_46_45 : xins 46 45 = (28, 447, 29, 2) := by decide +kernel
theorem fx_46_48 : xins 46 48 = (4, 0, 6, 2) := by decide +kernel
theorem fx_46_50 : xins 46 50 = (1, (-1), 1, 0) := by decide +kernel
theorem fx_46_51 : xins 46 51 = (4, 0, 7, 2) := by decide +kernel
theorem fx_46_53 : xins 46 53 = (1, 0, 1, 0) := by decide +kernel
theorem fx_46_54 : xins 46 54 = (4, 0, 8, 2) := by decide +kernel
theorem fx_46_56 : xins 46 56 = (2, 0, 8, 2) := by decide +kernel
theorem fx_46_58 : xins 46 58 = (2, 0, 4, 2) := by decide +kernel
theorem fx_46_60 : xins 46 60 = (10, 0, 4, 165) := by decide +kernel
theorem fx_46_63 : xins 46 63 = (2, 0, 6, 2) := by decide +kernel
theorem fx_46_65 : xins 46 65 = (9, 0, 0, 87) := by decide +kernel
theorem fx_46_68 : xins 46 68 = (1, 0, 1, 0) := by decide +kernel
theorem fx_46_69 : xins 46 69 = (2, 0, 8, 2) := by decide +kernel
theorem fx_46_71 : xins 46 71 = (3, 0, 1, 1) := by decide +kernel
theorem fx_46_72 : xins 46 72 = (12, 148, 4, 2) := by decide +kernel
theorem fx_46_75 : xins 46 75 = (2, 0, 3, 1) := by decide +kernel
theorem fx_46_76 : xins 46 76 = (14, 0, 0, 0) := by decide +kernel
theorem fx_46_77 : xins 46 77 = (7, 0, 0, 0) := by decide +kernel
theorem fx_46_78 : xins 46 78 = (2, 0, 5, 2) := by decide +kernel
theorem fx_46_80 : xins 46 80 = (7, 0, 1, 0) := by decide +kernel
theorem fx_46_81 : xins 46 81 = (34, 448, 0, 0) := by decide +kernel
theorem fx_46_84 : xins 46 84 = (11, 0, 0, 88) := by decide +kernel
theorem fx_46_87 : xins 46 87 = (1, 0, 1, 0) := by decide +kernel
theorem fx_46_88 : xins 46 88 = (4, 0, 9, 2) := by decide +kernel
theorem fx_46_90 : xins 46 90 = (2, 0, 6, 2) := by decide +kernel
theorem fx_46_92 : xins 46 92 = (9, 0, 0, 115) := by decide +kernel
theorem fx_46_95 : xins 46 95 = (2, 0, 4, 2) := by decide +kernel
theorem fx_46_97 : xins 46 97 = (2, 0, 8, 2) := by decide +kernel
theorem fx_46_99 : xins 46 99 = (3, 0, 1, 1) := by decide +kernel
theorem fx_46_100 : xins 46 100 = (12, 151, 4, 3) := by decide +kernel
theorem fx_46_103 : xins 46 103 = (2, 0, 3, 1) := by decide +kernel
theorem fx_46_104 : xins 46 104 = (14, 0, 0, 0) := by decide +kernel
theorem fx_46_105 : xins 46 105 = (7, 0, 0, 0) := by decide +kernel
theorem fx_46_106 : xins 46 106 = (2, 0, 5, 2) := by decide +kernel
theorem fx_46_108 : xins 46 108 = (7, 0, 1, 0) := by decide +kernel
theorem fx_46_109 : xins 46 109 = (33, 414, 0, 0) := by decide +kernel
theorem fx_46_112 : xins 46 112 = (11, 0, 0, 117) := by decide +kernel
theorem fx_46_115 : xins 46 115 = (2, 0, 4, 2) := by decide +kernel
theorem fx_46_117 : xins 46 117 = (4, 0, 10, 2) := by decide +kernel
theorem fx_46_119 : xins 46 119 = (3, 0, 0, 1) := by decide +kernel
theorem fx_46_120 : xins 46 120 = (12, 209, 5, 1) := by decide +kernel
theorem fx_46_123 : xins 46 123 = (2, 0, 9, 2) := by decide +kernel
theorem fx_46_125 : xins 46 125 = (2, 0, 10, 2) := by decide +kernel
theorem fx_46_127 : xins 46 127 = (2, 0, 7, 2) := by decide +kernel
theorem fx_46_129 : xins 46 129 = (28, 451, 48, 4) := by decide +kernel
theorem fx_46_132 : xins 46 132 = (4, 0, 7, 2) := by decide +kernel
theorem fx_46_134 : xins 46 134 = (3, 0, 0, 1) := by decide +kernel
theorem fx_46_135 : xins 46 135 = (12, 210, 5, 2) := by decide +kernel
theorem fx_46_138 : xins 46 138 = (2, 0, 8, 2) := by decide +kernel
theorem fx_46_140 : xins 46 140 = (2, 0, 7, 2) := by decide +kernel
theorem fx_46_142 : xins 46 142 = (1, (-1), 1, 0) := by decide +kernel
theorem fx_46_143 : xins 46 143 = (10, 0, 1, 151) := by decide +kernel
theorem fx_46_146 : xins 46 146 = (1, 268435456, 2, 410) := by decide +kernel
theorem fx_46_148 : xins 46 148 = (11, 0, 0, 158) := by decide +kernel
theorem fx_46_151 : xins 46 151 = (3, 0, 0, 1) := by decide +kernel
theorem fx_46_152 : xins 46 152 = (12, 209, 5, 1) := by decide +kernel
theorem fx_46_155 : xins 46 155 = (2, 0, 7, 2) := by decide +kernel
theorem fx_46_157 : xins 46 157 = (14, 0, 0, 0) := by decide +kernel
theorem fx_46_158 : xins 46 158 = (15, 0, 0, 0) := by decide +kernel
theorem fx_46_159 : xins 46 159 = (6, 1, 8, 0) := by decide +kernel
theorem fx_46_162 : xins 46 162 = (11, 0, 0, 56) := by decide +kernel
theorem fx_46_165 : xins 46 165 = (30, 0, 0, 0) := by decide +kernel
theorem xq_47 : xnth xprog 47 [] = xk_47 := rfl
theorem fx_47_0 : xins 47 0 = (2, 0, 0, 1) := by decide +kernel
theorem fx_47_1 : xins 47 1 = (2, 0, 1, 1) := by decide +kernel
theorem fx_47_2 : xins 47 2 = (10, 0, 2, 9) := by decide +kernel
theorem fx_47_5 : xins 47 5 = (2, 0, 0, 1) := by decide +kernel
theorem fx_47_6 : xins 47 6 = (11, 0, 0, 10) := by decide +kernel
theorem fx_47_9 : xins 47 9 = (2, 0, 1, 1) := by decide +kernel
theorem fx_47_10 : xins 47 10 = (29, 0, 0, 0) := by decide +kernel
theorem xq_48 : xnth xprog 48 [] = xk_48 := rfl
theorem fx_48_0 : xins 48 0 = (2, 0, 3, 1) := by decide +kernel
theorem fx_48_1 : xins 48 1 = (2, 0, 1, 1) := by decide +kernel
theorem fx_48_2 : xins 48 2 = (10, 0, 2, 9) := by decide +kernel
theorem fx_48_5 : xins 48 5 = (1, 1, 1, 0) := by decide +kernel
theorem fx_48_6 : xins 48 6 = (11, 0, 0, 10) := by decide +kernel
theorem fx_48_9 : xins 48 9 = (1, 0, 1, 0) := by decide +kernel
theorem fx_48_10 : xins 48 10 = (4, 0, 4, 2) := by decide +kernel
theorem fx_48_12 : xins 48 12 = (2, 0, 4, 2) := by decide +kernel
theorem fx_48_14 : xins 48 14 = (9, 0, 0, 21) := by decide +kernel
theorem fx_48_17 : xins 48 17 = (2, 0, 3, 1) := by decide +kernel
theorem fx_48_18 : xins 48 18 = (11, 0, 0, 22) := by decide +kernel
theorem fx_48_21 : xins 48 21 = (1, (-1), 1, 0) := by decide +kernel
theorem fx_48_22 : xins 48 22 = (4, 0, 5, 2) := by decide +kernel
theorem fx_48_24 : xins 48 24 = (2, 0, 4, 2) := by decide +kernel
theorem fx_48_26 : xins 48 26 = (9, 0, 0, 33) := by decide +kernel
theorem fx_48_29 : xins 48 29 = (2, 0, 2, 1) := by decide +kernel
theorem fx_48_30 : xins 48 30 = (11, 0, 0, 34) := by decide +kernel
theorem fx_48_33 : xins 48 33 = (2, 0, 1, 1) := by decide +kernel
theorem fx_48_34 : xins 48 34 = (4, 0, 6, 2) := by decide +kernel
theorem fx_48_36 : xins 48 36 = (2, 0, 6, 2) := by decide +kernel
theorem fx_48_38 : xins 48 38 = (2, 0, 2, 1) := by decide +kernel
theorem fx_48_39 : xins 48 39 = (10, 0, 4, 69) := by decide +kernel
theorem fx_48_42 : xins 48 42 = (2, 0, 5, 2) := by decide +kernel
theorem fx_48_44 : xins 48 44 = (1, (-1), 1, 0) := by decide +kernel
theorem fx_48_45 : xins 48 45 = (10, 0, 0, 59) := by decide +kernel
theorem fx_48_48 : xins 48 48 = (3, 0, 0, 1) := by decide +kernel
theorem fx_48_49 : xins 48 49 = (2, 0, 6, 2) := by decide +kernel
theorem fx_48_51 : xins 48 51 = (14, 0, 0, 0) := by decide +kernel
theorem fx_48_52 : xins 48 52 = (3, 0, 0, 1) := by decide +kernel
theorem fx_48_53 : xins 48 53 = (2, 0, 5, 2) := by decide +kernel
theorem fx_48_55 : xins 48 55 = (14, 0, 0, 0) := by decide +kernel
theorem fx_48_56 : xins 48 56 = (10, 0, 4, 63) := by decide +kernel
theorem fx_48_59 : xins 48 59 = (2, 0, 6, 2) := by decide +kernel
theorem fx_48_61 : xins 48 61 = (4, 0, 5, 2) := by decide +kernel
theorem fx_48_63 : xins 48 63 = (6, 1, 6, 0) := by decide +kernel
theorem fx_48_66 : xins 48 66 = (11, 0, 0, 36) := by decide +kernel
theorem fx_48_69 : xins 48 69 = (2, 0, 5, 2) := by decide +kernel
theorem fx_48_71 : xins 48 71 = (29, 0, 0, 0) := by decide +kernel
theorem xq_49 : xnth xprog 49 [] = xk_49 := rfl
theorem fx_49_0 : xins 49 0 = (1, 268435456, 2, 410) := by decide +kernel
theorem fx_49_2 : xins 49 2 = (4, 0, 3, 1) := by decide +kernel
theorem fx_49_3 : xins 49 3 = (1, 0, 1, 0) := by decide +kernel
theorem fx_49_4 : xins 49 4 = (4, 0, 4, 2) := by decide +kernel
theorem fx_49_6 : xins 49 6 = (2, 0, 4, 2) := by decide +kernel
theorem fx_49_8 : xins 49 8 = (1, 2, 1, 0) := by decide +kernel
theorem fx_49_9 : xins 49 9 = (3, 0, 1, 1) := by decide +kernel
theorem fx_49_10 : xins 49 10 = (12, 160, 4, 6) := by decide +kernel
theorem fx_49_13 : xins 49 13 = (7, 0, 2, 0) := by decide +kernel
theorem fx_49_14 : xins 49 14 = (10, 0, 4, 73) := by decide +kernel
theorem fx_49_17 : xins 49 17 = (3, 0, 0, 1) := by decide +kernel
theorem fx_49_18 : xins 49 18 = (12, 208, 5, 0) := by decide +kernel
theorem fx_49_21 : xins 49 21 = (2, 0, 2, 1) := by decide +kernel
theorem fx_49_22 : xins 49 22 = (16, 0, 0, 0) := by decide +kernel
theorem fx_49_23 : xins 49 23 = (2, 0, 4, 2) := by decide +kernel
theorem fx_49_25 : xins 49 25 = (14, 0, 0, 0) := by decide +kernel
theorem fx_49_26 : xins 49 26 = (1, 268435456, 2, 410) := by decide +kernel
theorem fx_49_28 : xins 49 28 = (10, 0, 0, 67) := by decide +kernel
theorem fx_49_31 : xins 49 31 = (3, 0, 0, 1) := by decide +kernel
theorem fx_49_32 : xins 49 32 = (12, 210, 5, 2) := by decide +kernel
theorem fx_49_35 : xins 49 35 = (2, 0, 4, 2) := by decide +kernel
theorem fx_49_37 : xins 49 37 = (14, 0, 0, 0) := by decide +kernel
theorem fx_49_38 : xins 49 38 = (1, 268435456, 2, 410) := by decide +kernel
theorem fx_49_40 : xins 49 40 = (10, 0, 0, 67) := by decide +kernel
theorem fx_49_43 : xins 49 43 = (2, 0, 3, 1) := by decide +kernel
theorem fx_49_44 : xins 49 44 = (3, 0, 0, 1) := by decide +kernel
theorem fx_49_45 : xins 49 45 = (12, 208, 5, 0) := by decide +kernel
theorem fx_49_48 : xins 49 48 = (2, 0, 2, 1) := by decide +kernel
theorem fx_49_49 : xins 49 49 = (16, 0, 0, 0) := by decide +kernel
theorem fx_49_50 : xins 49 50 = (2, 0, 4, 2) := by decide +kernel
theorem fx_49_52 : xins 49 52 = (14, 0, 0, 0) := by decide +kernel
theorem fx_49_53 : xins 49 53 = (3, 0, 0, 1) := by decide +kernel
theorem fx_49_54 : xins 49 54 = (12, 210, 5, 2) := by decide +kernel
theorem fx_49_57 : xins 49 57 = (2, 0, 4, 2) := by decide +kernel
theorem fx_49_59 : xins 49 59 = (14, 0, 0, 0) := by decide +kernel
theorem fx_49_60 : xins 49 60 = (28, 458, 50, 2) := by decide +kernel
theorem fx_49_63 : xins 49 63 = (33, 414, 0, 0) := by decide +kernel
theorem fx_49_66 : xins 49 66 = (4, 0, 3, 1) := by decide +kernel
theorem fx_49_67 : xins 49 67 = (6, 1, 4, 0) := by decide +kernel
theorem fx_49_70 : xins 49 70 = (11, 0, 0, 6) := by decide +kernel
theorem fx_49_73 : xins 49 73 = (2, 0, 3, 1) := by decide +kernel
theorem fx_49_74 : xins 49 74 = (29, 0, 0, 0) := by decide +kernel
theorem xq_50 : xnth xprog 50 [] = xk_50 := rfl
theorem fx_50_0 : xins 50 0 = (2, 0, 0, 1) := by decide +kernel
theorem fx_50_1 : xins 50 1 = (28, 425, 39, 1) := by decide +kernel
theorem fx_50_4 : xins 50 4 = (2, 0, 1, 1) := by decide +kernel
theorem fx_50_5 : xins 50 5 = (28, 425, 39, 1) := by decide +kernel
theorem fx_50_8 : xins 50 8 = (7, 0, 0, 0) := by decide +kernel
theorem fx_50_9 : xins 50 9 = (4, 0, 2, 1) := by decide +kernel
theorem fx_50_10 : xins 50 10 = (2, 0, 2, 1) := by decide +kernel
theorem fx_50_11 : xins 50 11 = (1, 32, 2, 0) := by decide +kernel
theorem fx_50_13 : xins 50 13 = (7, 0, 2, 0) := by decide +kernel
theorem fx_50_14 : xins 50 14 = (2, 0, 0, 1) := by decide +kernel
theorem fx_50_15 : xins 50 15 = (28, 426, 40, 1) := by decide +kernel
theorem fx_50_18 : xins 50 18 = (7, 0, 0, 0) := by decide +kernel
theorem fx_50_19 : xins 50 19 = (4, 0, 2, 1) := by decide +kernel
theorem fx_50_20 : xins 50 20 = (2, 0, 2, 1) := by decide +kernel
theorem fx_50_21 : xins 50 21 = (1, 32, 2, 0) := by decide +kernel
theorem fx_50_23 : xins 50 23 = (7, 0, 2, 0) := by decide +kernel
theorem fx_50_24 : xins 50 24 = (2, 0, 0, 1) := by decide +kernel
theorem fx_50_25 : xins 50 25 = (28, 461, 41, 1) := by decide +kernel
theorem fx_50_28 : xins 50 28 = (7, 0, 0, 0) := by decide +kernel
theorem fx_50_29 : xins 50 29 = (4, 0, 2, 1) := by decide +kernel
theorem fx_50_30 : xins 50 30 = (2, 0, 2, 1) := by decide +kernel
theorem fx_50_31 : xins 50 31 = (1, 32, 2, 0) := by decide +kernel
theorem fx_50_33 : xins 50 33 = (7, 0, 2, 0) := by decide +kernel
theorem fx_50_34 : xins 50 34 = (2, 0, 1, 1) := by decide +kernel
theorem fx_50_35 : xins 50 35 = (28, 426, 40, 1) := by decide +kernel
theorem fx_50_38 : xins 50 38 = (7, 0, 0, 0) := by decide +kernel
theorem fx_50_39 : xins 50 39 = (29, 0, 0, 0) := by decide +kernel
theorem xq_51 : xnth xprog 51 [] = xk_51 := rfl
theorem fx_51_0 : xins 51 0 = (2, 0, 0, 1) := by decide +kernel
theorem fx_51_1 : xins 51 1 = (1, 15, 2, 0) := by decide +kernel
theorem fx_51_3 : xins 51 3 = (7, 0, 9, 0) := by decide +kernel
theorem fx_51_4 : xins 51 4 = (29, 0, 0, 0) := by decide +kernel
theorem xq_52 : xnth xprog 52 [] = xk_52 := rfl
theorem fx_52_0 : xins 52 0 = (2, 0, 0, 1) := by decide +kernel
theorem fx_52_1 : xins 52 1 = (1, 10, 2, 0) := by decide +kernel
theorem fx_52_3 : xins 52 3 = (7, 0, 9, 0) := by decide +kernel
theorem fx_52_4 : xins 52 4 = (1, 31, 2, 0) := by decide +kernel
theorem fx_52_6 : xins 52 6 = (7, 0, 5, 0) := by decide +kernel
theorem fx_52_7 : xins 52 7 = (29, 0, 0, 0) := by decide +kernel
theorem xq_53 : xnth xprog 53 [] = xk_53 := rfl
theorem fx_53_0 : xins 53 0 = (2, 0, 0, 1) := by decide +kernel
theorem fx_53_1 : xins 53 1 = (1, 5, 1, 0) := by decide +kernel
theorem fx_53_2 : xins 53 2 = (7, 0, 9, 0) := by decide +kernel
theorem fx_53_3 : xins 53 3 = (1, 31, 2, 0) := by decide +kernel
theorem fx_53_5 : xins 53 5 = (7, 0, 5, 0) := by decide +kernel
theorem fx_53_6 : xins 53 6 = (29, 0, 0, 0) := by decide +kernel
theorem xq_54 : xnth xprog 54 [] = xk_54 := rfl
theorem fx_54_0 : xins 54 0 = (2, 0, 0, 1) := by decide +kernel
theorem fx_54_1 : xins 54 1 = (1, 31, 2, 0) := by decide +kernel
theorem fx_54_3 : xins 54 3 = (7, 0, 5, 0) := by decide +kernel
theorem fx_54_4 : xins 54 4 = (29, 0, 0, 0) := by decide +kernel
theorem xq_55 : xnth xprog 55 [] = xk_55 := rfl
theorem fx_55_0 : xins 55 0 = (2, 0, 0, 1) := by decide +kernel
theorem fx_55_1 : xins 55 1 = (28, 477, 51, 1) := by decide +kernel
theorem fx_55_4 : xins 55 4 = (2, 0, 0, 1) := by decide +kernel
theorem fx_55_5 : xins 55 5 = (28, 478, 52, 1) := by decide +kernel
theorem fx_55_8 : xins 55 8 = (7, 0, 1, 0) := by decide +kernel
theorem fx_55_9 : xins 55 9 = (2, 0, 0, 1) := by decide +kernel
theorem fx_55_10 : xins 55 10 = (28, 479, 53, 1) := by decide +kernel
theorem fx_55_13 : xins 55 13 = (7, 0, 1, 0) := by decide +kernel
theorem fx_55_14 : xins 55 14 = (2, 0, 0, 1) := by decide +kernel
theorem fx_55_15 : xins 55 15 = (28, 480, 54, 1) := by decide +kernel
theorem fx_55_18 : xins 55 18 = (7, 0, 1, 0) := by decide +kernel
theorem fx_55_19 : xins 55 19 = (29, 0, 0, 0) := by decide +kernel
theorem xq_56 : xnth xprog 56 [] = xk_56 := rfl
theorem fx_56_0 : xins 56 0 = (3, 0, 0, 1) := by decide +kernel
theorem fx_56_1 : xins 56 1 = (12, 271, 6, 3) := by decide +kernel
theorem fx_56_4 : xins 56 4 = (3, 0, 0, 1) := by decide +kernel
theorem fx_56_5 : xins 56 5 = (12, 268, 6, 0) := by decide +kernel
theorem fx_56_8 : xins 56 8 = (3, 0, 0, 1) := by decide +kernel
theorem fx_56_9 : xins 56 9 = (12, 270, 6, 2) := by decide +kernel
theorem fx_56_12 : xins 56 12 = (28, 485, 57, 3) := by decide +kernel
theorem fx_56_15 : xins 56 15 = (2, 0, 1, 1) := by decide +kernel
theorem fx_56_16 : xins 56 16 = (9, 0, 1, 41) := by decide +kernel
theorem fx_56_19 : xins 56 19 = (3, 0, 0, 1) := by decide +kernel
theorem fx_56_20 : xins 56 20 = (12, 271, 6, 3) := by decide +kernel
theorem fx_56_23 : xins 56 23 = (28, 580, 71, 1) := by decide +kernel
theorem fx_56_26 : xins 56 26 = (9, 0, 0, 39) := by decide +kernel
theorem fx_56_29 : xins 56 29 = (3, 0, 0, 1) := by decide +kernel
theorem fx_56_30 : xins 56 30 = (12, 271, 6, 3) := by decide +kernel
theorem fx_56_33 : xins 56 33 = (12, 245, 2, 6) := by decide +kernel
theorem fx_56_36 : xins 56 36 = (11, 0, 0, 40) := by decide +kernel
theorem fx_56_39 : xins 56 39 = (1, (-1), 1, 0) := by decide +kernel
theorem fx_56_40 : xins 56 40 = (29, 0, 0, 0) := by decide +kernel
theorem fx_56_41 : xins 56 41 = (2, 0, 1, 1) := by decide +kernel
theorem fx_56_42 : xins 56 42 = (1, 10, 2, 0) := by decide +kernel
theorem fx_56_44 : xins 56 44 = (1, 17, 2, 0) := by decide +kernel
theorem fx_56_46 : xins 56 46 = (28, 285, 9, 3) := by decide +kernel
theorem fx_56_49 : xins 56 49 = (9, 0, 0, 65) := by decide +kernel
theorem fx_56_52 : xins 56 52 = (3, 0, 0, 1) := by decide +kernel
theorem fx_56_53 : xins 56 53 = (12, 271, 6, 3) := by decide +kernel
theorem fx_56_56 : xins 56 56 = (12, 242, 2, 4) := by decide +kernel
theorem fx_56_59 : xins 56 59 = (2, 0, 1, 1) := by decide +kernel
theorem fx_56_60 : xins 56 60 = (1, 10, 2, 0) := by decide +kernel
theorem fx_56_62 : xins 56 62 = (7, 0, 1, 0) := by decide +kernel
theorem fx_56_63 : xins 56 63 = (14, 0, 0, 0) := by decide +kernel
theorem fx_56_64 : xins 56 64 = (29, 0, 0, 0) := by decide +kernel
theorem fx_56_65 : xins 56 65 = (1, (-1), 1, 0) := by decide +kernel
theorem fx_56_66 : xins 56 66 = (29, 0, 0, 0) := by decide +kernel
theorem xq_57 : xnth xprog 57 [] = xk_57 := rfl
theorem fx_57_0 : xins 57 0 = (3, 0, 0, 1) := by decide +kernel
theorem fx_57_1 : xins 57 1 = (12, 248, 2, 8) := by decide +kernel
theorem fx_57_4 : xins 57 4 = (9, 0, 0, 8) := by decide +kernel
theorem fx_57_7 : xins 57 7 = (30, 0, 0, 0) := by decide +kernel
theorem fx_57_8 : xins 57 8 = (3, 0, 0, 1) := by decide +kernel
theorem fx_57_9 : xins 57 9 = (1, 1, 1, 0) := by decide +kernel
theorem fx_57_10 : xins 57 10 = (13, 248, 2, 8) := by decide +kernel
theorem fx_57_13 : xins 57 13 = (3, 0, 0, 1) := by decide +kernel
theorem fx_57_14 : xins 57 14 = (12, 237, 2, 0) := by decide +kernel
theorem fx_57_17 : xins 57 17 = (3, 0, 1, 1) := by decide +kernel
theorem fx_57_18 : xins 57 18 = (3, 0, 2, 1) := by decide +kernel
theorem fx_57_19 : xins 57 19 = (28, 489, 58, 3) := by decide +kernel
theorem fx_57_22 : xins 57 22 = (3, 0, 0, 1) := by decide +kernel
theorem fx_57_23 : xins 57 23 = (3, 0, 1, 1) := by decide +kernel
theorem fx_57_24 : xins 57 24 = (28, 525, 64, 2) := by decide +kernel
theorem fx_57_27 : xins 57 27 = (3, 0, 0, 1) := by decide +kernel
theorem fx_57_28 : xins 57 28 = (3, 0, 1, 1) := by decide +kernel
theorem fx_57_29 : xins 57 29 = (28, 530, 65, 2) := by decide +kernel
theorem fx_57_32 : xins 57 32 = (3, 0, 0, 1) := by decide +kernel
theorem fx_57_33 : xins 57 33 = (3, 0, 0, 1) := by decide +kernel
theorem fx_57_34 : xins 57 34 = (12, 238, 2, 1) := by decide +kernel
theorem fx_57_37 : xins 57 37 = (1, 0, 1, 0) := by decide +kernel
theorem fx_57_38 : xins 57 38 = (14, 0, 0, 0) := by decide +kernel
theorem fx_57_39 : xins 57 39 = (13, 244, 2, 6) := by decide +kernel
theorem fx_57_42 : xins 57 42 = (3, 0, 0, 1) := by decide +kernel
theorem fx_57_43 : xins 57 43 = (3, 0, 0, 1) := by decide +kernel
theorem fx_57_44 : xins 57 44 = (12, 239, 2, 2) := by decide +kernel
theorem fx_57_47 : xins 57 47 = (1, 0, 1, 0) := by decide +kernel
theorem fx_57_48 : xins 57 48 = (14, 0, 0, 0) := by decide +kernel
theorem fx_57_49 : xins 57 49 = (13, 246, 2, 7) := by decide +kernel
theorem fx_57_52 : xins 57 52 = (3, 0, 0, 1) := by decide +kernel
theorem fx_57_53 : xins 57 53 = (12, 241, 2, 4) := by decide +kernel
theorem fx_57_56 : xins 57 56 = (1, (-1), 1, 0) := by decide +kernel
theorem fx_57_57 : xins 57 57 = (28, 559, 3, 2) := by decide +kernel
theorem fx_57_60 : xins 57 60 = (3, 0, 0, 1) := by decide +kernel
theorem fx_57_61 : xins 57 61 = (28, 560, 71, 1) := by decide +kernel
theorem fx_57_64 : xins 57 64 = (9, 0, 0, 72) := by decide +kernel
theorem fx_57_67 : xins 57 67 = (3, 0, 0, 1) := by decide +kernel
theorem fx_57_68 : xins 57 68 = (3, 0, 1, 1) := by decide +kernel
theorem fx_57_69 : xins 57 69 = (28, 564, 72, 2) := by decide +kernel
theorem fx_57_72 : xins 57 72 = (30, 0, 0, 0) := by decide +kernel
theorem xq_58 : xnth xprog 58 [] = xk_58 := rfl
theorem fx_58_0 : xins 58 0 = (3, 0, 0, 1) := by decide +kernel
theorem fx_58_1 : xins 58 1 = (12, 230, 0, 0) := by decide +kernel
theorem fx_58_4 : xins 58 4 = (1, 268435456, 2, 493) := by decide +kernel
theorem fx_58_6 : xins 58 6 = (28, 494, 3, 2) := by decide +kernel
theorem fx_58_9 : xins 58 9 = (3, 0, 0, 1) := by decide +kernel
theorem fx_58_10 : xins 58 10 = (12, 231, 0, 1) := by decide +kernel
theorem fx_58_13 : xins 58 13 = (1, 268435456, 2, 493) := by decide +kernel
theorem fx_58_15 : xins 58 15 = (28, 494, 3, 2) := by decide +kernel
theorem fx_58_18 : xins 58 18 = (1, 0, 1, 0) := by decide +kernel
theorem fx_58_19 : xins 58 19 = (4, 0, 3, 1) := by decide +kernel
theorem fx_58_20 : xins 58 20 = (2, 0, 3, 1) := by decide +kernel
theorem fx_58_21 : xins 58 21 = (1, 8, 2, 0) := by decide +kernel
theorem fx_58_23 : xins 58 23 = (10, 0, 3, 47) := by decide +kernel
theorem fx_58_26 : xins 58 26 = (3, 0, 1, 1) := by decide +kernel
theorem fx_58_27 : xins 58 27 = (2, 0, 3, 1) := by decide +kernel
theorem fx_58_28 : xins 58 28 = (28, 495, 33, 2) := by decide +kernel
theorem fx_58_31 : xins 58 31 = (9, 0, 0, 41) := by decide +kernel
theorem fx_58_34 : xins 58 34 = (3, 0, 0, 1) := by decide +kernel
theorem fx_58_35 : xins 58 35 = (3, 0, 1, 1) := by decide +kernel
theorem fx_58_36 : xins 58 36 = (3, 0, 2, 1) := by decide +kernel
theorem fx_58_37 : xins 58 37 = (2, 0, 3, 1) := by decide +kernel
theorem fx_58_38 : xins 58 38 = (28, 496, 59, 4) := by decide +kernel
theorem fx_58_41 : xins 58 41 = (6, 1, 3, 0) := by decide +kernel
theorem fx_58_44 : xins 58 44 = (11, 0, 0, 20) := by decide +kernel
theorem fx_58_47 : xins 58 47 = (1, 0, 1, 0) := by decide +kernel
theorem fx_58_48 : xins 58 48 = (4, 0, 3, 1) := by decide +kernel
theorem fx_58_49 : xins 58 49 = (2, 0, 3, 1) := by decide +kernel
theorem fx_58_50 : xins 58 50 = (1, 4, 1, 0) := by decide +kernel
theorem fx_58_51 : xins 58 51 = (10, 0, 3, 75) := by decide +kernel
theorem fx_58_54 : xins 58 54 = (3, 0, 1, 1) := by decide +kernel
theorem fx_58_55 : xins 58 55 = (2, 0, 3, 1) := by decide +kernel
theorem fx_58_56 : xins 58 56 = (28, 503, 60, 2) := by decide +kernel
theorem fx_58_59 : xins 58 59 = (9, 0, 0, 69) := by decide +kernel
theorem fx_58_62 : xins 58 62 = (3, 0, 0, 1) := by decide +kernel
theorem fx_58_63 : xins 58 63 = (3, 0, 1, 1) := by decide +kernel
theorem fx_58_64 : xins 58 64 = (3, 0, 2, 1) := by decide +kernel
theorem fx_58_65 : xins 58 65 = (2, 0, 3, 1) := by decide +kernel
theorem fx_58_66 : xins 58 66 = (28, 509, 61, 4) := by decide +kernel
theorem fx_58_69 : xins 58 69 = (6, 1, 3, 0) := by decide +kernel
theorem fx_58_72 : xins 58 72 = (11, 0, 0, 49) := by decide +kernel
theorem fx_58_75 : xins 58 75 = (30, 0, 0, 0) := by decide +kernel
theorem xq_59 : xnth xprog 59 [] = xk_59 := rfl
theorem fx_59_0 : xins 59 0 = (1, 0, 1, 0) := by decide +kernel
theorem fx_59_1 : xins 59 1 = (4, 0, 4, 2) := by decide +kernel
theorem fx_59_3 : xins 59 3 = (2, 0, 4, 2) := by decide +kernel
theorem fx_59_5 : xins 59 5 = (1, 12, 2, 0) := by decide +kernel
theorem fx_59_7 : xins 59 7 = (10, 0, 3, 64) := by decide +kernel
theorem fx_59_10 : xins 59 10 = (3, 0, 1, 1) := by decide +kernel
theorem fx_59_11 : xins 59 11 = (2, 0, 4, 2) := by decide +kernel
theorem fx_59_13 : xins 59 13 = (28, 500, 18, 2) := by decide +kernel
theorem fx_59_16 : xins 59 16 = (9, 0, 0, 30) := by decide +kernel
theorem fx_59_19 : xins 59 19 = (3, 0, 2, 1) := by decide +kernel
theorem fx_59_20 : xins 59 20 = (3, 0, 1, 1) := by decide +kernel
theorem fx_59_21 : xins 59 21 = (2, 0, 4, 2) := by decide +kernel
theorem fx_59_23 : xins 59 23 = (2, 0, 3, 1) := by decide +kernel
theorem fx_59_24 : xins 59 24 = (28, 501, 36, 4) := by decide +kernel
theorem fx_59_27 : xins 59 27 = (11, 0, 0, 32) := by decide +kernel
theorem fx_59_30 : xins 59 30 = (1, 268435456, 2, 493) := by decide +kernel
theorem fx_59_32 : xins 59 32 = (4, 0, 5, 2) := by decide +kernel
theorem fx_59_34 : xins 59 34 = (2, 0, 5, 2) := by decide +kernel
theorem fx_59_36 : xins 59 36 = (1, 268435456, 2, 493) := by decide +kernel
theorem fx_59_38 : xins 59 38 = (10, 0, 0, 58) := by decide +kernel
theorem fx_59_41 : xins 59 41 = (3, 0, 0, 1) := by decide +kernel
theorem fx_59_42 : xins 59 42 = (12, 230, 0, 0) := by decide +kernel
theorem fx_59_45 : xins 59 45 = (2, 0, 3, 1) := by decide +kernel
theorem fx_59_46 : xins 59 46 = (1, 12, 2, 0) := by decide +kernel
theorem fx_59_48 : xins 59 48 = (7, 0, 2, 0) := by decide +kernel
theorem fx_59_49 : xins 59 49 = (2, 0, 4, 2) := by decide +kernel
theorem fx_59_51 : xins 59 51 = (7, 0, 0, 0) := by decide +kernel
theorem fx_59_52 : xins 59 52 = (2, 0, 5, 2) := by decide +kernel
theorem fx_59_54 : xins 59 54 = (28, 502, 39, 1) := by decide +kernel
theorem fx_59_57 : xins 59 57 = (15, 0, 0, 0) := by decide +kernel
theorem fx_59_58 : xins 59 58 = (6, 1, 4, 0) := by decide +kernel
theorem fx_59_61 : xins 59 61 = (11, 0, 0, 3) := by decide +kernel
theorem fx_59_64 : xins 59 64 = (30, 0, 0, 0) := by decide +kernel
theorem xq_60 : xnth xprog 60 [] = xk_60 := rfl
theorem fx_60_0 : xins 60 0 = (3, 0, 0, 1) := by decide +kernel
theorem fx_60_1 : xins 60 1 = (2, 0, 1, 1) := by decide +kernel
theorem fx_60_2 : xins 60 2 = (28, 507, 29, 2) := by decide +kernel
theorem fx_60_5 : xins 60 5 = (9, 0, 0, 20) := by decide +kernel
theorem fx_60_8 : xins 60 8 = (3, 0, 0, 1) := by decide +kernel
theorem fx_60_9 : xins 60 9 = (2, 0, 1, 1) := by decide +kernel
theorem fx_60_10 : xins 60 10 = (28, 508, 43, 2) := by decide +kernel
theorem fx_60_13 : xins 60 13 = (9, 0, 0, 20) := by decide +kernel
theorem fx_60_16 : xins 60 16 = (1, 1, 1, 0) := by decide +kernel
theorem fx_60_17 : xins 60 17 = (11, 0, 0, 21) := by decide +kernel
theorem fx_60_20 : xins 60 20 = (1, 0, 1, 0) := by decide +kernel
theorem fx_60_21 : xins 60 21 = (29, 0, 0, 0) := by decide +kernel
theorem xq_61 : xnth xprog 61 [] = xk_61 := rfl
theorem fx_61_0 : xins 61 0 = (1, 0, 1, 0) := by decide +kernel
theorem fx_61_1 : xins 61 1 = (4, 0, 4, 2) := by decide +kernel
theorem fx_61_3 : xins 61 3 = (2, 0, 4, 2) := by decide +kernel
theorem fx_61_5 : xins 61 5 = (1, 12, 2, 0) := by decide +kernel
theorem fx_61_7 : xins 61 7 = (10, 0, 3, 38) := by decide +kernel
theorem fx_61_10 : xins 61 10 = (3, 0, 0, 1) := by decide +kernel
theorem fx_61_11 : xins 61 11 = (1, 2, 1, 0) := by decide +kernel
theorem fx_61_12 : xins 61 12 = (2, 0, 3, 1) := by decide +kernel
theorem fx_61_13 : xins 61 13 = (7, 0, 2, 0) := by decide +kernel
theorem fx_61_14 : xins 61 14 = (2, 0, 4, 2) := by decide +kernel
theorem fx_61_16 : xins 61 16 = (28, 513, 62, 3) := by decide +kernel
theorem fx_61_19 : xins 61 19 = (1, 268435456, 2, 493) := by decide +kernel
theorem fx_61_21 : xins 61 21 = (10, 0, 0, 32) := by decide +kernel
theorem fx_61_24 : xins 61 24 = (3, 0, 2, 1) := by decide +kernel
theorem fx_61_25 : xins 61 25 = (3, 0, 1, 1) := by decide +kernel
theorem fx_61_26 : xins 61 26 = (2, 0, 4, 2) := by decide +kernel
theorem fx_61_28 : xins 61 28 = (2, 0, 3, 1) := by decide +kernel
theorem fx_61_29 : xins 61 29 = (28, 517, 45, 4) := by decide +kernel
theorem fx_61_32 : xins 61 32 = (6, 1, 4, 0) := by decide +kernel
theorem fx_61_35 : xins 61 35 = (11, 0, 0, 3) := by decide +kernel
theorem fx_61_38 : xins 61 38 = (1, 0, 1, 0) := by decide +kernel
theorem fx_61_39 : xins 61 39 = (4, 0, 4, 2) := by decide +kernel
theorem fx_61_41 : xins 61 41 = (2, 0, 4, 2) := by decide +kernel
theorem fx_61_43 : xins 61 43 = (1, 12, 2, 0) := by decide +kernel
theorem fx_61_45 : xins 61 45 = (10, 0, 3, 87) := by decide +kernel
theorem fx_61_48 : xins 61 48 = (3, 0, 0, 1) := by decide +kernel
theorem fx_61_49 : xins 61 49 = (1, 2, 1, 0) := by decide +kernel
theorem fx_61_50 : xins 61 50 = (2, 0, 3, 1) := by decide +kernel
theorem fx_61_51 : xins 61 51 = (7, 0, 2, 0) := by decide +kernel
theorem fx_61_52 : xins 61 52 = (1, 1, 1, 0) := by decide +kernel
theorem fx_61_53 : xins 61 53 = (7, 0, 0, 0) := by decide +kernel
theorem fx_61_54 : xins 61 54 = (2, 0, 4, 2) := by decide +kernel
theorem fx_61_56 : xins 61 56 = (28, 513, 62, 3) := by decide +kernel
theorem fx_61_59 : xins 61 59 = (1, 268435456, 2, 493) := by decide +kernel
theorem fx_61_61 : xins 61 61 = (10, 0, 0, 81) := by decide +kernel
theorem fx_61_64 : xins 61 64 = (3, 0, 2, 1) := by decide +kernel
theorem fx_61_65 : xins 61 65 = (3, 0, 1, 1) := by decide +kernel
theorem fx_61_66 : xins 61 66 = (2, 0, 4, 2) := by decide +kernel
theorem fx_61_68 : xins 61 68 = (2, 0, 3, 1) := by decide +kernel
theorem fx_61_69 : xins 61 69 = (28, 518, 46, 4) := by decide +kernel
theorem fx_61_72 : xins 61 72 = (3, 0, 0, 1) := by decide +kernel
theorem fx_61_73 : xins 61 73 = (3, 0, 1, 1) := by decide +kernel
theorem fx_61_74 : xins 61 74 = (3, 0, 2, 1) := by decide +kernel
theorem fx_61_75 : xins 61 75 = (2, 0, 3, 1) := by decide +kernel
theorem fx_61_76 : xins 61 76 = (2, 0, 4, 2) := by decide +kernel
theorem fx_61_78 : xins 61 78 = (28, 519, 63, 5) := by decide +kernel
theorem fx_61_81 : xins 61 81 = (6, 1, 4, 0) := by decide +kernel
theorem fx_61_84 : xins 61 84 = (11, 0, 0, 41) := by decide +kernel
theorem fx_61_87 : xins 61 87 = (30, 0, 0, 0) := by decide +kernel
theorem xq_62 : xnth xprog 62 [] = xk_62 := rfl
theorem fx_62_0 : xins 62 0 = (3, 0, 0, 1) := by decide +kernel
theorem fx_62_1 : xins 62 1 = (12, 230, 0, 0) := by decide +kernel
theorem fx_62_4 : xins 62 4 = (2, 0, 1, 1) := by decide +kernel
theorem fx_62_5 : xins 62 5 = (1, 12, 2, 0) := by decide +kernel
theorem fx_62_7 : xins 62 7 = (7, 0, 2, 0) := by decide +kernel
theorem fx_62_8 : xins 62 8 = (2, 0, 2, 1) := by decide +kernel
theorem fx_62_9 : xins 62 9 = (7, 0, 0, 0) := by decide +kernel
theorem fx_62_10 : xins 62 10 = (14, 0, 0, 0) := by decide +kernel
theorem fx_62_11 : xins 62 11 = (29, 0, 0, 0) := by decide +kernel
theorem xq_63 : xnth xprog 63 [] = xk_63 := rfl
theorem fx_63_0 : xins 63 0 = (1, 0, 1, 0) := by decide +kernel
theorem fx_63_1 : xins 63 1 = (4, 0, 5, 2) := by decide +kernel
theorem fx_63_3 : xins 63 3 = (2, 0, 5, 2) := by decide +kernel
theorem fx_63_5 : xins 63 5 = (1, 12, 2, 0) := by decide +kernel
theorem fx_63_7 : xins 63 7 = (10, 0, 3, 81) := by decide +kernel
theorem fx_63_10 : xins 63 10 = (2, 0, 5, 2) := by decide +kernel
theorem fx_63_12 : xins 63 12 = (2, 0, 4, 2) := by decide +kernel
theorem fx_63_14 : xins 63 14 = (10, 0, 0, 41) := by decide +kernel
theorem fx_63_17 : xins 63 17 = (3, 0, 0, 1) := by decide +kernel
theorem fx_63_18 : xins 63 18 = (1, 2, 1, 0) := by decide +kernel
theorem fx_63_19 : xins 63 19 = (2, 0, 3, 1) := by decide +kernel
theorem fx_63_20 : xins 63 20 = (7, 0, 2, 0) := by decide +kernel
theorem fx_63_21 : xins 63 21 = (2, 0, 5, 2) := by decide +kernel
theorem fx_63_23 : xins 63 23 = (28, 513, 62, 3) := by decide +kernel
theorem fx_63_26 : xins 63 26 = (1, 268435456, 2, 493) := by decide +kernel
theorem fx_63_28 : xins 63 28 = (10, 0, 0, 41) := by decide +kernel
theorem fx_63_31 : xins 63 31 = (3, 0, 2, 1) := by decide +kernel
theorem fx_63_32 : xins 63 32 = (3, 0, 1, 1) := by decide +kernel
theorem fx_63_33 : xins 63 33 = (2, 0, 5, 2) := by decide +kernel
theorem fx_63_35 : xins 63 35 = (28, 523, 49, 3) := by decide +kernel
theorem fx_63_38 : xins 63 38 = (11, 0, 0, 43) := by decide +kernel
theorem fx_63_41 : xins 63 41 = (1, 268435456, 2, 493) := by decide +kernel
theorem fx_63_43 : xins 63 43 = (4, 0, 6, 2) := by decide +kernel
theorem fx_63_45 : xins 63 45 = (2, 0, 6, 2) := by decide +kernel
theorem fx_63_47 : xins 63 47 = (1, 268435456, 2, 493) := by decide +kernel
theorem fx_63_49 : xins 63 49 = (10, 0, 0, 75) := by decide +kernel
theorem fx_63_52 : xins 63 52 = (3, 0, 0, 1) := by decide +kernel
theorem fx_63_53 : xins 63 53 = (12, 231, 0, 1) := by decide +kernel
theorem fx_63_56 : xins 63 56 = (2, 0, 3, 1) := by decide +kernel
theorem fx_63_57 : xins 63 57 = (1, 12, 2, 0) := by decide +kernel
theorem fx_63_59 : xins 63 59 = (7, 0, 2, 0) := by decide +kernel
theorem fx_63_60 : xins 63 60 = (2, 0, 5, 2) := by decide +kernel
theorem fx_63_62 : xins 63 62 = (7, 0, 0, 0) := by decide +kernel
theorem fx_63_63 : xins 63 63 = (1, 12, 2, 0) := by decide +kernel
theorem fx_63_65 : xins 63 65 = (7, 0, 2, 0) := by decide +kernel
theorem fx_63_66 : xins 63 66 = (2, 0, 4, 2) := by decide +kernel
theorem fx_63_68 : xins 63 68 = (7, 0, 0, 0) := by decide +kernel
theorem fx_63_69 : xins 63 69 = (2, 0, 6, 2) := by decide +kernel
theorem fx_63_71 : xins 63 71 = (28, 524, 51, 1) := by decide +kernel
theorem fx_63_74 : xins 63 74 = (15, 0, 0, 0) := by decide +kernel
theorem fx_63_75 : xins 63 75 = (6, 1, 5, 0) := by decide +kernel
theorem fx_63_78 : xins 63 78 = (11, 0, 0, 3) := by decide +kernel
theorem fx_63_81 : xins 63 81 = (30, 0, 0, 0) := by decide +kernel
theorem xq_64 : xnth xprog 64 [] = xk_64 := rfl
theorem fx_64_0 : xins 64 0 = (3, 0, 0, 1) := by decide +kernel
theorem fx_64_1 : xins 64 1 = (1, 0, 1, 0) := by decide +kernel
theorem fx_64_2 : xins 64 2 = (13, 243, 2, 5) := by decide +kernel
theorem fx_64_5 : xins 64 5 = (1, 0, 1, 0) := by decide +kernel
theorem fx_64_6 : xins 64 6 = (4, 0, 2, 1) := by decide +kernel
theorem fx_64_7 : xins 64 7 = (2, 0, 2, 1) := by decide +kernel
theorem fx_64_8 : xins 64 8 = (1, 8, 2, 0) := by decide +kernel
theorem fx_64_10 : xins 64 10 = (10, 0, 3, 47) := by decide +kernel
theorem fx_64_13 : xins 64 13 = (3, 0, 1, 1) := by decide +kernel
theorem fx_64_14 : xins 64 14 = (2, 0, 2, 1) := by decide +kernel
theorem fx_64_15 : xins 64 15 = (28, 529, 33, 2) := by decide +kernel
theorem fx_64_18 : xins 64 18 = (9, 0, 0, 41) := by decide +kernel
theorem fx_64_21 : xins 64 21 = (3, 0, 0, 1) := by decide +kernel
theorem fx_64_22 : xins 64 22 = (12, 240, 2, 3) := by decide +kernel
theorem fx_64_25 : xins 64 25 = (3, 0, 0, 1) := by decide +kernel
theorem fx_64_26 : xins 64 26 = (12, 243, 2, 5) := by decide +kernel
theorem fx_64_29 : xins 64 29 = (2, 0, 2, 1) := by decide +kernel
theorem fx_64_30 : xins 64 30 = (15, 0, 0, 0) := by decide +kernel
theorem fx_64_31 : xins 64 31 = (3, 0, 0, 1) := by decide +kernel
theorem fx_64_32 : xins 64 32 = (23, 0, 0, 0) := by decide +kernel
theorem fx_64_33 : xins 64 33 = (12, 243, 2, 5) := by decide +kernel
theorem fx_64_36 : xins 64 36 = (1, 1, 1, 0) := by decide +kernel
theorem fx_64_37 : xins 64 37 = (7, 0, 0, 0) := by decide +kernel
theorem fx_64_38 : xins 64 38 = (13, 243, 2, 5) := by decide +kernel
theorem fx_64_41 : xins 64 41 = (6, 1, 2, 0) := by decide +kernel
theorem fx_64_44 : xins 64 44 = (11, 0, 0, 7) := by decide +kernel
theorem fx_64_47 : xins 64 47 = (30, 0, 0, 0) := by decide +kernel
theorem xq_65 : xnth xprog 65 [] = xk_65 := rfl
theorem fx_65_0 : xins 65 0 = (3, 0, 1, 1) := by decide +kernel
theorem fx_65_1 : xins 65 1 = (28, 534, 30, 1) := by decide +kernel
theorem fx_65_4 : xins 65 4 = (4, 0, 2, 1) := by decide +kernel
theorem fx_65_5 : xins 65 5 = (2, 0, 2, 1) := by decide +kernel
theorem fx_65_6 : xins 65 6 = (4, 0, 3, 1) := by decide +kernel
theorem fx_65_7 : xins 65 7 = (2, 0, 3, 1) := by decide +kernel
theorem fx_65_8 : xins 65 8 = (9, 0, 2, 108) := by decide +kernel
theorem fx_65_11 : xins 65 11 = (2, 0, 3, 1) := by decide +kernel
theorem fx_65_12 : xins 65 12 = (28, 535, 31, 1) := by decide +kernel
theorem fx_65_15 : xins 65 15 = (4, 0, 4, 2) := by decide +kernel
theorem fx_65_17 : xins 65 17 = (2, 0, 3, 1) := by decide +kernel
theorem fx_65_18 : xins 65 18 = (2, 0, 2, 1) := by decide +kernel
theorem fx_65_19 : xins 65 19 = (1, (-1), 1, 0) := by decide +kernel
theorem fx_65_20 : xins 65 20 = (7, 0, 7, 0) := by decide +kernel
theorem fx_65_21 : xins 65 21 = (7, 0, 5, 0) := by decide +kernel
theorem fx_65_22 : xins 65 22 = (9, 0, 1, 102) := by decide +kernel
theorem fx_65_25 : xins 65 25 = (2, 0, 4, 2) := by decide +kernel
theorem fx_65_27 : xins 65 27 = (3, 0, 0, 1) := by decide +kernel
theorem fx_65_28 : xins 65 28 = (12, 243, 2, 5) := by decide +kernel
theorem fx_65_31 : xins 65 31 = (10, 0, 4, 102) := by decide +kernel
theorem fx_65_34 : xins 65 34 = (3, 0, 0, 1) := by decide +kernel
theorem fx_65_35 : xins 65 35 = (12, 238, 2, 1) := by decide +kernel
theorem fx_65_38 : xins 65 38 = (2, 0, 3, 1) := by decide +kernel
theorem fx_65_39 : xins 65 39 = (2, 0, 4, 2) := by decide +kernel
theorem fx_65_41 : xins 65 41 = (3, 0, 0, 1) := by decide +kernel
theorem fx_65_42 : xins 65 42 = (12, 243, 2, 5) := by decide +kernel
theorem fx_65_45 : xins 65 45 = (10, 0, 1, 52) := by decide +kernel
theorem fx_65_48 : xins 65 48 = (1, 0, 1, 0) := by decide +kernel
theorem fx_65_49 : xins 65 49 = (11, 0, 0, 54) := by decide +kernel
theorem fx_65_52 : xins 65 52 = (1, 268435456, 2, 536) := by decide +kernel
theorem fx_65_54 : xins 65 54 = (15, 0, 0, 0) := by decide +kernel
theorem fx_65_55 : xins 65 55 = (3, 0, 0, 1) := by decide +kernel
theorem fx_65_56 : xins 65 56 = (12, 239, 2, 2) := by decide +kernel
theorem fx_65_59 : xins 65 59 = (2, 0, 3, 1) := by decide +kernel
theorem fx_65_60 : xins 65 60 = (2, 0, 4, 2) := by decide +kernel
theorem fx_65_62 : xins 65 62 = (3, 0, 0, 1) := by decide +kernel
theorem fx_65_63 : xins 65 63 = (12, 243, 2, 5) := by decide +kernel
theorem fx_65_66 : xins 65 66 = (10, 0, 1, 73) := by decide +kernel
theorem fx_65_69 : xins 65 69 = (1, 1, 1, 0) := by decide +kernel
theorem fx_65_70 : xins 65 70 = (11, 0, 0, 74) := by decide +kernel
theorem fx_65_73 : xins 65 73 = (1, 0, 1, 0) := by decide +kernel
theorem fx_65_74 : xins 65 74 = (15, 0, 0, 0) := by decide +kernel
theorem fx_65_75 : xins 65 75 = (2, 0, 4, 2) := by decide +kernel
theorem fx_65_77 : xins 65 77 = (3, 0, 0, 1) := by decide +kernel
theorem fx_65_78 : xins 65 78 = (12, 243, 2, 5) := by decide +kernel
theorem fx_65_81 : xins 65 81 = (10, 0, 3, 102) := by decide +kernel
theorem fx_65_84 : xins 65 84 = (3, 0, 0, 1) := by decide +kernel
theorem fx_65_85 : xins 65 85 = (3, 0, 1, 1) := by decide +kernel
theorem fx_65_86 : xins 65 86 = (2, 0, 3, 1) := by decide +kernel
theorem fx_65_87 : xins 65 87 = (2, 0, 2, 1) := by decide +kernel
theorem fx_65_88 : xins 65 88 = (2, 0, 3, 1) := by decide +kernel
theorem fx_65_89 : xins 65 89 = (1, (-1), 1, 0) := by decide +kernel
theorem fx_65_90 : xins 65 90 = (7, 0, 7, 0) := by decide +kernel
theorem fx_65_91 : xins 65 91 = (7, 0, 5, 0) := by decide +kernel
theorem fx_65_92 : xins 65 92 = (3, 0, 0, 1) := by decide +kernel
theorem fx_65_93 : xins 65 93 = (12, 240, 2, 3) := by decide +kernel
theorem fx_65_96 : xins 65 96 = (2, 0, 4, 2) := by decide +kernel
theorem fx_65_98 : xins 65 98 = (14, 0, 0, 0) := by decide +kernel
theorem fx_65_99 : xins 65 99 = (28, 537, 66, 5) := by decide +kernel
theorem fx_65_102 : xins 65 102 = (6, (-1), 3, 0) := by decide +kernel
theorem fx_65_105 : xins 65 105 = (11, 0, 0, 7) := by decide +kernel
theorem fx_65_108 : xins 65 108 = (30, 0, 0, 0) := by decide +kernel
theorem xq_66 : xnth xprog 66 [] = xk_66 := rfl
theorem fx_66_0 : xins 66 0 = (3, 0, 1, 1) := by decide +kernel
theorem fx_66_1 : xins 66 1 = (2, 0, 4, 2) := by decide +kernel
theorem fx_66_3 : xins 66 3 = (1, 2, 1, 0) := by decide +kernel
theorem fx_66_4 : xins 66 4 = (7, 0, 3, 0) := by decide +kernel
theorem fx_66_5 : xins 66 5 = (28, 541, 60, 2) := by decide +kernel
theorem fx_66_8 : xins 66 8 = (9, 0, 1, 22) := by decide +kernel
theorem fx_66_11 : xins 66 11 = (3, 0, 0, 1) := by decide +kernel
theorem fx_66_12 : xins 66 12 = (2, 0, 2, 1) := by decide +kernel
theorem fx_66_13 : xins 66 13 = (2, 0, 3, 1) := by decide +kernel
theorem fx_66_14 : xins 66 14 = (2, 0, 4, 2) := by decide +kernel
theorem fx_66_16 : xins 66 16 = (28, 542, 67, 4) := by decide +kernel
theorem fx_66_19 : xins 66 19 = (11, 0, 0, 39) := by decide +kernel
theorem fx_66_22 : xins 66 22 = (2, 0, 4, 2) := by decide +kernel
theorem fx_66_24 : xins 66 24 = (1, 2, 1, 0) := by decide +kernel
theorem fx_66_25 : xins 66 25 = (7, 0, 4, 0) := by decide +kernel
theorem fx_66_26 : xins 66 26 = (9, 0, 1, 39) := by decide +kernel
theorem fx_66_29 : xins 66 29 = (3, 0, 0, 1) := by decide +kernel
theorem fx_66_30 : xins 66 30 = (2, 0, 2, 1) := by decide +kernel
theorem fx_66_31 : xins 66 31 = (2, 0, 3, 1) := by decide +kernel
theorem fx_66_32 : xins 66 32 = (2, 0, 4, 2) := by decide +kernel
theorem fx_66_34 : xins 66 34 = (1, 2, 1, 0) := by decide +kernel
theorem fx_66_35 : xins 66 35 = (7, 0, 3, 0) := by decide +kernel
theorem fx_66_36 : xins 66 36 = (28, 551, 69, 4) := by decide +kernel
theorem fx_66_39 : xins 66 39 = (30, 0, 0, 0) := by decide +kernel
theorem xq_67 : xnth xprog 67 [] = xk_67 := rfl
theorem fx_67_0 : xins 67 0 = (1, 0, 1, 0) := by decide +kernel
theorem fx_67_1 : xins 67 1 = (4, 0, 4, 2) := by decide +kernel
theorem fx_67_3 : xins 67 3 = (2, 0, 4, 2) := by decide +kernel
theorem fx_67_5 : xins 67 5 = (1, 12, 2, 0) := by decide +kernel
theorem fx_67_7 : xins 67 7 = (10, 0, 3, 62) := by decide +kernel
theorem fx_67_10 : xins 67 10 = (2, 0, 2, 1) := by decide +kernel
theorem fx_67_11 : xins 67 11 = (2, 0, 4, 2) := by decide +kernel
theorem fx_67_13 : xins 67 13 = (7, 0, 9, 0) := by decide +kernel
theorem fx_67_14 : xins 67 14 = (1, 1, 1, 0) := by decide +kernel
theorem fx_67_15 : xins 67 15 = (7, 0, 5, 0) := by decide +kernel
theorem fx_67_16 : xins 67 16 = (1, 1, 1, 0) := by decide +kernel
theorem fx_67_17 : xins 67 17 = (10, 0, 1, 56) := by decide +kernel
theorem fx_67_20 : xins 67 20 = (3, 0, 0, 1) := by decide +kernel
theorem fx_67_21 : xins 67 21 = (12, 237, 2, 0) := by decide +kernel
theorem fx_67_24 : xins 67 24 = (2, 0, 3, 1) := by decide +kernel
theorem fx_67_25 : xins 67 25 = (2, 0, 4, 2) := by decide +kernel
theorem fx_67_27 : xins 67 27 = (28, 546, 62, 3) := by decide +kernel
theorem fx_67_30 : xins 67 30 = (1, 268435456, 2, 536) := by decide +kernel
theorem fx_67_32 : xins 67 32 = (10, 0, 0, 56) := by decide +kernel
theorem fx_67_35 : xins 67 35 = (3, 0, 0, 1) := by decide +kernel
theorem fx_67_36 : xins 67 36 = (2, 0, 1, 1) := by decide +kernel
theorem fx_67_37 : xins 67 37 = (2, 0, 1, 1) := by decide +kernel
theorem fx_67_38 : xins 67 38 = (1, 1, 1, 0) := by decide +kernel
theorem fx_67_39 : xins 67 39 = (2, 0, 4, 2) := by decide +kernel
theorem fx_67_41 : xins 67 41 = (7, 0, 8, 0) := by decide +kernel
theorem fx_67_42 : xins 67 42 = (7, 0, 6, 0) := by decide +kernel
theorem fx_67_43 : xins 67 43 = (3, 0, 0, 1) := by decide +kernel
theorem fx_67_44 : xins 67 44 = (12, 237, 2, 0) := by decide +kernel
theorem fx_67_47 : xins 67 47 = (2, 0, 3, 1) := by decide +kernel
theorem fx_67_48 : xins 67 48 = (2, 0, 4, 2) := by decide +kernel
theorem fx_67_50 : xins 67 50 = (28, 546, 62, 3) := by decide +kernel
theorem fx_67_53 : xins 67 53 = (28, 547, 68, 4) := by decide +kernel
theorem fx_67_56 : xins 67 56 = (6, 1, 4, 0) := by decide +kernel
theorem fx_67_59 : xins 67 59 = (11, 0, 0, 3) := by decide +kernel
theorem fx_67_62 : xins 67 62 = (30, 0, 0, 0) := by decide +kernel
theorem xq_68 : xnth xprog 68 [] = xk_68 := rfl
theorem fx_68_0 : xins 68 0 = (3, 0, 0, 1) := by decide +kernel
theorem fx_68_1 : xins 68 1 = (12, 238, 2, 1) := by decide +kernel
theorem fx_68_4 : xins 68 4 = (2, 0, 2, 1) := by decide +kernel
theorem fx_68_5 : xins 68 5 = (14, 0, 0, 0) := by decide +kernel
theorem fx_68_6 : xins 68 6 = (1, 268435456, 2, 536) := by decide +kernel
theorem fx_68_8 : xins 68 8 = (10, 0, 1, 12) := by decide +kernel
theorem fx_68_11 : xins 68 11 = (30, 0, 0, 0) := by decide +kernel
theorem fx_68_12 : xins 68 12 = (2, 0, 3, 1) := by decide +kernel
theorem fx_68_13 : xins 68 13 = (3, 0, 0, 1) := by decide +kernel
theorem fx_68_14 : xins 68 14 = (12, 238, 2, 1) := by decide +kernel
theorem fx_68_17 : xins 68 17 = (2, 0, 2, 1) := by decide +kernel
theorem fx_68_18 : xins 68 18 = (14, 0, 0, 0) := by decide +kernel
theorem fx_68_19 : xins 68 19 = (7, 0, 0, 0) := by decide +kernel
theorem fx_68_20 : xins 68 20 = (4, 0, 4, 2) := by decide +kernel
theorem fx_68_22 : xins 68 22 = (2, 0, 4, 2) := by decide +kernel
theorem fx_68_24 : xins 68 24 = (3, 0, 0, 1) := by decide +kernel
theorem fx_68_25 : xins 68 25 = (12, 238, 2, 1) := by decide +kernel
theorem fx_68_28 : xins 68 28 = (2, 0, 1, 1) := by decide +kernel
theorem fx_68_29 : xins 68 29 = (14, 0, 0, 0) := by decide +kernel
theorem fx_68_30 : xins 68 30 = (10, 0, 3, 48) := by decide +kernel
theorem fx_68_33 : xins 68 33 = (3, 0, 0, 1) := by decide +kernel
theorem fx_68_34 : xins 68 34 = (12, 238, 2, 1) := by decide +kernel
theorem fx_68_37 : xins 68 37 = (2, 0, 1, 1) := by decide +kernel
theorem fx_68_38 : xins 68 38 = (2, 0, 4, 2) := by decide +kernel
theorem fx_68_40 : xins 68 40 = (15, 0, 0, 0) := by decide +kernel
theorem fx_68_41 : xins 68 41 = (3, 0, 0, 1) := by decide +kernel
theorem fx_68_42 : xins 68 42 = (12, 239, 2, 2) := by decide +kernel
theorem fx_68_45 : xins 68 45 = (2, 0, 1, 1) := by decide +kernel
theorem fx_68_46 : xins 68 46 = (1, 0, 1, 0) := by decide +kernel
theorem fx_68_47 : xins 68 47 = (15, 0, 0, 0) := by decide +kernel
theorem fx_68_48 : xins 68 48 = (2, 0, 4, 2) := by decide +kernel
theorem fx_68_50 : xins 68 50 = (3, 0, 0, 1) := by decide +kernel
theorem fx_68_51 : xins 68 51 = (12, 238, 2, 1) := by decide +kernel
theorem fx_68_54 : xins 68 54 = (2, 0, 1, 1) := by decide +kernel
theorem fx_68_55 : xins 68 55 = (14, 0, 0, 0) := by decide +kernel
theorem fx_68_56 : xins 68 56 = (10, 0, 1, 74) := by decide +kernel
theorem fx_68_59 : xins 68 59 = (3, 0, 0, 1) := by decide +kernel
theorem fx_68_60 : xins 68 60 = (12, 239, 2, 2) := by decide +kernel
theorem fx_68_63 : xins 68 63 = (2, 0, 1, 1) := by decide +kernel
theorem fx_68_64 : xins 68 64 = (25, 0, 0, 0) := by decide +kernel
theorem fx_68_65 : xins 68 65 = (14, 0, 0, 0) := by decide +kernel
theorem fx_68_66 : xins 68 66 = (3, 0, 0, 1) := by decide +kernel
theorem fx_68_67 : xins 68 67 = (12, 239, 2, 2) := by decide +kernel
theorem fx_68_70 : xins 68 70 = (2, 0, 2, 1) := by decide +kernel
theorem fx_68_71 : xins 68 71 = (14, 0, 0, 0) := by decide +kernel
theorem fx_68_72 : xins 68 72 = (7, 0, 0, 0) := by decide +kernel
theorem fx_68_73 : xins 68 73 = (15, 0, 0, 0) := by decide +kernel
theorem fx_68_74 : xins 68 74 = (30, 0, 0, 0) := by decide +kernel
theorem xq_69 : xnth xprog 69 [] = xk_69 := rfl
theorem fx_69_0 : xins 69 0 = (1, 0, 1, 0) := by decide +kernel
theorem fx_69_1 : xins 69 1 = (4, 0, 4, 2) := by decide +kernel
theorem fx_69_3 : xins 69 3 = (2, 0, 4, 2) := by decide +kernel
theorem fx_69_5 : xins 69 5 = (1, 12, 2, 0) := by decide +kernel
theorem fx_69_7 : xins 69 7 = (10, 0, 3, 97) := by decide +kernel
theorem fx_69_10 : xins 69 10 = (1, 0, 1, 0) := by decide +kernel
theorem fx_69_11 : xins 69 11 = (4, 0, 5, 2) := by decide +kernel
theorem fx_69_13 : xins 69 13 = (2, 0, 5, 2) := by decide +kernel
theorem fx_69_15 : xins 69 15 = (1, 12, 2, 0) := by decide +kernel
theorem fx_69_17 : xins 69 17 = (10, 0, 3, 91) := by decide +kernel
theorem fx_69_20 : xins 69 20 = (2, 0, 2, 1) := by decide +kernel
theorem fx_69_21 : xins 69 21 = (2, 0, 4, 2) := by decide +kernel
theorem fx_69_23 : xins 69 23 = (7, 0, 9, 0) := by decide +kernel
theorem fx_69_24 : xins 69 24 = (1, 1, 1, 0) := by decide +kernel
theorem fx_69_25 : xins 69 25 = (7, 0, 5, 0) := by decide +kernel
theorem fx_69_26 : xins 69 26 = (1, 1, 1, 0) := by decide +kernel
theorem fx_69_27 : xins 69 27 = (10, 0, 1, 91) := by decide +kernel
theorem fx_69_30 : xins 69 30 = (2, 0, 2, 1) := by decide +kernel
theorem fx_69_31 : xins 69 31 = (2, 0, 5, 2) := by decide +kernel
theorem fx_69_33 : xins 69 33 = (7, 0, 9, 0) := by decide +kernel
theorem fx_69_34 : xins 69 34 = (1, 1, 1, 0) := by decide +kernel
theorem fx_69_35 : xins 69 35 = (7, 0, 5, 0) := by decide +kernel
theorem fx_69_36 : xins 69 36 = (1, 1, 1, 0) := by decide +kernel
theorem fx_69_37 : xins 69 37 = (10, 0, 1, 85) := by decide +kernel
theorem fx_69_40 : xins 69 40 = (3, 0, 0, 1) := by decide +kernel
theorem fx_69_41 : xins 69 41 = (12, 237, 2, 0) := by decide +kernel
theorem fx_69_44 : xins 69 44 = (2, 0, 3, 1) := by decide +kernel
theorem fx_69_45 : xins 69 45 = (2, 0, 4, 2) := by decide +kernel
theorem fx_69_47 : xins 69 47 = (2, 0, 5, 2) := by decide +kernel
theorem fx_69_49 : xins 69 49 = (28, 555, 70, 4) := by decide +kernel
theorem fx_69_52 : xins 69 52 = (1, 268435456, 2, 536) := by decide +kernel
theorem fx_69_54 : xins 69 54 = (10, 0, 0, 85) := by decide +kernel
theorem fx_69_57 : xins 69 57 = (3, 0, 0, 1) := by decide +kernel
theorem fx_69_58 : xins 69 58 = (2, 0, 1, 1) := by decide +kernel
theorem fx_69_59 : xins 69 59 = (2, 0, 1, 1) := by decide +kernel
theorem fx_69_60 : xins 69 60 = (1, 1, 1, 0) := by decide +kernel
theorem fx_69_61 : xins 69 61 = (2, 0, 4, 2) := by decide +kernel
theorem fx_69_63 : xins 69 63 = (7, 0, 8, 0) := by decide +kernel
theorem fx_69_64 : xins 69 64 = (7, 0, 6, 0) := by decide +kernel
theorem fx_69_65 : xins 69 65 = (1, 1, 1, 0) := by decide +kernel
theorem fx_69_66 : xins 69 66 = (2, 0, 5, 2) := by decide +kernel
theorem fx_69_68 : xins 69 68 = (7, 0, 8, 0) := by decide +kernel
theorem fx_69_69 : xins 69 69 = (7, 0, 6, 0) := by decide +kernel
theorem fx_69_70 : xins 69 70 = (3, 0, 0, 1) := by decide +kernel
theorem fx_69_71 : xins 69 71 = (12, 237, 2, 0) := by decide +kernel
theorem fx_69_74 : xins 69 74 = (2, 0, 3, 1) := by decide +kernel
theorem fx_69_75 : xins 69 75 = (2, 0, 4, 2) := by decide +kernel
theorem fx_69_77 : xins 69 77 = (2, 0, 5, 2) := by decide +kernel
theorem fx_69_79 : xins 69 79 = (28, 555, 70, 4) := by decide +kernel
theorem fx_69_82 : xins 69 82 = (28, 547, 68, 4) := by decide +kernel
theorem fx_69_85 : xins 69 85 = (6, 1, 5, 0) := by decide +kernel
theorem fx_69_88 : xins 69 88 = (11, 0, 0, 13) := by decide +kernel
theorem fx_69_91 : xins 69 91 = (6, 1, 4, 0) := by decide +kernel
theorem fx_69_94 : xins 69 94 = (11, 0, 0, 3) := by decide +kernel
theorem fx_69_97 : xins 69 97 = (30, 0, 0, 0) := by decide +kernel
theorem xq_70 : xnth xprog 70 [] = xk_70 := rfl
theorem fx_70_0 : xins 70 0 = (3, 0, 0, 1) := by decide +kernel
theorem fx_70_1 : xins 70 1 = (12, 231, 0, 1) := by decide +kernel
theorem fx_70_4 : xins 70 4 = (2, 0, 1, 1) := by decide +kernel
theorem fx_70_5 : xins 70 5 = (1, 12, 2, 0) := by decide +kernel
theorem fx_70_7 : xins 70 7 = (7, 0, 2, 0) := by decide +kernel
theorem fx_70_8 : xins 70 8 = (2, 0, 2, 1) := by decide +kernel
theorem fx_70_9 : xins 70 9 = (7, 0, 0, 0) := by decide +kernel
theorem fx_70_10 : xins 70 10 = (1, 12, 2, 0) := by decide +kernel
theorem fx_70_12 : xins 70 12 = (7, 0, 2, 0) := by decide +kernel
theorem fx_70_13 : xins 70 13 = (2, 0, 3, 1) := by decide +kernel
theorem fx_70_14 : xins 70 14 = (7, 0, 0, 0) := by decide +kernel
theorem fx_70_15 : xins 70 15 = (14, 0, 0, 0) := by decide +kernel
theorem fx_70_16 : xins 70 16 = (29, 0, 0, 0) := by decide +kernel
theorem xq_71 : xnth xprog 71 [] = xk_71 := rfl
theorem fx_71_0 : xins 71 0 = (3, 0, 0, 1) := by decide +kernel
theorem fx_71_1 : xins 71 1 = (12, 244, 2, 6) := by decide +kernel
theorem fx_71_4 : xins 71 4 = (1, 268435456, 2, 536) := by decide +kernel
theorem fx_71_6 : xins 71 6 = (10, 0, 3, 13) := by decide +kernel
theorem fx_71_9 : xins 71 9 = (1, 1, 1, 0) := by decide +kernel
theorem fx_71_10 : xins 71 10 = (11, 0, 0, 14) := by decide +kernel
theorem fx_71_13 : xins 71 13 = (1, 0, 1, 0) := by decide +kernel
theorem fx_71_14 : xins 71 14 = (29, 0, 0, 0) := by decide +kernel
theorem xq_72 : xnth xprog 72 [] = xk_72 := rfl
theorem fx_72_0 : xins 72 0 = (1, 0, 1, 0) := by decide +kernel
theorem fx_72_1 : xins 72 1 = (4, 0, 2, 1) := by decide +kernel
theorem fx_72_2 : xins 72 2 = (1, 0, 1, 0) := by decide +kernel
theorem fx_72_3 : xins 72 3 = (4, 0, 3, 1) := by decide +kernel
theorem fx_72_4 : xins 72 4 = (2, 0, 3, 1) := by decide +kernel
theorem fx_72_5 : xins 72 5 = (1, 8, 2, 0) := by decide +kernel
theorem fx_72_7 : xins 72 7 = (10, 0, 3, 63) := by decide +kernel
theorem fx_72_10 : xins 72 10 = (3, 0, 1, 1) := by decide +kernel
theorem fx_72_11 : xins 72 11 = (2, 0, 3, 1) := by decide +kernel
theorem fx_72_12 : xins 72 12 = (1, 2, 1, 0) := by decide +kernel
theorem fx_72_13 : xins 72 13 = (7, 0, 3, 0) := by decide +kernel
theorem fx_72_14 : xins 72 14 = (28, 541, 60, 2) := by decide +kernel
theorem fx_72_17 : xins 72 17 = (9, 0, 0, 42) := by decide +kernel
theorem fx_72_20 : xins 72 20 = (2, 0, 3, 1) := by decide +kernel
theorem fx_72_21 : xins 72 21 = (1, 2, 1, 0) := by decide +kernel
theorem fx_72_22 : xins 72 22 = (7, 0, 4, 0) := by decide +kernel
theorem fx_72_23 : xins 72 23 = (9, 0, 1, 37) := by decide +kernel
theorem fx_72_26 : xins 72 26 = (3, 0, 0, 1) := by decide +kernel
theorem fx_72_27 : xins 72 27 = (2, 0, 2, 1) := by decide +kernel
theorem fx_72_28 : xins 72 28 = (2, 0, 3, 1) := by decide +kernel
theorem fx_72_29 : xins 72 29 = (1, 2, 1, 0) := by decide +kernel
theorem fx_72_30 : xins 72 30 = (7, 0, 3, 0) := by decide +kernel
theorem fx_72_31 : xins 72 31 = (28, 568, 73, 3) := by decide +kernel
theorem fx_72_34 : xins 72 34 = (11, 0, 0, 38) := by decide +kernel
theorem fx_72_37 : xins 72 37 = (2, 0, 2, 1) := by decide +kernel
theorem fx_72_38 : xins 72 38 = (4, 0, 2, 1) := by decide +kernel
theorem fx_72_39 : xins 72 39 = (11, 0, 0, 57) := by decide +kernel
theorem fx_72_42 : xins 72 42 = (3, 0, 1, 1) := by decide +kernel
theorem fx_72_43 : xins 72 43 = (2, 0, 3, 1) := by decide +kernel
theorem fx_72_44 : xins 72 44 = (28, 529, 33, 2) := by decide +kernel
theorem fx_72_47 : xins 72 47 = (9, 0, 0, 57) := by decide +kernel
theorem fx_72_50 : xins 72 50 = (3, 0, 0, 1) := by decide +kernel
theorem fx_72_51 : xins 72 51 = (2, 0, 2, 1) := by decide +kernel
theorem fx_72_52 : xins 72 52 = (2, 0, 3, 1) := by decide +kernel
theorem fx_72_53 : xins 72 53 = (28, 576, 75, 3) := by decide +kernel
theorem fx_72_56 : xins 72 56 = (4, 0, 2, 1) := by decide +kernel
theorem fx_72_57 : xins 72 57 = (6, 1, 3, 0) := by decide +kernel
theorem fx_72_60 : xins 72 60 = (11, 0, 0, 4) := by decide +kernel
theorem fx_72_63 : xins 72 63 = (30, 0, 0, 0) := by decide +kernel
theorem xq_73 : xnth xprog 73 [] = xk_73 := rfl
theorem fx_73_0 : xins 73 0 = (1, 0, 1, 0) := by decide +kernel
theorem fx_73_1 : xins 73 1 = (4, 0, 3, 1) := by decide +kernel
theorem fx_73_2 : xins 73 2 = (2, 0, 3, 1) := by decide +kernel
theorem fx_73_3 : xins 73 3 = (1, 12, 2, 0) := by decide +kernel
theorem fx_73_5 : xins 73 5 = (10, 0, 3, 96) := by decide +kernel
theorem fx_73_8 : xins 73 8 = (1, 0, 1, 0) := by decide +kernel
theorem fx_73_9 : xins 73 9 = (4, 0, 4, 2) := by decide +kernel
theorem fx_73_11 : xins 73 11 = (2, 0, 4, 2) := by decide +kernel
theorem fx_73_13 : xins 73 13 = (1, 12, 2, 0) := by decide +kernel
theorem fx_73_15 : xins 73 15 = (10, 0, 3, 90) := by decide +kernel
theorem fx_73_18 : xins 73 18 = (1, 1, 1, 0) := by decide +kernel
theorem fx_73_19 : xins 73 19 = (2, 0, 3, 1) := by decide +kernel
theorem fx_73_20 : xins 73 20 = (7, 0, 8, 0) := by decide +kernel
theorem fx_73_21 : xins 73 21 = (1, 1, 1, 0) := by decide +kernel
theorem fx_73_22 : xins 73 22 = (2, 0, 4, 2) := by decide +kernel
theorem fx_73_24 : xins 73 24 = (7, 0, 8, 0) := by decide +kernel
theorem fx_73_25 : xins 73 25 = (7, 0, 6, 0) := by decide +kernel
theorem fx_73_26 : xins 73 26 = (4, 0, 5, 2) := by decide +kernel
theorem fx_73_28 : xins 73 28 = (2, 0, 1, 1) := by decide +kernel
theorem fx_73_29 : xins 73 29 = (2, 0, 5, 2) := by decide +kernel
theorem fx_73_31 : xins 73 31 = (7, 0, 5, 0) := by decide +kernel
theorem fx_73_32 : xins 73 32 = (9, 0, 1, 84) := by decide +kernel
theorem fx_73_35 : xins 73 35 = (3, 0, 0, 1) := by decide +kernel
theorem fx_73_36 : xins 73 36 = (2, 0, 1, 1) := by decide +kernel
theorem fx_73_37 : xins 73 37 = (2, 0, 1, 1) := by decide +kernel
theorem fx_73_38 : xins 73 38 = (2, 0, 5, 2) := by decide +kernel
theorem fx_73_40 : xins 73 40 = (7, 0, 6, 0) := by decide +kernel
theorem fx_73_41 : xins 73 41 = (3, 0, 0, 1) := by decide +kernel
theorem fx_73_42 : xins 73 42 = (12, 237, 2, 0) := by decide +kernel
theorem fx_73_45 : xins 73 45 = (2, 0, 2, 1) := by decide +kernel
theorem fx_73_46 : xins 73 46 = (2, 0, 3, 1) := by decide +kernel
theorem fx_73_47 : xins 73 47 = (2, 0, 4, 2) := by decide +kernel
theorem fx_73_49 : xins 73 49 = (28, 555, 70, 4) := by decide +kernel
theorem fx_73_52 : xins 73 52 = (28, 572, 74, 4) := by decide +kernel
theorem fx_73_55 : xins 73 55 = (9, 0, 0, 84) := by decide +kernel
theorem fx_73_58 : xins 73 58 = (3, 0, 0, 1) := by decide +kernel
theorem fx_73_59 : xins 73 59 = (12, 241, 2, 4) := by decide +kernel
theorem fx_73_62 : xins 73 62 = (1, 2, 1, 0) := by decide +kernel
theorem fx_73_63 : xins 73 63 = (2, 0, 2, 1) := by decide +kernel
theorem fx_73_64 : xins 73 64 = (7, 0, 2, 0) := by decide +kernel
theorem fx_73_65 : xins 73 65 = (2, 0, 3, 1) := by decide +kernel
theorem fx_73_66 : xins 73 66 = (15, 0, 0, 0) := by decide +kernel
theorem fx_73_67 : xins 73 67 = (3, 0, 0, 1) := by decide +kernel
theorem fx_73_68 : xins 73 68 = (12, 241, 2, 4) := by decide +kernel
theorem fx_73_71 : xins 73 71 = (1, 2, 1, 0) := by decide +kernel
theorem fx_73_72 : xins 73 72 = (2, 0, 2, 1) := by decide +kernel
theorem fx_73_73 : xins 73 73 = (7, 0, 2, 0) := by decide +kernel
theorem fx_73_74 : xins 73 74 = (1, 1, 1, 0) := by decide +kernel
theorem fx_73_75 : xins 73 75 = (7, 0, 0, 0) := by decide +kernel
theorem fx_73_76 : xins 73 76 = (2, 0, 4, 2) := by decide +kernel
theorem fx_73_78 : xins 73 78 = (15, 0, 0, 0) := by decide +kernel
theorem fx_73_79 : xins 73 79 = (2, 0, 1, 1) := by decide +kernel
theorem fx_73_80 : xins 73 80 = (2, 0, 5, 2) := by decide +kernel
theorem fx_73_82 : xins 73 82 = (7, 0, 6, 0) := by decide +kernel
theorem fx_73_83 : xins 73 83 = (29, 0, 0, 0) := by decide +kernel
theorem fx_73_84 : xins 73 84 = (6, 1, 4, 0) := by decide +kernel
theorem fx_73_87 : xins 73 87 = (11, 0, 0, 11) := by decide +kernel
theorem fx_73_90 : xins 73 90 = (6, 1, 3, 0) := by decide +kernel
theorem fx_73_93 : xins 73 93 = (11, 0, 0, 2) := by decide +kernel
theorem fx_73_96 : xins 73 96 = (2, 0, 1, 1) := by decide +kernel
theorem fx_73_97 : xins 73 97 = (29, 0, 0, 0) := by decide +kernel
theorem xq_74 : xnth xprog 74 [] = xk_74 := rfl
theorem fx_74_0 : xins 74 0 = (2, 0, 3, 1) := by decide +kernel
theorem fx_74_1 : xins 74 1 = (1, 268435456, 2, 536) := by decide +kernel
theorem fx_74_3 : xins 74 3 = (10, 0, 0, 38) := by decide +kernel
theorem fx_74_6 : xins 74 6 = (3, 0, 0, 1) := by decide +kernel
theorem fx_74_7 : xins 74 7 = (12, 238, 2, 1) := by decide +kernel
theorem fx_74_10 : xins 74 10 = (2, 0, 2, 1) := by decide +kernel
theorem fx_74_11 : xins 74 11 = (14, 0, 0, 0) := by decide +kernel
theorem fx_74_12 : xins 74 12 = (1, 268435456, 2, 536) := by decide +kernel
theorem fx_74_14 : xins 74 14 = (10, 0, 0, 38) := by decide +kernel
theorem fx_74_17 : xins 74 17 = (2, 0, 3, 1) := by decide +kernel
theorem fx_74_18 : xins 74 18 = (3, 0, 0, 1) := by decide +kernel
theorem fx_74_19 : xins 74 19 = (12, 238, 2, 1) := by decide +kernel
theorem fx_74_22 : xins 74 22 = (2, 0, 2, 1) := by decide +kernel
theorem fx_74_23 : xins 74 23 = (14, 0, 0, 0) := by decide +kernel
theorem fx_74_24 : xins 74 24 = (7, 0, 0, 0) := by decide +kernel
theorem fx_74_25 : xins 74 25 = (3, 0, 0, 1) := by decide +kernel
theorem fx_74_26 : xins 74 26 = (12, 238, 2, 1) := by decide +kernel
theorem fx_74_29 : xins 74 29 = (2, 0, 1, 1) := by decide +kernel
theorem fx_74_30 : xins 74 30 = (14, 0, 0, 0) := by decide +kernel
theorem fx_74_31 : xins 74 31 = (10, 0, 1, 38) := by decide +kernel
theorem fx_74_34 : xins 74 34 = (1, 1, 1, 0) := by decide +kernel
theorem fx_74_35 : xins 74 35 = (11, 0, 0, 39) := by decide +kernel
theorem fx_74_38 : xins 74 38 = (1, 0, 1, 0) := by decide +kernel
theorem fx_74_39 : xins 74 39 = (29, 0, 0, 0) := by decide +kernel
theorem xq_75 : xnth xprog 75 [] = xk_75 := rfl
theorem fx_75_0 : xins 75 0 = (1, 0, 1, 0) := by decide +kernel
theorem fx_75_1 : xins 75 1 = (4, 0, 3, 1) := by decide +kernel
theorem fx_75_2 : xins 75 2 = (2, 0, 3, 1) := by decide +kernel
theorem fx_75_3 : xins 75 3 = (1, 12, 2, 0) := by decide +kernel
theorem fx_75_5 : xins 75 5 = (10, 0, 3, 57) := by decide +kernel
theorem fx_75_8 : xins 75 8 = (2, 0, 1, 1) := by decide +kernel
theorem fx_75_9 : xins 75 9 = (2, 0, 3, 1) := by decide +kernel
theorem fx_75_10 : xins 75 10 = (7, 0, 9, 0) := by decide +kernel
theorem fx_75_11 : xins 75 11 = (1, 1, 1, 0) := by decide +kernel
theorem fx_75_12 : xins 75 12 = (7, 0, 5, 0) := by decide +kernel
theorem fx_75_13 : xins 75 13 = (9, 0, 1, 51) := by decide +kernel
theorem fx_75_16 : xins 75 16 = (3, 0, 0, 1) := by decide +kernel
theorem fx_75_17 : xins 75 17 = (2, 0, 1, 1) := by decide +kernel
theorem fx_75_18 : xins 75 18 = (2, 0, 1, 1) := by decide +kernel
theorem fx_75_19 : xins 75 19 = (1, 1, 1, 0) := by decide +kernel
theorem fx_75_20 : xins 75 20 = (2, 0, 3, 1) := by decide +kernel
theorem fx_75_21 : xins 75 21 = (7, 0, 8, 0) := by decide +kernel
theorem fx_75_22 : xins 75 22 = (7, 0, 6, 0) := by decide +kernel
theorem fx_75_23 : xins 75 23 = (3, 0, 0, 1) := by decide +kernel
theorem fx_75_24 : xins 75 24 = (12, 237, 2, 0) := by decide +kernel
theorem fx_75_27 : xins 75 27 = (2, 0, 2, 1) := by decide +kernel
theorem fx_75_28 : xins 75 28 = (2, 0, 3, 1) := by decide +kernel
theorem fx_75_29 : xins 75 29 = (28, 546, 62, 3) := by decide +kernel
theorem fx_75_32 : xins 75 32 = (28, 572, 74, 4) := by decide +kernel
theorem fx_75_35 : xins 75 35 = (9, 0, 0, 51) := by decide +kernel
theorem fx_75_38 : xins 75 38 = (3, 0, 0, 1) := by decide +kernel
theorem fx_75_39 : xins 75 39 = (12, 241, 2, 4) := by decide +kernel
theorem fx_75_42 : xins 75 42 = (2, 0, 2, 1) := by decide +kernel
theorem fx_75_43 : xins 75 43 = (2, 0, 3, 1) := by decide +kernel
theorem fx_75_44 : xins 75 44 = (15, 0, 0, 0) := by decide +kernel
theorem fx_75_45 : xins 75 45 = (2, 0, 1, 1) := by decide +kernel
theorem fx_75_46 : xins 75 46 = (1, 1, 1, 0) := by decide +kernel
theorem fx_75_47 : xins 75 47 = (2, 0, 3, 1) := by decide +kernel
theorem fx_75_48 : xins 75 48 = (7, 0, 8, 0) := by decide +kernel
theorem fx_75_49 : xins 75 49 = (7, 0, 6, 0) := by decide +kernel
theorem fx_75_50 : xins 75 50 = (29, 0, 0, 0) := by decide +kernel
theorem fx_75_51 : xins 75 51 = (6, 1, 3, 0) := by decide +kernel
theorem fx_75_54 : xins 75 54 = (11, 0, 0, 2) := by decide +kernel
theorem fx_75_57 : xins 75 57 = (2, 0, 1, 1) := by decide +kernel
theorem fx_75_58 : xins 75 58 = (29, 0, 0, 0) := by decide +kernel
theorem xq_76 : xnth xprog 76 [] = xk_76 := rfl
theorem fx_76_0 : xins 76 0 = (3, 0, 0, 1) := by decide +kernel
theorem fx_76_1 : xins 76 1 = (12, 271, 6, 3) := by decide +kernel
theorem fx_76_4 : xins 76 4 = (3, 0, 0, 1) := by decide +kernel
theorem fx_76_5 : xins 76 5 = (12, 268, 6, 0) := by decide +kernel
theorem fx_76_8 : xins 76 8 = (3, 0, 0, 1) := by decide +kernel
theorem fx_76_9 : xins 76 9 = (12, 270, 6, 2) := by decide +kernel
theorem fx_76_12 : xins 76 12 = (28, 485, 57, 3) := by decide +kernel
theorem fx_76_15 : xins 76 15 = (3, 0, 0, 1) := by decide +kernel
theorem fx_76_16 : xins 76 16 = (12, 271, 6, 3) := by decide +kernel
theorem fx_76_19 : xins 76 19 = (12, 247, 2, 7) := by decide +kernel
theorem fx_76_22 : xins 76 22 = (29, 0, 0, 0) := by decide +kernel
theorem xq_77 : xnth xprog 77 [] = xk_77 := rfl
theorem fx_77_0 : xins 77 0 = (3, 0, 0, 1) := by decide +kernel
theorem fx_77_1 : xins 77 1 = (12, 271, 6, 3) := by decide +kernel
theorem fx_77_4 : xins 77 4 = (3, 0, 0, 1) := by decide +kernel
theorem fx_77_5 : xins 77 5 = (12, 268, 6, 0) := by decide +kernel
theorem fx_77_8 : xins 77 8 = (3, 0, 0, 1) := by decide +kernel
theorem fx_77_9 : xins 77 9 = (12, 270, 6, 2) := by decide +kernel
theorem fx_77_12 : xins 77 12 = (28, 485, 57, 3) := by decide +kernel
theorem fx_77_15 : xins 77 15 = (3, 0, 0, 1) := by decide +kernel
theorem fx_77_16 : xins 77 16 = (12, 271, 6, 3) := by decide +kernel
theorem fx_77_19 : xins 77 19 = (28, 580, 71, 1) := by decide +kernel
theorem fx_77_22 : xins 77 22 = (9, 0, 0, 35) := by decide +kernel
theorem fx_77_25 : xins 77 25 = (3, 0, 0, 1) := by decide +kernel
theorem fx_77_26 : xins 77 26 = (12, 268, 6, 0) := by decide +kernel
theorem fx_77_29 : xins 77 29 = (28, 385, 32, 1) := by decide +kernel
theorem fx_77_32 : xins 77 32 = (9, 0, 1, 37) := by decide +kernel
theorem fx_77_35 : xins 77 35 = (1, (-1), 1, 0) := by decide +kernel
theorem fx_77_36 : xins 77 36 = (29, 0, 0, 0) := by decide +kernel
theorem fx_77_37 : xins 77 37 = (3, 0, 0, 1) := by decide +kernel
theorem fx_77_38 : xins 77 38 = (12, 269, 6, 1) := by decide +kernel
theorem fx_77_41 : xins 77 41 = (3, 0, 0, 1) := by decide +kernel
theorem fx_77_42 : xins 77 42 = (12, 268, 6, 0) := by decide +kernel
theorem fx_77_45 : xins 77 45 = (28, 292, 11, 2) := by decide +kernel
theorem fx_77_48 : xins 77 48 = (3, 0, 0, 1) := by decide +kernel
theorem fx_77_49 : xins 77 49 = (12, 271, 6, 3) := by decide +kernel
theorem fx_77_52 : xins 77 52 = (3, 0, 0, 1) := by decide +kernel
theorem fx_77_53 : xins 77 53 = (12, 268, 6, 0) := by decide +kernel
theorem fx_77_56 : xins 77 56 = (3, 0, 0, 1) := by decide +kernel
theorem fx_77_57 : xins 77 57 = (12, 270, 6, 2) := by decide +kernel
theorem fx_77_60 : xins 77 60 = (28, 589, 78, 3) := by decide +kernel
theorem fx_77_63 : xins 77 63 = (3, 0, 0, 1) := by decide +kernel
theorem fx_77_64 : xins 77 64 = (12, 271, 6, 3) := by decide +kernel
theorem fx_77_67 : xins 77 67 = (28, 310, 15, 1) := by decide +kernel
theorem fx_77_70 : xins 77 70 = (3, 0, 0, 1) := by decide +kernel
theorem fx_77_71 : xins 77 71 = (12, 268, 6, 0) := by decide +kernel
theorem fx_77_74 : xins 77 74 = (12, 162, 4, 7) := by decide +kernel
theorem fx_77_77 : xins 77 77 = (1, 1, 1, 0) := by decide +kernel
theorem fx_77_78 : xins 77 78 = (7, 0, 1, 0) := by decide +kernel
theorem fx_77_79 : xins 77 79 = (29, 0, 0, 0) := by decide +kernel
theorem xq_78 : xnth xprog 78 [] = xk_78 := rfl
theorem fx_78_0 : xins 78 0 = (1, 0, 1, 0) := by decide +kernel
theorem fx_78_1 : xins 78 1 = (4, 0, 3, 1) := by decide +kernel
theorem fx_78_2 : xins 78 2 = (2, 0, 3, 1) := by decide +kernel
theorem fx_78_3 : xins 78 3 = (1, 4, 1, 0) := by decide +kernel
theorem fx_78_4 : xins 78 4 = (10, 0, 3, 51) := by decide +kernel
theorem fx_78_7 : xins 78 7 = (3, 0, 1, 1) := by decide +kernel
theorem fx_78_8 : xins 78 8 = (2, 0, 3, 1) := by decide +kernel
theorem fx_78_9 : xins 78 9 = (28, 541, 60, 2) := by decide +kernel
theorem fx_78_12 : xins 78 12 = (9, 0, 0, 25) := by decide +kernel
theorem fx_78_15 : xins 78 15 = (3, 0, 0, 1) := by decide +kernel
theorem fx_78_16 : xins 78 16 = (3, 0, 1, 1) := by decide +kernel
theorem fx_78_17 : xins 78 17 = (3, 0, 2, 1) := by decide +kernel
theorem fx_78_18 : xins 78 18 = (2, 0, 3, 1) := by decide +kernel
theorem fx_78_19 : xins 78 19 = (28, 593, 79, 4) := by decide +kernel
theorem fx_78_22 : xins 78 22 = (11, 0, 0, 45) := by decide +kernel
theorem fx_78_25 : xins 78 25 = (3, 0, 0, 1) := by decide +kernel
theorem fx_78_26 : xins 78 26 = (3, 0, 1, 1) := by decide +kernel
theorem fx_78_27 : xins 78 27 = (3, 0, 2, 1) := by decide +kernel
theorem fx_78_28 : xins 78 28 = (1, 2, 1, 0) := by decide +kernel
theorem fx_78_29 : xins 78 29 = (2, 0, 3, 1) := by decide +kernel
theorem fx_78_30 : xins 78 30 = (7, 0, 2, 0) := by decide +kernel
theorem fx_78_31 : xins 78 31 = (28, 608, 81, 4) := by decide +kernel
theorem fx_78_34 : xins 78 34 = (3, 0, 0, 1) := by decide +kernel
theorem fx_78_35 : xins 78 35 = (3, 0, 1, 1) := by decide +kernel
theorem fx_78_36 : xins 78 36 = (3, 0, 2, 1) := by decide +kernel
theorem fx_78_37 : xins 78 37 = (1, 2, 1, 0) := by decide +kernel
theorem fx_78_38 : xins 78 38 = (2, 0, 3, 1) := by decide +kernel
theorem fx_78_39 : xins 78 39 = (7, 0, 2, 0) := by decide +kernel
theorem fx_78_40 : xins 78 40 = (1, 1, 1, 0) := by decide +kernel
theorem fx_78_41 : xins 78 41 = (7, 0, 0, 0) := by decide +kernel
theorem fx_78_42 : xins 78 42 = (28, 608, 81, 4) := by decide +kernel
theorem fx_78_45 : xins 78 45 = (6, 1, 3, 0) := by decide +kernel
theorem fx_78_48 : xins 78 48 = (11, 0, 0, 2) := by decide +kernel
theorem fx_78_51 : xins 78 51 = (3, 0, 1, 1) := by decide +kernel
theorem fx_78_52 : xins 78 52 = (12, 145, 4, 1) := by decide +kernel
theorem fx_78_55 : xins 78 55 = (1, (-1), 1, 0) := by decide +kernel
theorem fx_78_56 : xins 78 56 = (28, 559, 3, 2) := by decide +kernel
theorem fx_78_59 : xins 78 59 = (3, 0, 1, 1) := by decide +kernel
theorem fx_78_60 : xins 78 60 = (23, 0, 0, 0) := by decide +kernel
theorem fx_78_61 : xins 78 61 = (12, 163, 4, 7) := by decide +kernel
theorem fx_78_64 : xins 78 64 = (1, 1, 1, 0) := by decide +kernel
theorem fx_78_65 : xins 78 65 = (7, 0, 0, 0) := by decide +kernel
theorem fx_78_66 : xins 78 66 = (13, 163, 4, 7) := by decide +kernel
theorem fx_78_69 : xins 78 69 = (30, 0, 0, 0) := by decide +kernel
theorem xq_79 : xnth xprog 79 [] = xk_79 := rfl
theorem fx_79_0 : xins 79 0 = (3, 0, 0, 1) := by decide +kernel
theorem fx_79_1 : xins 79 1 = (12, 241, 2, 4) := by decide +kernel
theorem fx_79_4 : xins 79 4 = (1, 2, 1, 0) := by decide +kernel
theorem fx_79_5 : xins 79 5 = (2, 0, 3, 1) := by decide +kernel
theorem fx_79_6 : xins 79 6 = (7, 0, 2, 0) := by decide +kernel
theorem fx_79_7 : xins 79 7 = (14, 0, 0, 0) := by decide +kernel
theorem fx_79_8 : xins 79 8 = (4, 0, 4, 2) := by decide +kernel
theorem fx_79_10 : xins 79 10 = (3, 0, 0, 1) := by decide +kernel
theorem fx_79_11 : xins 79 11 = (12, 241, 2, 4) := by decide +kernel
theorem fx_79_14 : xins 79 14 = (1, 2, 1, 0) := by decide +kernel
theorem fx_79_15 : xins 79 15 = (2, 0, 3, 1) := by decide +kernel
theorem fx_79_16 : xins 79 16 = (7, 0, 2, 0) := by decide +kernel
theorem fx_79_17 : xins 79 17 = (1, 1, 1, 0) := by decide +kernel
theorem fx_79_18 : xins 79 18 = (7, 0, 0, 0) := by decide +kernel
theorem fx_79_19 : xins 79 19 = (14, 0, 0, 0) := by decide +kernel
theorem fx_79_20 : xins 79 20 = (4, 0, 5, 2) := by decide +kernel
theorem fx_79_22 : xins 79 22 = (3, 0, 1, 1) := by decide +kernel
theorem fx_79_23 : xins 79 23 = (2, 0, 4, 2) := by decide +kernel
theorem fx_79_25 : xins 79 25 = (28, 597, 18, 2) := by decide +kernel
theorem fx_79_28 : xins 79 28 = (9, 0, 0, 40) := by decide +kernel
theorem fx_79_31 : xins 79 31 = (3, 0, 1, 1) := by decide +kernel
theorem fx_79_32 : xins 79 32 = (2, 0, 5, 2) := by decide +kernel
theorem fx_79_34 : xins 79 34 = (28, 597, 18, 2) := by decide +kernel
theorem fx_79_37 : xins 79 37 = (9, 0, 1, 41) := by decide +kernel
theorem fx_79_40 : xins 79 40 = (30, 0, 0, 0) := by decide +kernel
theorem fx_79_41 : xins 79 41 = (3, 0, 2, 1) := by decide +kernel
theorem fx_79_42 : xins 79 42 = (3, 0, 1, 1) := by decide +kernel
theorem fx_79_43 : xins 79 43 = (2, 0, 4, 2) := by decide +kernel
theorem fx_79_45 : xins 79 45 = (2, 0, 5, 2) := by decide +kernel
theorem fx_79_47 : xins 79 47 = (2, 0, 3, 1) := by decide +kernel
theorem fx_79_48 : xins 79 48 = (28, 598, 44, 5) := by decide +kernel
theorem fx_79_51 : xins 79 51 = (4, 0, 6, 2) := by decide +kernel
theorem fx_79_53 : xins 79 53 = (3, 0, 1, 1) := by decide +kernel
theorem fx_79_54 : xins 79 54 = (12, 140, 4, 0) := by decide +kernel
theorem fx_79_57 : xins 79 57 = (2, 0, 4, 2) := by decide +kernel
theorem fx_79_59 : xins 79 59 = (16, 0, 0, 0) := by decide +kernel
theorem fx_79_60 : xins 79 60 = (2, 0, 6, 2) := by decide +kernel
theorem fx_79_62 : xins 79 62 = (28, 599, 52, 1) := by decide +kernel
theorem fx_79_65 : xins 79 65 = (2, 0, 6, 2) := by decide +kernel
theorem fx_79_67 : xins 79 67 = (28, 600, 53, 1) := by decide +kernel
theorem fx_79_70 : xins 79 70 = (3, 0, 1, 1) := by decide +kernel
theorem fx_79_71 : xins 79 71 = (12, 156, 4, 5) := by decide +kernel
theorem fx_79_74 : xins 79 74 = (28, 601, 26, 4) := by decide +kernel
theorem fx_79_77 : xins 79 77 = (3, 0, 1, 1) := by decide +kernel
theorem fx_79_78 : xins 79 78 = (12, 140, 4, 0) := by decide +kernel
theorem fx_79_81 : xins 79 81 = (2, 0, 5, 2) := by decide +kernel
theorem fx_79_83 : xins 79 83 = (16, 0, 0, 0) := by decide +kernel
theorem fx_79_84 : xins 79 84 = (2, 0, 6, 2) := by decide +kernel
theorem fx_79_86 : xins 79 86 = (28, 602, 54, 1) := by decide +kernel
theorem fx_79_89 : xins 79 89 = (2, 0, 6, 2) := by decide +kernel
theorem fx_79_91 : xins 79 91 = (28, 603, 55, 1) := by decide +kernel
theorem fx_79_94 : xins 79 94 = (3, 0, 1, 1) := by decide +kernel
theorem fx_79_95 : xins 79 95 = (12, 156, 4, 5) := by decide +kernel
theorem fx_79_98 : xins 79 98 = (28, 601, 26, 4) := by decide +kernel
theorem fx_79_101 : xins 79 101 = (3, 0, 1, 1) := by decide +kernel
theorem fx_79_102 : xins 79 102 = (12, 140, 4, 0) := by decide +kernel
theorem fx_79_105 : xins 79 105 = (2, 0, 4, 2) := by decide +kernel
theorem fx_79_107 : xins 79 107 = (16, 0, 0, 0) := by decide +kernel
theorem fx_79_108 : xins 79 108 = (3, 0, 1, 1) := by decide +kernel
theorem fx_79_109 : xins 79 109 = (12, 163, 4, 7) := by decide +kernel
theorem fx_79_112 : xins 79 112 = (1, 2, 1, 0) := by decide +kernel
theorem fx_79_113 : xins 79 113 = (2, 0, 3, 1) := by decide +kernel
theorem fx_79_114 : xins 79 114 = (7, 0, 2, 0) := by decide +kernel
theorem fx_79_115 : xins 79 115 = (28, 604, 80, 3) := by decide +kernel
theorem fx_79_118 : xins 79 118 = (3, 0, 1, 1) := by decide +kernel
theorem fx_79_119 : xins 79 119 = (12, 140, 4, 0) := by decide +kernel
theorem fx_79_122 : xins 79 122 = (2, 0, 5, 2) := by decide +kernel
theorem fx_79_124 : xins 79 124 = (16, 0, 0, 0) := by decide +kernel
theorem fx_79_125 : xins 79 125 = (3, 0, 1, 1) := by decide +kernel
theorem fx_79_126 : xins 79 126 = (12, 163, 4, 7) := by decide +kernel
theorem fx_79_129 : xins 79 129 = (1, 2, 1, 0) := by decide +kernel
theorem fx_79_130 : xins 79 130 = (2, 0, 3, 1) := by decide +kernel
theorem fx_79_131 : xins 79 131 = (7, 0, 2, 0) := by decide +kernel
theorem fx_79_132 : xins 79 132 = (1, 1, 1, 0) := by decide +kernel
theorem fx_79_133 : xins 79 133 = (7, 0, 0, 0) := by decide +kernel
theorem fx_79_134 : xins 79 134 = (28, 604, 80, 3) := by decide +kernel
theorem fx_79_137 : xins 79 137 = (30, 0, 0, 0) := by decide +kernel
theorem xq_80 : xnth xprog 80 [] = xk_80 := rfl
theorem fx_80_0 : xins 80 0 = (3, 0, 0, 1) := by decide +kernel
theorem fx_80_1 : xins 80 1 = (1, 1, 1, 0) := by decide +kernel
theorem fx_80_2 : xins 80 2 = (13, 110, 3, 3) := by decide +kernel
theorem fx_80_5 : xins 80 5 = (3, 0, 0, 1) := by decide +kernel
theorem fx_80_6 : xins 80 6 = (2, 0, 1, 1) := by decide +kernel
theorem fx_80_7 : xins 80 7 = (13, 113, 3, 4) := by decide +kernel
theorem fx_80_10 : xins 80 10 = (3, 0, 0, 1) := by decide +kernel
theorem fx_80_11 : xins 80 11 = (2, 0, 2, 1) := by decide +kernel
theorem fx_80_12 : xins 80 12 = (13, 115, 3, 5) := by decide +kernel
theorem fx_80_15 : xins 80 15 = (30, 0, 0, 0) := by decide +kernel
theorem xq_81 : xnth xprog 81 [] = xk_81 := rfl
theorem fx_81_0 : xins 81 0 = (3, 0, 0, 1) := by decide +kernel
theorem fx_81_1 : xins 81 1 = (12, 241, 2, 4) := by decide +kernel
theorem fx_81_4 : xins 81 4 = (2, 0, 3, 1) := by decide +kernel
theorem fx_81_5 : xins 81 5 = (14, 0, 0, 0) := by decide +kernel
theorem fx_81_6 : xins 81 6 = (4, 0, 4, 2) := by decide +kernel
theorem fx_81_8 : xins 81 8 = (3, 0, 1, 1) := by decide +kernel
theorem fx_81_9 : xins 81 9 = (2, 0, 4, 2) := by decide +kernel
theorem fx_81_11 : xins 81 11 = (28, 597, 18, 2) := by decide +kernel
theorem fx_81_14 : xins 81 14 = (9, 0, 0, 25) := by decide +kernel
theorem fx_81_17 : xins 81 17 = (3, 0, 1, 1) := by decide +kernel
theorem fx_81_18 : xins 81 18 = (2, 0, 3, 1) := by decide +kernel
theorem fx_81_19 : xins 81 19 = (28, 529, 33, 2) := by decide +kernel
theorem fx_81_22 : xins 81 22 = (9, 0, 1, 26) := by decide +kernel
theorem fx_81_25 : xins 81 25 = (30, 0, 0, 0) := by decide +kernel
theorem fx_81_26 : xins 81 26 = (3, 0, 2, 1) := by decide +kernel
theorem fx_81_27 : xins 81 27 = (3, 0, 1, 1) := by decide +kernel
theorem fx_81_28 : xins 81 28 = (2, 0, 4, 2) := by decide +kernel
theorem fx_81_30 : xins 81 30 = (2, 0, 3, 1) := by decide +kernel
theorem fx_81_31 : xins 81 31 = (28, 612, 36, 4) := by decide +kernel
theorem fx_81_34 : xins 81 34 = (4, 0, 5, 2) := by decide +kernel
theorem fx_81_36 : xins 81 36 = (3, 0, 1, 1) := by decide +kernel
theorem fx_81_37 : xins 81 37 = (12, 140, 4, 0) := by decide +kernel
theorem fx_81_40 : xins 81 40 = (2, 0, 4, 2) := by decide +kernel
theorem fx_81_42 : xins 81 42 = (16, 0, 0, 0) := by decide +kernel
theorem fx_81_43 : xins 81 43 = (2, 0, 5, 2) := by decide +kernel
theorem fx_81_45 : xins 81 45 = (28, 613, 40, 1) := by decide +kernel
theorem fx_81_48 : xins 81 48 = (2, 0, 5, 2) := by decide +kernel
theorem fx_81_50 : xins 81 50 = (28, 614, 41, 1) := by decide +kernel
theorem fx_81_53 : xins 81 53 = (3, 0, 1, 1) := by decide +kernel
theorem fx_81_54 : xins 81 54 = (12, 156, 4, 5) := by decide +kernel
theorem fx_81_57 : xins 81 57 = (28, 601, 26, 4) := by decide +kernel
theorem fx_81_60 : xins 81 60 = (3, 0, 1, 1) := by decide +kernel
theorem fx_81_61 : xins 81 61 = (12, 140, 4, 0) := by decide +kernel
theorem fx_81_64 : xins 81 64 = (2, 0, 4, 2) := by decide +kernel
theorem fx_81_66 : xins 81 66 = (16, 0, 0, 0) := by decide +kernel
theorem fx_81_67 : xins 81 67 = (3, 0, 1, 1) := by decide +kernel
theorem fx_81_68 : xins 81 68 = (12, 163, 4, 7) := by decide +kernel
theorem fx_81_71 : xins 81 71 = (2, 0, 3, 1) := by decide +kernel
theorem fx_81_72 : xins 81 72 = (28, 604, 80, 3) := by decide +kernel
theorem fx_81_75 : xins 81 75 = (30, 0, 0, 0) := by decide +kernel
theorem xq_82 : xnth xprog 82 [] = xk_82 := rfl
theorem fx_82_0 : xins 82 0 = (3, 0, 0, 1) := by decide +kernel
theorem fx_82_1 : xins 82 1 = (12, 271, 6, 3) := by decide +kernel
theorem fx_82_4 : xins 82 4 = (3, 0, 0, 1) := by decide +kernel
theorem fx_82_5 : xins 82 5 = (12, 268, 6, 0) := by decide +kernel
theorem fx_82_8 : xins 82 8 = (3, 0, 0, 1) := by decide +kernel
theorem fx_82_9 : xins 82 9 = (12, 270, 6, 2) := by decide +kernel
theorem fx_82_12 : xins 82 12 = (28, 485, 57, 3) := by decide +kernel
theorem fx_82_15 : xins 82 15 = (3, 0, 0, 1) := by decide +kernel
theorem fx_82_16 : xins 82 16 = (12, 271, 6, 3) := by decide +kernel
theorem fx_82_19 : xins 82 19 = (3, 0, 0, 1) := by decide +kernel
theorem fx_82_20 : xins 82 20 = (12, 268, 6, 0) := by decide +kernel
theorem fx_82_23 : xins 82 23 = (28, 619, 83, 2) := by decide +kernel
theorem fx_82_26 : xins 82 26 = (29, 0, 0, 0) := by decide +kernel
theorem xq_83 : xnth xprog 83 [] = xk_83 := rfl
theorem fx_83_0 : xins 83 0 = (3, 0, 0, 1) := by decide +kernel
theorem fx_83_1 : xins 83 1 = (28, 560, 71, 1) := by decide +kernel
theorem fx_83_4 : xins 83 4 = (9, 0, 0, 11) := by decide +kernel
theorem fx_83_7 : xins 83 7 = (1, 0, 1, 0) := by decide +kernel
theorem fx_83_8 : xins 83 8 = (11, 0, 0, 23) := by decide +kernel
theorem fx_83_11 : xins 83 11 = (3, 0, 1, 1) := by decide +kernel
theorem fx_83_12 : xins 83 12 = (3, 0, 0, 1) := by decide +kernel
theorem fx_83_13 : xins 83 13 = (12, 237, 2, 0) := by decide +kernel
theorem fx_83_16 : xins 83 16 = (3, 0, 0, 1) := by decide +kernel
theorem fx_83_17 : xins 83 17 = (12, 238, 2, 1) := by decide +kernel
theorem fx_83_20 : xins 83 20 = (28, 623, 84, 3) := by decide +kernel
theorem fx_83_23 : xins 83 23 = (29, 0, 0, 0) := by decide +kernel
theorem xq_84 : xnth xprog 84 [] = xk_84 := rfl
theorem fx_84_0 : xins 84 0 = (3, 0, 0, 1) := by decide +kernel
theorem fx_84_1 : xins 84 1 = (28, 626, 30, 1) := by decide +kernel
theorem fx_84_4 : xins 84 4 = (4, 0, 3, 1) := by decide +kernel
theorem fx_84_5 : xins 84 5 = (3, 0, 2, 1) := by decide +kernel
theorem fx_84_6 : xins 84 6 = (1, 268435456, 2, 627) := by decide +kernel
theorem fx_84_8 : xins 84 8 = (28, 628, 3, 2) := by decide +kernel
theorem fx_84_11 : xins 84 11 = (3, 0, 2, 1) := by decide +kernel
theorem fx_84_12 : xins 84 12 = (1, 0, 1, 0) := by decide +kernel
theorem fx_84_13 : xins 84 13 = (1, 0, 1, 0) := by decide +kernel
theorem fx_84_14 : xins 84 14 = (15, 0, 0, 0) := by decide +kernel
theorem fx_84_15 : xins 84 15 = (1, 0, 1, 0) := by decide +kernel
theorem fx_84_16 : xins 84 16 = (4, 0, 4, 2) := by decide +kernel
theorem fx_84_18 : xins 84 18 = (2, 0, 4, 2) := by decide +kernel
theorem fx_84_20 : xins 84 20 = (1, 4, 1, 0) := by decide +kernel
theorem fx_84_21 : xins 84 21 = (10, 0, 3, 96) := by decide +kernel
theorem fx_84_24 : xins 84 24 = (3, 0, 0, 1) := by decide +kernel
theorem fx_84_25 : xins 84 25 = (2, 0, 4, 2) := by decide +kernel
theorem fx_84_27 : xins 84 27 = (28, 629, 60, 2) := by decide +kernel
theorem fx_84_30 : xins 84 30 = (9, 0, 0, 41) := by decide +kernel
theorem fx_84_33 : xins 84 33 = (3, 0, 1, 1) := by decide +kernel
theorem fx_84_34 : xins 84 34 = (3, 0, 2, 1) := by decide +kernel
theorem fx_84_35 : xins 84 35 = (2, 0, 3, 1) := by decide +kernel
theorem fx_84_36 : xins 84 36 = (2, 0, 4, 2) := by decide +kernel
theorem fx_84_38 : xins 84 38 = (28, 630, 85, 4) := by decide +kernel
theorem fx_84_41 : xins 84 41 = (1, 2, 1, 0) := by decide +kernel
theorem fx_84_42 : xins 84 42 = (2, 0, 4, 2) := by decide +kernel
theorem fx_84_44 : xins 84 44 = (7, 0, 2, 0) := by decide +kernel
theorem fx_84_45 : xins 84 45 = (4, 0, 5, 2) := by decide +kernel
theorem fx_84_47 : xins 84 47 = (2, 0, 5, 2) := by decide +kernel
theorem fx_84_49 : xins 84 49 = (1, 2, 1, 0) := by decide +kernel
theorem fx_84_50 : xins 84 50 = (2, 0, 4, 2) := by decide +kernel
theorem fx_84_52 : xins 84 52 = (7, 0, 2, 0) := by decide +kernel
theorem fx_84_53 : xins 84 53 = (1, 1, 1, 0) := by decide +kernel
theorem fx_84_54 : xins 84 54 = (7, 0, 0, 0) := by decide +kernel
theorem fx_84_55 : xins 84 55 = (10, 0, 4, 90) := by decide +kernel
theorem fx_84_58 : xins 84 58 = (3, 0, 0, 1) := by decide +kernel
theorem fx_84_59 : xins 84 59 = (2, 0, 5, 2) := by decide +kernel
theorem fx_84_61 : xins 84 61 = (28, 643, 33, 2) := by decide +kernel
theorem fx_84_64 : xins 84 64 = (9, 0, 0, 84) := by decide +kernel
theorem fx_84_67 : xins 84 67 = (3, 0, 0, 1) := by decide +kernel
theorem fx_84_68 : xins 84 68 = (2, 0, 4, 2) := by decide +kernel
theorem fx_84_70 : xins 84 70 = (28, 629, 60, 2) := by decide +kernel
theorem fx_84_73 : xins 84 73 = (9, 0, 1, 84) := by decide +kernel
theorem fx_84_76 : xins 84 76 = (3, 0, 1, 1) := by decide +kernel
theorem fx_84_77 : xins 84 77 = (3, 0, 2, 1) := by decide +kernel
theorem fx_84_78 : xins 84 78 = (2, 0, 3, 1) := by decide +kernel
theorem fx_84_79 : xins 84 79 = (2, 0, 5, 2) := by decide +kernel
theorem fx_84_81 : xins 84 81 = (28, 644, 88, 4) := by decide +kernel
theorem fx_84_84 : xins 84 84 = (6, 1, 5, 0) := by decide +kernel
theorem fx_84_87 : xins 84 87 = (11, 0, 0, 47) := by decide +kernel
theorem fx_84_90 : xins 84 90 = (6, 1, 4, 0) := by decide +kernel
theorem fx_84_93 : xins 84 93 = (11, 0, 0, 18) := by decide +kernel
theorem fx_84_96 : xins 84 96 = (1, 268435456, 2, 627) := by decide +kernel
theorem fx_84_98 : xins 84 98 = (4, 0, 4, 2) := by decide +kernel
theorem fx_84_100 : xins 84 100 = (1, 0, 1, 0) := by decide +kernel
theorem fx_84_101 : xins 84 101 = (4, 0, 5, 2) := by decide +kernel
theorem fx_84_103 : xins 84 103 = (2, 0, 5, 2) := by decide +kernel
theorem fx_84_105 : xins 84 105 = (2, 0, 3, 1) := by decide +kernel
theorem fx_84_106 : xins 84 106 = (10, 0, 4, 126) := by decide +kernel
theorem fx_84_109 : xins 84 109 = (2, 0, 4, 2) := by decide +kernel
theorem fx_84_111 : xins 84 111 = (3, 0, 2, 1) := by decide +kernel
theorem fx_84_112 : xins 84 112 = (2, 0, 5, 2) := by decide +kernel
theorem fx_84_114 : xins 84 114 = (14, 0, 0, 0) := by decide +kernel
theorem fx_84_115 : xins 84 115 = (33, 641, 0, 0) := by decide +kernel
theorem fx_84_118 : xins 84 118 = (4, 0, 4, 2) := by decide +kernel
theorem fx_84_120 : xins 84 120 = (6, 1, 5, 0) := by decide +kernel
theorem fx_84_123 : xins 84 123 = (11, 0, 0, 103) := by decide +kernel
theorem fx_84_126 : xins 84 126 = (2, 0, 4, 2) := by decide +kernel
theorem fx_84_128 : xins 84 128 = (1, 256, 3, 0) := by decide +kernel
theorem fx_84_131 : xins 84 131 = (7, 0, 4, 0) := by decide +kernel
theorem fx_84_132 : xins 84 132 = (29, 0, 0, 0) := by decide +kernel
theorem xq_85 : xnth xprog 85 [] = xk_85 := rfl
theorem fx_85_0 : xins 85 0 = (1, 2, 1, 0) := by decide +kernel
theorem fx_85_1 : xins 85 1 = (2, 0, 3, 1) := by decide +kernel
theorem fx_85_2 : xins 85 2 = (7, 0, 2, 0) := by decide +kernel
theorem fx_85_3 : xins 85 3 = (28, 633, 86, 1) := by decide +kernel
theorem fx_85_6 : xins 85 6 = (1, 2, 1, 0) := by decide +kernel
theorem fx_85_7 : xins 85 7 = (2, 0, 3, 1) := by decide +kernel
theorem fx_85_8 : xins 85 8 = (7, 0, 2, 0) := by decide +kernel
theorem fx_85_9 : xins 85 9 = (1, 1, 1, 0) := by decide +kernel
theorem fx_85_10 : xins 85 10 = (7, 0, 0, 0) := by decide +kernel
theorem fx_85_11 : xins 85 11 = (28, 633, 86, 1) := by decide +kernel
theorem fx_85_14 : xins 85 14 = (7, 0, 0, 0) := by decide +kernel
theorem fx_85_15 : xins 85 15 = (4, 0, 4, 2) := by decide +kernel
theorem fx_85_17 : xins 85 17 = (2, 0, 2, 1) := by decide +kernel
theorem fx_85_18 : xins 85 18 = (4, 0, 5, 2) := by decide +kernel
theorem fx_85_20 : xins 85 20 = (2, 0, 5, 2) := by decide +kernel
theorem fx_85_22 : xins 85 22 = (9, 0, 2, 122) := by decide +kernel
theorem fx_85_25 : xins 85 25 = (2, 0, 5, 2) := by decide +kernel
theorem fx_85_27 : xins 85 27 = (2, 0, 2, 1) := by decide +kernel
theorem fx_85_28 : xins 85 28 = (1, (-1), 1, 0) := by decide +kernel
theorem fx_85_29 : xins 85 29 = (7, 0, 7, 0) := by decide +kernel
theorem fx_85_30 : xins 85 30 = (7, 0, 5, 0) := by decide +kernel
theorem fx_85_31 : xins 85 31 = (9, 0, 1, 116) := by decide +kernel
theorem fx_85_34 : xins 85 34 = (2, 0, 5, 2) := by decide +kernel
theorem fx_85_36 : xins 85 36 = (28, 636, 31, 1) := by decide +kernel
theorem fx_85_39 : xins 85 39 = (1, 2, 1, 0) := by decide +kernel
theorem fx_85_40 : xins 85 40 = (2, 0, 3, 1) := by decide +kernel
theorem fx_85_41 : xins 85 41 = (7, 0, 2, 0) := by decide +kernel
theorem fx_85_42 : xins 85 42 = (1, 2, 1, 0) := by decide +kernel
theorem fx_85_43 : xins 85 43 = (7, 0, 0, 0) := by decide +kernel
theorem fx_85_44 : xins 85 44 = (10, 0, 4, 116) := by decide +kernel
theorem fx_85_47 : xins 85 47 = (3, 0, 1, 1) := by decide +kernel
theorem fx_85_48 : xins 85 48 = (2, 0, 5, 2) := by decide +kernel
theorem fx_85_50 : xins 85 50 = (14, 0, 0, 0) := by decide +kernel
theorem fx_85_51 : xins 85 51 = (2, 0, 4, 2) := by decide +kernel
theorem fx_85_53 : xins 85 53 = (7, 0, 0, 0) := by decide +kernel
theorem fx_85_54 : xins 85 54 = (4, 0, 6, 2) := by decide +kernel
theorem fx_85_56 : xins 85 56 = (1, 0, 1, 0) := by decide +kernel
theorem fx_85_57 : xins 85 57 = (4, 0, 7, 2) := by decide +kernel
theorem fx_85_59 : xins 85 59 = (2, 0, 7, 2) := by decide +kernel
theorem fx_85_61 : xins 85 61 = (1, 12, 2, 0) := by decide +kernel
theorem fx_85_63 : xins 85 63 = (10, 0, 3, 105) := by decide +kernel
theorem fx_85_66 : xins 85 66 = (2, 0, 5, 2) := by decide +kernel
theorem fx_85_68 : xins 85 68 = (2, 0, 7, 2) := by decide +kernel
theorem fx_85_70 : xins 85 70 = (7, 0, 9, 0) := by decide +kernel
theorem fx_85_71 : xins 85 71 = (1, 1, 1, 0) := by decide +kernel
theorem fx_85_72 : xins 85 72 = (7, 0, 5, 0) := by decide +kernel
theorem fx_85_73 : xins 85 73 = (1, 1, 1, 0) := by decide +kernel
theorem fx_85_74 : xins 85 74 = (10, 0, 1, 99) := by decide +kernel
theorem fx_85_77 : xins 85 77 = (2, 0, 6, 2) := by decide +kernel
theorem fx_85_79 : xins 85 79 = (3, 0, 0, 1) := by decide +kernel
theorem fx_85_80 : xins 85 80 = (3, 0, 1, 1) := by decide +kernel
theorem fx_85_81 : xins 85 81 = (2, 0, 5, 2) := by decide +kernel
theorem fx_85_83 : xins 85 83 = (1, 1, 1, 0) := by decide +kernel
theorem fx_85_84 : xins 85 84 = (2, 0, 7, 2) := by decide +kernel
theorem fx_85_86 : xins 85 86 = (7, 0, 8, 0) := by decide +kernel
theorem fx_85_87 : xins 85 87 = (7, 0, 7, 0) := by decide +kernel
theorem fx_85_88 : xins 85 88 = (2, 0, 3, 1) := by decide +kernel
theorem fx_85_89 : xins 85 89 = (2, 0, 7, 2) := by decide +kernel
theorem fx_85_91 : xins 85 91 = (28, 637, 87, 5) := by decide +kernel
theorem fx_85_94 : xins 85 94 = (33, 641, 0, 0) := by decide +kernel
theorem fx_85_97 : xins 85 97 = (4, 0, 6, 2) := by decide +kernel
theorem fx_85_99 : xins 85 99 = (6, 1, 7, 0) := by decide +kernel
theorem fx_85_102 : xins 85 102 = (11, 0, 0, 59) := by decide +kernel
theorem fx_85_105 : xins 85 105 = (3, 0, 1, 1) := by decide +kernel
theorem fx_85_106 : xins 85 106 = (2, 0, 5, 2) := by decide +kernel
theorem fx_85_108 : xins 85 108 = (2, 0, 6, 2) := by decide +kernel
theorem fx_85_110 : xins 85 110 = (1, 268435456, 2, 627) := by decide +kernel
theorem fx_85_112 : xins 85 112 = (33, 641, 0, 0) := by decide +kernel
theorem fx_85_115 : xins 85 115 = (15, 0, 0, 0) := by decide +kernel
theorem fx_85_116 : xins 85 116 = (6, (-1), 5, 0) := by decide +kernel
theorem fx_85_119 : xins 85 119 = (11, 0, 0, 20) := by decide +kernel
theorem fx_85_122 : xins 85 122 = (30, 0, 0, 0) := by decide +kernel
theorem xq_86 : xnth xprog 86 [] = xk_86 := rfl
theorem fx_86_0 : xins 86 0 = (1, 256, 3, 0) := by decide +kernel
theorem fx_86_3 : xins 86 3 = (1, 1, 1, 0) := by decide +kernel
theorem fx_86_4 : xins 86 4 = (2, 0, 0, 1) := by decide +kernel
theorem fx_86_5 : xins 86 5 = (7, 0, 8, 0) := by decide +kernel
theorem fx_86_6 : xins 86 6 = (7, 0, 0, 0) := by decide +kernel
theorem fx_86_7 : xins 86 7 = (29, 0, 0, 0) := by decide +kernel
theorem xq_87 : xnth xprog 87 [] = xk_87 := rfl
theorem fx_87_0 : xins 87 0 = (1, 268435456, 2, 627) := by decide +kernel
theorem fx_87_2 : xins 87 2 = (4, 0, 5, 2) := by decide +kernel
theorem fx_87_4 : xins 87 4 = (3, 0, 0, 1) := by decide +kernel
theorem fx_87_5 : xins 87 5 = (1, 2, 1, 0) := by decide +kernel
theorem fx_87_6 : xins 87 6 = (2, 0, 3, 1) := by decide +kernel
theorem fx_87_7 : xins 87 7 = (7, 0, 2, 0) := by decide +kernel
theorem fx_87_8 : xins 87 8 = (2, 0, 4, 2) := by decide +kernel
theorem fx_87_10 : xins 87 10 = (28, 640, 62, 3) := by decide +kernel
theorem fx_87_13 : xins 87 13 = (1, 268435456, 2, 627) := by decide +kernel
theorem fx_87_15 : xins 87 15 = (10, 0, 0, 37) := by decide +kernel
theorem fx_87_18 : xins 87 18 = (2, 0, 5, 2) := by decide +kernel
theorem fx_87_20 : xins 87 20 = (3, 0, 1, 1) := by decide +kernel
theorem fx_87_21 : xins 87 21 = (2, 0, 2, 1) := by decide +kernel
theorem fx_87_22 : xins 87 22 = (14, 0, 0, 0) := by decide +kernel
theorem fx_87_23 : xins 87 23 = (1, 2, 1, 0) := by decide +kernel
theorem fx_87_24 : xins 87 24 = (2, 0, 3, 1) := by decide +kernel
theorem fx_87_25 : xins 87 25 = (7, 0, 2, 0) := by decide +kernel
theorem fx_87_26 : xins 87 26 = (1, 1, 1, 0) := by decide +kernel
theorem fx_87_27 : xins 87 27 = (7, 0, 0, 0) := by decide +kernel
theorem fx_87_28 : xins 87 28 = (28, 633, 86, 1) := by decide +kernel
theorem fx_87_31 : xins 87 31 = (7, 0, 0, 0) := by decide +kernel
theorem fx_87_32 : xins 87 32 = (33, 641, 0, 0) := by decide +kernel
theorem fx_87_35 : xins 87 35 = (4, 0, 5, 2) := by decide +kernel
theorem fx_87_37 : xins 87 37 = (3, 0, 0, 1) := by decide +kernel
theorem fx_87_38 : xins 87 38 = (1, 2, 1, 0) := by decide +kernel
theorem fx_87_39 : xins 87 39 = (2, 0, 3, 1) := by decide +kernel
theorem fx_87_40 : xins 87 40 = (7, 0, 2, 0) := by decide +kernel
theorem fx_87_41 : xins 87 41 = (1, 1, 1, 0) := by decide +kernel
theorem fx_87_42 : xins 87 42 = (7, 0, 0, 0) := by decide +kernel
theorem fx_87_43 : xins 87 43 = (2, 0, 4, 2) := by decide +kernel
theorem fx_87_45 : xins 87 45 = (28, 640, 62, 3) := by decide +kernel
theorem fx_87_48 : xins 87 48 = (1, 268435456, 2, 627) := by decide +kernel
theorem fx_87_50 : xins 87 50 = (10, 0, 0, 70) := by decide +kernel
theorem fx_87_53 : xins 87 53 = (2, 0, 5, 2) := by decide +kernel
theorem fx_87_55 : xins 87 55 = (3, 0, 1, 1) := by decide +kernel
theorem fx_87_56 : xins 87 56 = (2, 0, 2, 1) := by decide +kernel
theorem fx_87_57 : xins 87 57 = (14, 0, 0, 0) := by decide +kernel
theorem fx_87_58 : xins 87 58 = (1, 2, 1, 0) := by decide +kernel
theorem fx_87_59 : xins 87 59 = (2, 0, 3, 1) := by decide +kernel
theorem fx_87_60 : xins 87 60 = (7, 0, 2, 0) := by decide +kernel
theorem fx_87_61 : xins 87 61 = (28, 633, 86, 1) := by decide +kernel
theorem fx_87_64 : xins 87 64 = (7, 0, 0, 0) := by decide +kernel
theorem fx_87_65 : xins 87 65 = (33, 641, 0, 0) := by decide +kernel
theorem fx_87_68 : xins 87 68 = (4, 0, 5, 2) := by decide +kernel
theorem fx_87_70 : xins 87 70 = (1, 0, 1, 0) := by decide +kernel
theorem fx_87_71 : xins 87 71 = (4, 0, 6, 2) := by decide +kernel
theorem fx_87_73 : xins 87 73 = (2, 0, 6, 2) := by decide +kernel
theorem fx_87_75 : xins 87 75 = (1, 12, 2, 0) := by decide +kernel
theorem fx_87_77 : xins 87 77 = (10, 0, 3, 125) := by decide +kernel
theorem fx_87_80 : xins 87 80 = (2, 0, 2, 1) := by decide +kernel
theorem fx_87_81 : xins 87 81 = (2, 0, 6, 2) := by decide +kernel
theorem fx_87_83 : xins 87 83 = (7, 0, 9, 0) := by decide +kernel
theorem fx_87_84 : xins 87 84 = (1, 1, 1, 0) := by decide +kernel
theorem fx_87_85 : xins 87 85 = (7, 0, 5, 0) := by decide +kernel
theorem fx_87_86 : xins 87 86 = (1, 1, 1, 0) := by decide +kernel
theorem fx_87_87 : xins 87 87 = (10, 0, 1, 119) := by decide +kernel
theorem fx_87_90 : xins 87 90 = (3, 0, 0, 1) := by decide +kernel
theorem fx_87_91 : xins 87 91 = (2, 0, 3, 1) := by decide +kernel
theorem fx_87_92 : xins 87 92 = (2, 0, 4, 2) := by decide +kernel
theorem fx_87_94 : xins 87 94 = (2, 0, 6, 2) := by decide +kernel
theorem fx_87_96 : xins 87 96 = (28, 642, 70, 4) := by decide +kernel
theorem fx_87_99 : xins 87 99 = (1, 268435456, 2, 627) := by decide +kernel
theorem fx_87_101 : xins 87 101 = (10, 0, 0, 119) := by decide +kernel
theorem fx_87_104 : xins 87 104 = (2, 0, 5, 2) := by decide +kernel
theorem fx_87_106 : xins 87 106 = (3, 0, 1, 1) := by decide +kernel
theorem fx_87_107 : xins 87 107 = (2, 0, 2, 1) := by decide +kernel
theorem fx_87_108 : xins 87 108 = (1, 1, 1, 0) := by decide +kernel
theorem fx_87_109 : xins 87 109 = (2, 0, 6, 2) := by decide +kernel
theorem fx_87_111 : xins 87 111 = (7, 0, 8, 0) := by decide +kernel
theorem fx_87_112 : xins 87 112 = (7, 0, 7, 0) := by decide +kernel
theorem fx_87_113 : xins 87 113 = (14, 0, 0, 0) := by decide +kernel
theorem fx_87_114 : xins 87 114 = (33, 641, 0, 0) := by decide +kernel
theorem fx_87_117 : xins 87 117 = (4, 0, 5, 2) := by decide +kernel
theorem fx_87_119 : xins 87 119 = (6, 1, 6, 0) := by decide +kernel
theorem fx_87_122 : xins 87 122 = (11, 0, 0, 73) := by decide +kernel
theorem fx_87_125 : xins 87 125 = (2, 0, 5, 2) := by decide +kernel
theorem fx_87_127 : xins 87 127 = (29, 0, 0, 0) := by decide +kernel
theorem xq_88 : xnth xprog 88 [] = xk_88 := rfl
theorem fx_88_0 : xins 88 0 = (2, 0, 2, 1) := by decide +kernel
theorem fx_88_1 : xins 88 1 = (4, 0, 4, 2) := by decide +kernel
theorem fx_88_3 : xins 88 3 = (2, 0, 4, 2) := by decide +kernel
theorem fx_88_5 : xins 88 5 = (9, 0, 2, 111) := by decide +kernel
theorem fx_88_8 : xins 88 8 = (2, 0, 4, 2) := by decide +kernel
theorem fx_88_10 : xins 88 10 = (2, 0, 2, 1) := by decide +kernel
theorem fx_88_11 : xins 88 11 = (1, (-1), 1, 0) := by decide +kernel
theorem fx_88_12 : xins 88 12 = (7, 0, 7, 0) := by decide +kernel
theorem fx_88_13 : xins 88 13 = (7, 0, 5, 0) := by decide +kernel
theorem fx_88_14 : xins 88 14 = (9, 0, 1, 105) := by decide +kernel
theorem fx_88_17 : xins 88 17 = (2, 0, 4, 2) := by decide +kernel
theorem fx_88_19 : xins 88 19 = (28, 636, 31, 1) := by decide +kernel
theorem fx_88_22 : xins 88 22 = (2, 0, 3, 1) := by decide +kernel
theorem fx_88_23 : xins 88 23 = (1, 1, 1, 0) := by decide +kernel
theorem fx_88_24 : xins 88 24 = (7, 0, 0, 0) := by decide +kernel
theorem fx_88_25 : xins 88 25 = (10, 0, 4, 105) := by decide +kernel
theorem fx_88_28 : xins 88 28 = (3, 0, 1, 1) := by decide +kernel
theorem fx_88_29 : xins 88 29 = (2, 0, 4, 2) := by decide +kernel
theorem fx_88_31 : xins 88 31 = (14, 0, 0, 0) := by decide +kernel
theorem fx_88_32 : xins 88 32 = (2, 0, 3, 1) := by decide +kernel
theorem fx_88_33 : xins 88 33 = (28, 633, 86, 1) := by decide +kernel
theorem fx_88_36 : xins 88 36 = (7, 0, 0, 0) := by decide +kernel
theorem fx_88_37 : xins 88 37 = (4, 0, 5, 2) := by decide +kernel
theorem fx_88_39 : xins 88 39 = (1, 0, 1, 0) := by decide +kernel
theorem fx_88_40 : xins 88 40 = (4, 0, 6, 2) := by decide +kernel
theorem fx_88_42 : xins 88 42 = (2, 0, 6, 2) := by decide +kernel
theorem fx_88_44 : xins 88 44 = (1, 12, 2, 0) := by decide +kernel
theorem fx_88_46 : xins 88 46 = (10, 0, 3, 94) := by decide +kernel
theorem fx_88_49 : xins 88 49 = (2, 0, 4, 2) := by decide +kernel
theorem fx_88_51 : xins 88 51 = (2, 0, 6, 2) := by decide +kernel
theorem fx_88_53 : xins 88 53 = (7, 0, 9, 0) := by decide +kernel
theorem fx_88_54 : xins 88 54 = (1, 1, 1, 0) := by decide +kernel
theorem fx_88_55 : xins 88 55 = (7, 0, 5, 0) := by decide +kernel
theorem fx_88_56 : xins 88 56 = (1, 1, 1, 0) := by decide +kernel
theorem fx_88_57 : xins 88 57 = (10, 0, 1, 88) := by decide +kernel
theorem fx_88_60 : xins 88 60 = (3, 0, 0, 1) := by decide +kernel
theorem fx_88_61 : xins 88 61 = (2, 0, 3, 1) := by decide +kernel
theorem fx_88_62 : xins 88 62 = (2, 0, 6, 2) := by decide +kernel
theorem fx_88_64 : xins 88 64 = (28, 640, 62, 3) := by decide +kernel
theorem fx_88_67 : xins 88 67 = (1, 268435456, 2, 627) := by decide +kernel
theorem fx_88_69 : xins 88 69 = (10, 0, 0, 88) := by decide +kernel
theorem fx_88_72 : xins 88 72 = (2, 0, 5, 2) := by decide +kernel
theorem fx_88_74 : xins 88 74 = (3, 0, 1, 1) := by decide +kernel
theorem fx_88_75 : xins 88 75 = (2, 0, 4, 2) := by decide +kernel
theorem fx_88_77 : xins 88 77 = (1, 1, 1, 0) := by decide +kernel
theorem fx_88_78 : xins 88 78 = (2, 0, 6, 2) := by decide +kernel
theorem fx_88_80 : xins 88 80 = (7, 0, 8, 0) := by decide +kernel
theorem fx_88_81 : xins 88 81 = (7, 0, 7, 0) := by decide +kernel
theorem fx_88_82 : xins 88 82 = (14, 0, 0, 0) := by decide +kernel
theorem fx_88_83 : xins 88 83 = (33, 641, 0, 0) := by decide +kernel
theorem fx_88_86 : xins 88 86 = (4, 0, 5, 2) := by decide +kernel
theorem fx_88_88 : xins 88 88 = (6, 1, 6, 0) := by decide +kernel
theorem fx_88_91 : xins 88 91 = (11, 0, 0, 42) := by decide +kernel
theorem fx_88_94 : xins 88 94 = (3, 0, 1, 1) := by decide +kernel
theorem fx_88_95 : xins 88 95 = (2, 0, 4, 2) := by decide +kernel
theorem fx_88_97 : xins 88 97 = (2, 0, 5, 2) := by decide +kernel
theorem fx_88_99 : xins 88 99 = (1, 268435456, 2, 627) := by decide +kernel
theorem fx_88_101 : xins 88 101 = (33, 641, 0, 0) := by decide +kernel
theorem fx_88_104 : xins 88 104 = (15, 0, 0, 0) := by decide +kernel
theorem fx_88_105 : xins 88 105 = (6, (-1), 4, 0) := by decide +kernel
theorem fx_88_108 : xins 88 108 = (11, 0, 0, 3) := by decide +kernel
theorem fx_88_111 : xins 88 111 = (30, 0, 0, 0) := by decide +kernel
theorem xq_89 : xnth xprog 89 [] = xk_89 := rfl
theorem fx_89_0 : xins 89 0 = (3, 0, 0, 1) := by decide +kernel
theorem fx_89_1 : xins 89 1 = (12, 269, 6, 1) := by decide +kernel
theorem fx_89_4 : xins 89 4 = (3, 0, 0, 1) := by decide +kernel
theorem fx_89_5 : xins 89 5 = (12, 268, 6, 0) := by decide +kernel
theorem fx_89_8 : xins 89 8 = (28, 651, 90, 2) := by decide +kernel
theorem fx_89_11 : xins 89 11 = (9, 0, 1, 16) := by decide +kernel
theorem fx_89_14 : xins 89 14 = (1, 0, 1, 0) := by decide +kernel
theorem fx_89_15 : xins 89 15 = (29, 0, 0, 0) := by decide +kernel
theorem fx_89_16 : xins 89 16 = (3, 0, 0, 1) := by decide +kernel
theorem fx_89_17 : xins 89 17 = (12, 271, 6, 3) := by decide +kernel
theorem fx_89_20 : xins 89 20 = (28, 310, 15, 1) := by decide +kernel
theorem fx_89_23 : xins 89 23 = (1, 1, 1, 0) := by decide +kernel
theorem fx_89_24 : xins 89 24 = (29, 0, 0, 0) := by decide +kernel
theorem xq_90 : xnth xprog 90 [] = xk_90 := rfl
theorem fx_90_0 : xins 90 0 = (3, 0, 0, 1) := by decide +kernel
theorem fx_90_1 : xins 90 1 = (12, 191, 1, 1) := by decide +kernel
theorem fx_90_4 : xins 90 4 = (9, 0, 1, 9) := by decide +kernel
theorem fx_90_7 : xins 90 7 = (1, 0, 1, 0) := by decide +kernel
theorem fx_90_8 : xins 90 8 = (29, 0, 0, 0) := by decide +kernel
theorem fx_90_9 : xins 90 9 = (3, 0, 0, 1) := by decide +kernel
theorem fx_90_10 : xins 90 10 = (3, 0, 0, 1) := by decide +kernel
theorem fx_90_11 : xins 90 11 = (12, 192, 1, 2) := by decide +kernel
theorem fx_90_14 : xins 90 14 = (9, 0, 1, 21) := by decide +kernel
theorem fx_90_17 : xins 90 17 = (1, 5, 1, 0) := by decide +kernel
theorem fx_90_18 : xins 90 18 = (11, 0, 0, 27) := by decide +kernel
theorem fx_90_21 : xins 90 21 = (3, 0, 0, 1) := by decide +kernel
theorem fx_90_22 : xins 90 22 = (12, 192, 1, 2) := by decide +kernel
theorem fx_90_25 : xins 90 25 = (1, 1, 1, 0) := by decide +kernel
theorem fx_90_26 : xins 90 26 = (7, 0, 1, 0) := by decide +kernel
theorem fx_90_27 : xins 90 27 = (13, 192, 1, 2) := by decide +kernel
theorem fx_90_30 : xins 90 30 = (3, 0, 0, 1) := by decide +kernel
theorem fx_90_31 : xins 90 31 = (23, 0, 0, 0) := by decide +kernel
theorem fx_90_32 : xins 90 32 = (12, 191, 1, 1) := by decide +kernel
theorem fx_90_35 : xins 90 35 = (1, 1, 1, 0) := by decide +kernel
theorem fx_90_36 : xins 90 36 = (7, 0, 1, 0) := by decide +kernel
theorem fx_90_37 : xins 90 37 = (13, 191, 1, 1) := by decide +kernel
theorem fx_90_40 : xins 90 40 = (3, 0, 1, 1) := by decide +kernel
theorem fx_90_41 : xins 90 41 = (3, 0, 0, 1) := by decide +kernel
theorem fx_90_42 : xins 90 42 = (12, 190, 1, 0) := by decide +kernel
theorem fx_90_45 : xins 90 45 = (3, 0, 0, 1) := by decide +kernel
theorem fx_90_46 : xins 90 46 = (12, 192, 1, 2) := by decide +kernel
theorem fx_90_49 : xins 90 49 = (16, 0, 0, 0) := by decide +kernel
theorem fx_90_50 : xins 90 50 = (28, 296, 12, 2) := by decide +kernel
theorem fx_90_53 : xins 90 53 = (1, 1, 1, 0) := by decide +kernel
theorem fx_90_54 : xins 90 54 = (29, 0, 0, 0) := by decide +kernel
theorem xq_91 : xnth xprog 91 [] = xk_91 := rfl
theorem fx_91_0 : xins 91 0 = (3, 0, 0, 1) := by decide +kernel
theorem fx_91_1 : xins 91 1 = (26, 660, 0, 0) := by decide +kernel
theorem fx_91_4 : xins 91 4 = (3, 0, 0, 1) := by decide +kernel
theorem fx_91_5 : xins 91 5 = (1, 112, 2, 0) := by decide +kernel
theorem fx_91_7 : xins 91 7 = (20, 0, 0, 0) := by decide +kernel
theorem fx_91_9 : xins 91 9 = (13, 662, 7, 1) := by decide +kernel
theorem fx_91_12 : xins 91 12 = (3, 0, 0, 1) := by decide +kernel
theorem fx_91_13 : xins 91 13 = (1, 672, 3, 0) := by decide +kernel
theorem fx_91_16 : xins 91 16 = (20, 0, 0, 0) := by decide +kernel
theorem fx_91_18 : xins 91 18 = (13, 663, 7, 2) := by decide +kernel
theorem fx_91_21 : xins 91 21 = (3, 0, 0, 1) := by decide +kernel
theorem fx_91_22 : xins 91 22 = (1, 8, 2, 0) := by decide +kernel
theorem fx_91_24 : xins 91 24 = (20, 0, 0, 0) := by decide +kernel
theorem fx_91_26 : xins 91 26 = (23, 0, 0, 0) := by decide +kernel
theorem fx_91_27 : xins 91 27 = (1, 0, 1, 0) := by decide +kernel
theorem fx_91_28 : xins 91 28 = (1, 0, 1, 0) := by decide +kernel
theorem fx_91_29 : xins 91 29 = (15, 0, 0, 0) := by decide +kernel
theorem fx_91_30 : xins 91 30 = (23, 0, 0, 0) := by decide +kernel
theorem fx_91_31 : xins 91 31 = (1, 1, 1, 0) := by decide +kernel
theorem fx_91_32 : xins 91 32 = (1, 200, 3, 0) := by decide +kernel
theorem fx_91_35 : xins 91 35 = (15, 0, 0, 0) := by decide +kernel
theorem fx_91_36 : xins 91 36 = (23, 0, 0, 0) := by decide +kernel
theorem fx_91_37 : xins 91 37 = (1, 2, 1, 0) := by decide +kernel
theorem fx_91_38 : xins 91 38 = (1, 400, 3, 0) := by decide +kernel
theorem fx_91_41 : xins 91 41 = (15, 0, 0, 0) := by decide +kernel
theorem fx_91_42 : xins 91 42 = (23, 0, 0, 0) := by decide +kernel
theorem fx_91_43 : xins 91 43 = (1, 3, 1, 0) := by decide +kernel
theorem fx_91_44 : xins 91 44 = (1, 500, 3, 0) := by decide +kernel
theorem fx_91_47 : xins 91 47 = (15, 0, 0, 0) := by decide +kernel
theorem fx_91_48 : xins 91 48 = (23, 0, 0, 0) := by decide +kernel
theorem fx_91_49 : xins 91 49 = (1, 4, 1, 0) := by decide +kernel
theorem fx_91_50 : xins 91 50 = (1, 700, 3, 0) := by decide +kernel
theorem fx_91_53 : xins 91 53 = (15, 0, 0, 0) := by decide +kernel
theorem fx_91_54 : xins 91 54 = (23, 0, 0, 0) := by decide +kernel
theorem fx_91_55 : xins 91 55 = (1, 5, 1, 0) := by decide +kernel
theorem fx_91_56 : xins 91 56 = (1, 900, 3, 0) := by decide +kernel
theorem fx_91_59 : xins 91 59 = (15, 0, 0, 0) := by decide +kernel
theorem fx_91_60 : xins 91 60 = (23, 0, 0, 0) := by decide +kernel
theorem fx_91_61 : xins 91 61 = (1, 6, 2, 0) := by decide +kernel
theorem fx_91_63 : xins 91 63 = (1, 1100, 3, 0) := by decide +kernel
theorem fx_91_66 : xins 91 66 = (15, 0, 0, 0) := by decide +kernel
theorem fx_91_67 : xins 91 67 = (23, 0, 0, 0) := by decide +kernel
theorem fx_91_68 : xins 91 68 = (1, 7, 2, 0) := by decide +kernel
theorem fx_91_70 : xins 91 70 = (1, 1200, 3, 0) := by decide +kernel
theorem fx_91_73 : xins 91 73 = (15, 0, 0, 0) := by decide +kernel
theorem fx_91_74 : xins 91 74 = (13, 666, 7, 5) := by decide +kernel
theorem fx_91_77 : xins 91 77 = (3, 0, 0, 1) := by decide +kernel
theorem fx_91_78 : xins 91 78 = (1, 8, 2, 0) := by decide +kernel
theorem fx_91_80 : xins 91 80 = (20, 0, 0, 0) := by decide +kernel
theorem fx_91_82 : xins 91 82 = (23, 0, 0, 0) := by decide +kernel
theorem fx_91_83 : xins 91 83 = (1, 0, 1, 0) := by decide +kernel
theorem fx_91_84 : xins 91 84 = (1, 0, 1, 0) := by decide +kernel
theorem fx_91_85 : xins 91 85 = (15, 0, 0, 0) := by decide +kernel
theorem fx_91_86 : xins 91 86 = (23, 0, 0, 0) := by decide +kernel
theorem fx_91_87 : xins 91 87 = (1, 1, 1, 0) := by decide +kernel
theorem fx_91_88 : xins 91 88 = (1, 204, 3, 0) := by decide +kernel
theorem fx_91_91 : xins 91 91 = (15, 0, 0, 0) := by decide +kernel
theorem fx_91_92 : xins 91 92 = (23, 0, 0, 0) := by decide +kernel
theorem fx_91_93 : xins 91 93 = (1, 2, 1, 0) := by decide +kernel
theorem fx_91_94 : xins 91 94 = (1, 386, 3, 0) := by decide +kernel
theorem fx_91_97 : xins 91 97 = (15, 0, 0, 0) := by decide +kernel
theorem fx_91_98 : xins 91 98 = (23, 0, 0, 0) := by decide +kernel
theorem fx_91_99 : xins 91 99 = (1, 3, 1, 0) := by decide +kernel
theorem fx_91_100 : xins 91 100 = (1, 498, 3, 0) := by decide +kernel
theorem fx_91_103 : xins 91 103 = (15, 0, 0, 0) := by decide +kernel
theorem fx_91_104 : xins 91 104 = (23, 0, 0, 0) := by decide +kernel
theorem fx_91_105 : xins 91 105 = (1, 4, 1, 0) := by decide +kernel
theorem fx_91_106 : xins 91 106 = (1, 702, 3, 0) := by decide +kernel
theorem fx_91_109 : xins 91 109 = (15, 0, 0, 0) := by decide +kernel
theorem fx_91_110 : xins 91 110 = (23, 0, 0, 0) := by decide +kernel
theorem fx_91_111 : xins 91 111 = (1, 5, 1, 0) := by decide +kernel
theorem fx_91_112 : xins 91 112 = (1, 884, 3, 0) := by decide +kernel
theorem fx_91_115 : xins 91 115 = (15, 0, 0, 0) := by decide +kernel
theorem fx_91_116 : xins 91 116 = (23, 0, 0, 0) := by decide +kernel
theorem fx_91_117 : xins 91 117 = (1, 6, 2, 0) := by decide +kernel
theorem fx_91_119 : xins 91 119 = (1, 1088, 3, 0) := by decide +kernel
theorem fx_91_122 : xins 91 122 = (15, 0, 0, 0) := by decide +kernel
theorem fx_91_123 : xins 91 123 = (23, 0, 0, 0) := by decide +kernel
theorem fx_91_124 : xins 91 124 = (1, 7, 2, 0) := by decide +kernel
theorem fx_91_126 : xins 91 126 = (1, 1200, 3, 0) := by decide +kernel
theorem fx_91_129 : xins 91 129 = (15, 0, 0, 0) := by decide +kernel
theorem fx_91_130 : xins 91 130 = (13, 667, 7, 6) := by decide +kernel
theorem fx_91_133 : xins 91 133 = (3, 0, 0, 1) := by decide +kernel
theorem fx_91_134 : xins 91 134 = (1, 8, 2, 0) := by decide +kernel
theorem fx_91_136 : xins 91 136 = (20, 0, 0, 0) := by decide +kernel
theorem fx_91_138 : xins 91 138 = (23, 0, 0, 0) := by decide +kernel
theorem fx_91_139 : xins 91 139 = (1, 0, 1, 0) := by decide +kernel
theorem fx_91_140 : xins 91 140 = (1, 0, 1, 0) := by decide +kernel
theorem fx_91_141 : xins 91 141 = (15, 0, 0, 0) := by decide +kernel
theorem fx_91_142 : xins 91 142 = (23, 0, 0, 0) := by decide +kernel
theorem fx_91_143 : xins 91 143 = (1, 1, 1, 0) := by decide +kernel
theorem fx_91_144 : xins 91 144 = (1, 0, 1, 0) := by decide +kernel
theorem fx_91_145 : xins 91 145 = (15, 0, 0, 0) := by decide +kernel
theorem fx_91_146 : xins 91 146 = (23, 0, 0, 0) := by decide +kernel
theorem fx_91_147 : xins 91 147 = (1, 2, 1, 0) := by decide +kernel
theorem fx_91_148 : xins 91 148 = (1, 400, 3, 0) := by decide +kernel
theorem fx_91_151 : xins 91 151 = (15, 0, 0, 0) := by decide +kernel
theorem fx_91_152 : xins 91 152 = (23, 0, 0, 0) := by decide +kernel
theorem fx_91_153 : xins 91 153 = (1, 3, 1, 0) := by decide +kernel
theorem fx_91_154 : xins 91 154 = (1, 400, 3, 0) := by decide +kernel
theorem fx_91_157 : xins 91 157 = (15, 0, 0, 0) := by decide +kernel
theorem fx_91_158 : xins 91 158 = (23, 0, 0, 0) := by decide +kernel
theorem fx_91_159 : xins 91 159 = (1, 4, 1, 0) := by decide +kernel
theorem fx_91_160 : xins 91 160 = (1, 700, 3, 0) := by decide +kernel
theorem fx_91_163 : xins 91 163 = (15, 0, 0, 0) := by decide +kernel
theorem fx_91_164 : xins 91 164 = (23, 0, 0, 0) := by decide +kernel
theorem fx_91_165 : xins 91 165 = (1, 5, 1, 0) := by decide +kernel
theorem fx_91_166 : xins 91 166 = (1, 700, 3, 0) := by decide +kernel
theorem fx_91_169 : xins 91 169 = (15, 0, 0, 0) := by decide +kernel
theorem fx_91_170 : xins 91 170 = (23, 0, 0, 0) := by decide +kernel
theorem fx_91_171 : xins 91 171 = (1, 6, 2, 0) := by decide +kernel
theorem fx_91_173 : xins 91 173 = (1, 1200, 3, 0) := by decide +kernel
theorem fx_91_176 : xins 91 176 = (15, 0, 0, 0) := by decide +kernel
theorem fx_91_177 : xins 91 177 = (23, 0, 0, 0) := by decide +kernel
theorem fx_91_178 : xins 91 178 = (1, 7, 2, 0) := by decide +kernel
theorem fx_91_180 : xins 91 180 = (1, 1200, 3, 0) := by decide +kernel
theorem fx_91_183 : xins 91 183 = (15, 0, 0, 0) := by decide +kernel
theorem fx_91_184 : xins 91 184 = (13, 668, 7, 7) := by decide +kernel
theorem fx_91_187 : xins 91 187 = (3, 0, 0, 1) := by decide +kernel
theorem fx_91_188 : xins 91 188 = (1, 202, 3, 0) := by decide +kernel
theorem fx_91_191 : xins 91 191 = (20, 0, 0, 0) := by decide +kernel
theorem fx_91_193 : xins 91 193 = (13, 669, 7, 8) := by decide +kernel
theorem fx_91_196 : xins 91 196 = (3, 0, 0, 1) := by decide +kernel
theorem fx_91_197 : xins 91 197 = (1, 202, 3, 0) := by decide +kernel
theorem fx_91_200 : xins 91 200 = (20, 0, 0, 0) := by decide +kernel
theorem fx_91_202 : xins 91 202 = (13, 670, 7, 9) := by decide +kernel
theorem fx_91_205 : xins 91 205 = (3, 0, 0, 1) := by decide +kernel
theorem fx_91_206 : xins 91 206 = (1, 96, 2, 0) := by decide +kernel
theorem fx_91_208 : xins 91 208 = (20, 0, 0, 0) := by decide +kernel
theorem fx_91_210 : xins 91 210 = (13, 677, 7, 16) := by decide +kernel
theorem fx_91_213 : xins 91 213 = (3, 0, 0, 1) := by decide +kernel
theorem fx_91_214 : xins 91 214 = (1, 576, 3, 0) := by decide +kernel
theorem fx_91_217 : xins 91 217 = (20, 0, 0, 0) := by decide +kernel
theorem fx_91_219 : xins 91 219 = (13, 678, 7, 17) := by decide +kernel
theorem fx_91_222 : xins 91 222 = (3, 0, 0, 1) := by decide +kernel
theorem fx_91_223 : xins 91 223 = (1, 20480, 3, 0) := by decide +kernel
theorem fx_91_226 : xins 91 226 = (20, 0, 0, 0) := by decide +kernel
theorem fx_91_228 : xins 91 228 = (13, 679, 7, 18) := by decide +kernel
theorem fx_91_231 : xins 91 231 = (3, 0, 0, 1) := by decide +kernel
theorem fx_91_232 : xins 91 232 = (1, 20480, 3, 0) := by decide +kernel
theorem fx_91_235 : xins 91 235 = (20, 0, 0, 0) := by decide +kernel
theorem fx_91_237 : xins 91 237 = (13, 680, 7, 19) := by decide +kernel
theorem fx_91_240 : xins 91 240 = (3, 0, 0, 1) := by decide +kernel
theorem fx_91_241 : xins 91 241 = (1, 8, 2, 0) := by decide +kernel
theorem fx_91_243 : xins 91 243 = (20, 0, 0, 0) := by decide +kernel
theorem fx_91_245 : xins 91 245 = (13, 683, 7, 22) := by decide +kernel
theorem fx_91_248 : xins 91 248 = (30, 0, 0, 0) := by decide +kernel
theorem xq_92 : xnth xprog 92 [] = xk_92 := rfl
theorem fx_92_0 : xins 92 0 = (3, 0, 0, 1) := by decide +kernel
theorem fx_92_1 : xins 92 1 = (1, 0, 1, 0) := by decide +kernel
theorem fx_92_2 : xins 92 2 = (13, 661, 7, 0) := by decide +kernel
theorem fx_92_5 : xins 92 5 = (3, 0, 0, 1) := by decide +kernel
theorem fx_92_6 : xins 92 6 = (28, 735, 93, 1) := by decide +kernel
theorem fx_92_9 : xins 92 9 = (3, 0, 0, 1) := by decide +kernel
theorem fx_92_10 : xins 92 10 = (12, 664, 7, 3) := by decide +kernel
theorem fx_92_13 : xins 92 13 = (9, 0, 1, 18) := by decide +kernel
theorem fx_92_16 : xins 92 16 = (1, 0, 1, 0) := by decide +kernel
theorem fx_92_17 : xins 92 17 = (29, 0, 0, 0) := by decide +kernel
theorem fx_92_18 : xins 92 18 = (3, 0, 0, 1) := by decide +kernel
theorem fx_92_19 : xins 92 19 = (3, 0, 0, 1) := by decide +kernel
theorem fx_92_20 : xins 92 20 = (12, 664, 7, 3) := by decide +kernel
theorem fx_92_23 : xins 92 23 = (1, 1, 1, 0) := by decide +kernel
theorem fx_92_24 : xins 92 24 = (7, 0, 1, 0) := by decide +kernel
theorem fx_92_25 : xins 92 25 = (13, 664, 7, 3) := by decide +kernel
theorem fx_92_28 : xins 92 28 = (1, 0, 1, 0) := by decide +kernel
theorem fx_92_29 : xins 92 29 = (4, 0, 1, 1) := by decide +kernel
theorem fx_92_30 : xins 92 30 = (2, 0, 1, 1) := by decide +kernel
theorem fx_92_31 : xins 92 31 = (1, 112, 2, 0) := by decide +kernel
theorem fx_92_33 : xins 92 33 = (10, 0, 3, 62) := by decide +kernel
theorem fx_92_36 : xins 92 36 = (3, 0, 0, 1) := by decide +kernel
theorem fx_92_37 : xins 92 37 = (12, 662, 7, 1) := by decide +kernel
theorem fx_92_40 : xins 92 40 = (2, 0, 1, 1) := by decide +kernel
theorem fx_92_41 : xins 92 41 = (3, 0, 0, 1) := by decide +kernel
theorem fx_92_42 : xins 92 42 = (12, 663, 7, 2) := by decide +kernel
theorem fx_92_45 : xins 92 45 = (3, 0, 0, 1) := by decide +kernel
theorem fx_92_46 : xins 92 46 = (12, 664, 7, 3) := by decide +kernel
theorem fx_92_49 : xins 92 49 = (1, 112, 2, 0) := by decide +kernel
theorem fx_92_51 : xins 92 51 = (7, 0, 2, 0) := by decide +kernel
theorem fx_92_52 : xins 92 52 = (2, 0, 1, 1) := by decide +kernel
theorem fx_92_53 : xins 92 53 = (7, 0, 0, 0) := by decide +kernel
theorem fx_92_54 : xins 92 54 = (14, 0, 0, 0) := by decide +kernel
theorem fx_92_55 : xins 92 55 = (15, 0, 0, 0) := by decide +kernel
theorem fx_92_56 : xins 92 56 = (6, 1, 1, 0) := by decide +kernel
theorem fx_92_59 : xins 92 59 = (11, 0, 0, 30) := by decide +kernel
theorem fx_92_62 : xins 92 62 = (1, 1, 1, 0) := by decide +kernel
theorem fx_92_63 : xins 92 63 = (29, 0, 0, 0) := by decide +kernel
theorem xq_93 : xnth xprog 93 [] = xk_93 := rfl
theorem fx_93_0 : xins 93 0 = (3, 0, 0, 1) := by decide +kernel
theorem fx_93_1 : xins 93 1 = (12, 665, 7, 4) := by decide +kernel
theorem fx_93_4 : xins 93 4 = (9, 0, 0, 8) := by decide +kernel
theorem fx_93_7 : xins 93 7 = (30, 0, 0, 0) := by decide +kernel
theorem fx_93_8 : xins 93 8 = (3, 0, 0, 1) := by decide +kernel
theorem fx_93_9 : xins 93 9 = (1, 1, 1, 0) := by decide +kernel
theorem fx_93_10 : xins 93 10 = (13, 665, 7, 4) := by decide +kernel
theorem fx_93_13 : xins 93 13 = (3, 0, 0, 1) := by decide +kernel
theorem fx_93_14 : xins 93 14 = (12, 662, 7, 1) := by decide +kernel
theorem fx_93_17 : xins 93 17 = (1, 1, 1, 0) := by decide +kernel
theorem fx_93_18 : xins 93 18 = (1, 6, 2, 0) := by decide +kernel
theorem fx_93_20 : xins 93 20 = (15, 0, 0, 0) := by decide +kernel
theorem fx_93_21 : xins 93 21 = (3, 0, 0, 1) := by decide +kernel
theorem fx_93_22 : xins 93 22 = (12, 662, 7, 1) := by decide +kernel
theorem fx_93_25 : xins 93 25 = (1, 2, 1, 0) := by decide +kernel
theorem fx_93_26 : xins 93 26 = (1, 5, 1, 0) := by decide +kernel
theorem fx_93_27 : xins 93 27 = (15, 0, 0, 0) := by decide +kernel
theorem fx_93_28 : xins 93 28 = (1, 0, 1, 0) := by decide +kernel
theorem fx_93_29 : xins 93 29 = (4, 0, 1, 1) := by decide +kernel
theorem fx_93_30 : xins 93 30 = (2, 0, 1, 1) := by decide +kernel
theorem fx_93_31 : xins 93 31 = (1, 8, 2, 0) := by decide +kernel
theorem fx_93_33 : xins 93 33 = (10, 0, 3, 51) := by decide +kernel
theorem fx_93_36 : xins 93 36 = (3, 0, 0, 1) := by decide +kernel
theorem fx_93_37 : xins 93 37 = (12, 662, 7, 1) := by decide +kernel
theorem fx_93_40 : xins 93 40 = (1, 4, 1, 0) := by decide +kernel
theorem fx_93_41 : xins 93 41 = (2, 0, 1, 1) := by decide +kernel
theorem fx_93_42 : xins 93 42 = (7, 0, 0, 0) := by decide +kernel
theorem fx_93_43 : xins 93 43 = (1, (-1), 1, 0) := by decide +kernel
theorem fx_93_44 : xins 93 44 = (15, 0, 0, 0) := by decide +kernel
theorem fx_93_45 : xins 93 45 = (6, 1, 1, 0) := by decide +kernel
theorem fx_93_48 : xins 93 48 = (11, 0, 0, 30) := by decide +kernel
theorem fx_93_51 : xins 93 51 = (1, 0, 1, 0) := by decide +kernel
theorem fx_93_52 : xins 93 52 = (4, 0, 1, 1) := by decide +kernel
theorem fx_93_53 : xins 93 53 = (2, 0, 1, 1) := by decide +kernel
theorem fx_93_54 : xins 93 54 = (1, 4, 1, 0) := by decide +kernel
theorem fx_93_55 : xins 93 55 = (10, 0, 3, 74) := by decide +kernel
theorem fx_93_58 : xins 93 58 = (3, 0, 0, 1) := by decide +kernel
theorem fx_93_59 : xins 93 59 = (12, 662, 7, 1) := by decide +kernel
theorem fx_93_62 : xins 93 62 = (1, 12, 2, 0) := by decide +kernel
theorem fx_93_64 : xins 93 64 = (2, 0, 1, 1) := by decide +kernel
theorem fx_93_65 : xins 93 65 = (7, 0, 0, 0) := by decide +kernel
theorem fx_93_66 : xins 93 66 = (1, 1, 1, 0) := by decide +kernel
theorem fx_93_67 : xins 93 67 = (15, 0, 0, 0) := by decide +kernel
theorem fx_93_68 : xins 93 68 = (6, 1, 1, 0) := by decide +kernel
theorem fx_93_71 : xins 93 71 = (11, 0, 0, 53) := by decide +kernel
theorem fx_93_74 : xins 93 74 = (30, 0, 0, 0) := by decide +kernel
theorem xq_94 : xnth xprog 94 [] = xk_94 := rfl
theorem fx_94_0 : xins 94 0 = (3, 0, 0, 1) := by decide +kernel
theorem fx_94_1 : xins 94 1 = (1, 0, 1, 0) := by decide +kernel
theorem fx_94_2 : xins 94 2 = (13, 661, 7, 0) := by decide +kernel
theorem fx_94_5 : xins 94 5 = (3, 0, 0, 1) := by decide +kernel
theorem fx_94_6 : xins 94 6 = (28, 735, 93, 1) := by decide +kernel
theorem fx_94_9 : xins 94 9 = (2, 0, 1, 1) := by decide +kernel
theorem fx_94_10 : xins 94 10 = (9, 0, 2, 52) := by decide +kernel
theorem fx_94_13 : xins 94 13 = (2, 0, 1, 1) := by decide +kernel
theorem fx_94_14 : xins 94 14 = (1, 9999, 3, 0) := by decide +kernel
theorem fx_94_17 : xins 94 17 = (10, 0, 4, 52) := by decide +kernel
theorem fx_94_20 : xins 94 20 = (2, 0, 2, 1) := by decide +kernel
theorem fx_94_21 : xins 94 21 = (1, 1, 1, 0) := by decide +kernel
theorem fx_94_22 : xins 94 22 = (10, 0, 2, 52) := by decide +kernel
theorem fx_94_25 : xins 94 25 = (2, 0, 2, 1) := by decide +kernel
theorem fx_94_26 : xins 94 26 = (1, 20, 2, 0) := by decide +kernel
theorem fx_94_28 : xins 94 28 = (10, 0, 4, 52) := by decide +kernel
theorem fx_94_31 : xins 94 31 = (2, 0, 3, 1) := by decide +kernel
theorem fx_94_32 : xins 94 32 = (9, 0, 2, 52) := by decide +kernel
theorem fx_94_35 : xins 94 35 = (2, 0, 3, 1) := by decide +kernel
theorem fx_94_36 : xins 94 36 = (1, 20, 2, 0) := by decide +kernel
theorem fx_94_38 : xins 94 38 = (10, 0, 4, 52) := by decide +kernel
theorem fx_94_41 : xins 94 41 = (3, 0, 0, 1) := by decide +kernel
theorem fx_94_42 : xins 94 42 = (12, 662, 7, 1) := by decide +kernel
theorem fx_94_45 : xins 94 45 = (1, 0, 1, 0) := by decide +kernel
theorem fx_94_46 : xins 94 46 = (14, 0, 0, 0) := by decide +kernel
theorem fx_94_47 : xins 94 47 = (1, 12, 2, 0) := by decide +kernel
theorem fx_94_49 : xins 94 49 = (10, 0, 1, 54) := by decide +kernel
theorem fx_94_52 : xins 94 52 = (1, (-1), 1, 0) := by decide +kernel
theorem fx_94_53 : xins 94 53 = (29, 0, 0, 0) := by decide +kernel
theorem fx_94_54 : xins 94 54 = (3, 0, 0, 1) := by decide +kernel
theorem fx_94_55 : xins 94 55 = (28, 743, 95, 1) := by decide +kernel
theorem fx_94_58 : xins 94 58 = (1, 20, 2, 0) := by decide +kernel
theorem fx_94_60 : xins 94 60 = (1, 7, 2, 0) := by decide +kernel
theorem fx_94_62 : xins 94 62 = (3, 0, 0, 1) := by decide +kernel
theorem fx_94_63 : xins 94 63 = (12, 662, 7, 1) := by decide +kernel
theorem fx_94_66 : xins 94 66 = (1, 0, 1, 0) := by decide +kernel
theorem fx_94_67 : xins 94 67 = (14, 0, 0, 0) := by decide +kernel
theorem fx_94_68 : xins 94 68 = (7, 0, 2, 0) := by decide +kernel
theorem fx_94_69 : xins 94 69 = (7, 0, 0, 0) := by decide +kernel
theorem fx_94_70 : xins 94 70 = (4, 0, 4, 2) := by decide +kernel
theorem fx_94_72 : xins 94 72 = (3, 0, 0, 1) := by decide +kernel
theorem fx_94_73 : xins 94 73 = (12, 662, 7, 1) := by decide +kernel
theorem fx_94_76 : xins 94 76 = (2, 0, 4, 2) := by decide +kernel
theorem fx_94_78 : xins 94 78 = (2, 0, 1, 1) := by decide +kernel
theorem fx_94_79 : xins 94 79 = (15, 0, 0, 0) := by decide +kernel
theorem fx_94_80 : xins 94 80 = (3, 0, 0, 1) := by decide +kernel
theorem fx_94_81 : xins 94 81 = (12, 662, 7, 1) := by decide +kernel
theorem fx_94_84 : xins 94 84 = (2, 0, 4, 2) := by decide +kernel
theorem fx_94_86 : xins 94 86 = (1, 1, 1, 0) := by decide +kernel
theorem fx_94_87 : xins 94 87 = (7, 0, 0, 0) := by decide +kernel
theorem fx_94_88 : xins 94 88 = (2, 0, 2, 1) := by decide +kernel
theorem fx_94_89 : xins 94 89 = (15, 0, 0, 0) := by decide +kernel
theorem fx_94_90 : xins 94 90 = (3, 0, 0, 1) := by decide +kernel
theorem fx_94_91 : xins 94 91 = (12, 662, 7, 1) := by decide +kernel
theorem fx_94_94 : xins 94 94 = (2, 0, 4, 2) := by decide +kernel
theorem fx_94_96 : xins 94 96 = (1, 2, 1, 0) := by decide +kernel
theorem fx_94_97 : xins 94 97 = (7, 0, 0, 0) := by decide +kernel
theorem fx_94_98 : xins 94 98 = (2, 0, 3, 1) := by decide +kernel
theorem fx_94_99 : xins 94 99 = (15, 0, 0, 0) := by decide +kernel
theorem fx_94_100 : xins 94 100 = (3, 0, 0, 1) := by decide +kernel
theorem fx_94_101 : xins 94 101 = (12, 662, 7, 1) := by decide +kernel
theorem fx_94_104 : xins 94 104 = (2, 0, 4, 2) := by decide +kernel
theorem fx_94_106 : xins 94 106 = (1, 3, 1, 0) := by decide +kernel
theorem fx_94_107 : xins 94 107 = (7, 0, 0, 0) := by decide +kernel
theorem fx_94_108 : xins 94 108 = (1, 0, 1, 0) := by decide +kernel
theorem fx_94_109 : xins 94 109 = (15, 0, 0, 0) := by decide +kernel
theorem fx_94_110 : xins 94 110 = (3, 0, 0, 1) := by decide +kernel
theorem fx_94_111 : xins 94 111 = (12, 662, 7, 1) := by decide +kernel
theorem fx_94_114 : xins 94 114 = (2, 0, 4, 2) := by decide +kernel
theorem fx_94_116 : xins 94 116 = (1, 4, 1, 0) := by decide +kernel
theorem fx_94_117 : xins 94 117 = (7, 0, 0, 0) := by decide +kernel
theorem fx_94_118 : xins 94 118 = (1, (-1), 1, 0) := by decide +kernel
theorem fx_94_119 : xins 94 119 = (15, 0, 0, 0) := by decide +kernel
theorem fx_94_120 : xins 94 120 = (3, 0, 0, 1) := by decide +kernel
theorem fx_94_121 : xins 94 121 = (12, 662, 7, 1) := by decide +kernel
theorem fx_94_124 : xins 94 124 = (2, 0, 4, 2) := by decide +kernel
theorem fx_94_126 : xins 94 126 = (1, 5, 1, 0) := by decide +kernel
theorem fx_94_127 : xins 94 127 = (7, 0, 0, 0) := by decide +kernel
theorem fx_94_128 : xins 94 128 = (1, (-1), 1, 0) := by decide +kernel
theorem fx_94_129 : xins 94 129 = (15, 0, 0, 0) := by decide +kernel
theorem fx_94_130 : xins 94 130 = (3, 0, 0, 1) := by decide +kernel
theorem fx_94_131 : xins 94 131 = (12, 662, 7, 1) := by decide +kernel
theorem fx_94_134 : xins 94 134 = (2, 0, 4, 2) := by decide +kernel
theorem fx_94_136 : xins 94 136 = (1, 6, 2, 0) := by decide +kernel
theorem fx_94_138 : xins 94 138 = (7, 0, 0, 0) := by decide +kernel
theorem fx_94_139 : xins 94 139 = (1, 0, 1, 0) := by decide +kernel
theorem fx_94_140 : xins 94 140 = (15, 0, 0, 0) := by decide +kernel
theorem fx_94_141 : xins 94 141 = (3, 0, 0, 1) := by decide +kernel
theorem fx_94_142 : xins 94 142 = (12, 662, 7, 1) := by decide +kernel
theorem fx_94_145 : xins 94 145 = (1, 0, 1, 0) := by decide +kernel
theorem fx_94_146 : xins 94 146 = (3, 0, 0, 1) := by decide +kernel
theorem fx_94_147 : xins 94 147 = (12, 662, 7, 1) := by decide +kernel
theorem fx_94_150 : xins 94 150 = (1, 0, 1, 0) := by decide +kernel
theorem fx_94_151 : xins 94 151 = (14, 0, 0, 0) := by decide +kernel
theorem fx_94_152 : xins 94 152 = (1, 1, 1, 0) := by decide +kernel
theorem fx_94_153 : xins 94 153 = (7, 0, 0, 0) := by decide +kernel
theorem fx_94_154 : xins 94 154 = (15, 0, 0, 0) := by decide +kernel
theorem fx_94_155 : xins 94 155 = (3, 0, 0, 1) := by decide +kernel
theorem fx_94_156 : xins 94 156 = (12, 662, 7, 1) := by decide +kernel
theorem fx_94_159 : xins 94 159 = (1, 0, 1, 0) := by decide +kernel
theorem fx_94_160 : xins 94 160 = (14, 0, 0, 0) := by decide +kernel
theorem fx_94_161 : xins 94 161 = (1, 1, 1, 0) := by decide +kernel
theorem fx_94_162 : xins 94 162 = (7, 0, 1, 0) := by decide +kernel
theorem fx_94_163 : xins 94 163 = (29, 0, 0, 0) := by decide +kernel
theorem xq_95 : xnth xprog 95 [] = xk_95 := rfl
theorem fx_95_0 : xins 95 0 = (3, 0, 0, 1) := by decide +kernel
theorem fx_95_1 : xins 95 1 = (12, 664, 7, 3) := by decide +kernel
theorem fx_95_4 : xins 95 4 = (1, 6, 2, 0) := by decide +kernel
theorem fx_95_6 : xins 95 6 = (10, 0, 1, 44) := by decide +kernel
theorem fx_95_9 : xins 95 9 = (1, 0, 1, 0) := by decide +kernel
theorem fx_95_10 : xins 95 10 = (4, 0, 1, 1) := by decide +kernel
theorem fx_95_11 : xins 95 11 = (2, 0, 1, 1) := by decide +kernel
theorem fx_95_12 : xins 95 12 = (1, 560, 3, 0) := by decide +kernel
theorem fx_95_15 : xins 95 15 = (10, 0, 3, 39) := by decide +kernel
theorem fx_95_18 : xins 95 18 = (3, 0, 0, 1) := by decide +kernel
theorem fx_95_19 : xins 95 19 = (12, 663, 7, 2) := by decide +kernel
theorem fx_95_22 : xins 95 22 = (2, 0, 1, 1) := by decide +kernel
theorem fx_95_23 : xins 95 23 = (3, 0, 0, 1) := by decide +kernel
theorem fx_95_24 : xins 95 24 = (12, 663, 7, 2) := by decide +kernel
theorem fx_95_27 : xins 95 27 = (2, 0, 1, 1) := by decide +kernel
theorem fx_95_28 : xins 95 28 = (1, 112, 2, 0) := by decide +kernel
theorem fx_95_30 : xins 95 30 = (7, 0, 0, 0) := by decide +kernel
theorem fx_95_31 : xins 95 31 = (14, 0, 0, 0) := by decide +kernel
theorem fx_95_32 : xins 95 32 = (15, 0, 0, 0) := by decide +kernel
theorem fx_95_33 : xins 95 33 = (6, 1, 1, 0) := by decide +kernel
theorem fx_95_36 : xins 95 36 = (11, 0, 0, 11) := by decide +kernel
theorem fx_95_39 : xins 95 39 = (3, 0, 0, 1) := by decide +kernel
theorem fx_95_40 : xins 95 40 = (1, 5, 1, 0) := by decide +kernel
theorem fx_95_41 : xins 95 41 = (13, 664, 7, 3) := by decide +kernel
theorem fx_95_44 : xins 95 44 = (1, 0, 1, 0) := by decide +kernel
theorem fx_95_45 : xins 95 45 = (4, 0, 1, 1) := by decide +kernel
theorem fx_95_46 : xins 95 46 = (2, 0, 1, 1) := by decide +kernel
theorem fx_95_47 : xins 95 47 = (1, 112, 2, 0) := by decide +kernel
theorem fx_95_49 : xins 95 49 = (10, 0, 3, 78) := by decide +kernel
theorem fx_95_52 : xins 95 52 = (3, 0, 0, 1) := by decide +kernel
theorem fx_95_53 : xins 95 53 = (12, 663, 7, 2) := by decide +kernel
theorem fx_95_56 : xins 95 56 = (3, 0, 0, 1) := by decide +kernel
theorem fx_95_57 : xins 95 57 = (12, 664, 7, 3) := by decide +kernel
theorem fx_95_60 : xins 95 60 = (1, 112, 2, 0) := by decide +kernel
theorem fx_95_62 : xins 95 62 = (7, 0, 2, 0) := by decide +kernel
theorem fx_95_63 : xins 95 63 = (2, 0, 1, 1) := by decide +kernel
theorem fx_95_64 : xins 95 64 = (7, 0, 0, 0) := by decide +kernel
theorem fx_95_65 : xins 95 65 = (3, 0, 0, 1) := by decide +kernel
theorem fx_95_66 : xins 95 66 = (12, 662, 7, 1) := by decide +kernel
theorem fx_95_69 : xins 95 69 = (2, 0, 1, 1) := by decide +kernel
theorem fx_95_70 : xins 95 70 = (14, 0, 0, 0) := by decide +kernel
theorem fx_95_71 : xins 95 71 = (15, 0, 0, 0) := by decide +kernel
theorem fx_95_72 : xins 95 72 = (6, 1, 1, 0) := by decide +kernel
theorem fx_95_75 : xins 95 75 = (11, 0, 0, 46) := by decide +kernel
theorem fx_95_78 : xins 95 78 = (3, 0, 0, 1) := by decide +kernel
theorem fx_95_79 : xins 95 79 = (3, 0, 0, 1) := by decide +kernel
theorem fx_95_80 : xins 95 80 = (12, 664, 7, 3) := by decide +kernel
theorem fx_95_83 : xins 95 83 = (1, 1, 1, 0) := by decide +kernel
theorem fx_95_84 : xins 95 84 = (7, 0, 0, 0) := by decide +kernel
theorem fx_95_85 : xins 95 85 = (13, 664, 7, 3) := by decide +kernel
theorem fx_95_88 : xins 95 88 = (30, 0, 0, 0) := by decide +kernel
theorem xq_96 : xnth xprog 96 [] = xk_96 := rfl
theorem fx_96_0 : xins 96 0 = (3, 0, 0, 1) := by decide +kernel
theorem fx_96_1 : xins 96 1 = (1, 0, 1, 0) := by decide +kernel
theorem fx_96_2 : xins 96 2 = (13, 661, 7, 0) := by decide +kernel
theorem fx_96_5 : xins 96 5 = (3, 0, 0, 1) := by decide +kernel
theorem fx_96_6 : xins 96 6 = (28, 735, 93, 1) := by decide +kernel
theorem fx_96_9 : xins 96 9 = (3, 0, 0, 1) := by decide +kernel
theorem fx_96_10 : xins 96 10 = (2, 0, 1, 1) := by decide +kernel
theorem fx_96_11 : xins 96 11 = (28, 751, 97, 2) := by decide +kernel
theorem fx_96_14 : xins 96 14 = (9, 0, 0, 25) := by decide +kernel
theorem fx_96_17 : xins 96 17 = (3, 0, 0, 1) := by decide +kernel
theorem fx_96_18 : xins 96 18 = (2, 0, 1, 1) := by decide +kernel
theorem fx_96_19 : xins 96 19 = (28, 755, 98, 2) := by decide +kernel
theorem fx_96_22 : xins 96 22 = (9, 0, 1, 27) := by decide +kernel
theorem fx_96_25 : xins 96 25 = (1, 0, 1, 0) := by decide +kernel
theorem fx_96_26 : xins 96 26 = (29, 0, 0, 0) := by decide +kernel
theorem fx_96_27 : xins 96 27 = (3, 0, 0, 1) := by decide +kernel
theorem fx_96_28 : xins 96 28 = (28, 743, 95, 1) := by decide +kernel
theorem fx_96_31 : xins 96 31 = (3, 0, 0, 1) := by decide +kernel
theorem fx_96_32 : xins 96 32 = (12, 662, 7, 1) := by decide +kernel
theorem fx_96_35 : xins 96 35 = (1, 20, 2, 0) := by decide +kernel
theorem fx_96_37 : xins 96 37 = (1, 7, 2, 0) := by decide +kernel
theorem fx_96_39 : xins 96 39 = (2, 0, 1, 1) := by decide +kernel
theorem fx_96_40 : xins 96 40 = (7, 0, 2, 0) := by decide +kernel
theorem fx_96_41 : xins 96 41 = (7, 0, 0, 0) := by decide +kernel
theorem fx_96_42 : xins 96 42 = (1, 3, 1, 0) := by decide +kernel
theorem fx_96_43 : xins 96 43 = (7, 0, 0, 0) := by decide +kernel
theorem fx_96_44 : xins 96 44 = (1, 2, 1, 0) := by decide +kernel
theorem fx_96_45 : xins 96 45 = (15, 0, 0, 0) := by decide +kernel
theorem fx_96_46 : xins 96 46 = (1, 1, 1, 0) := by decide +kernel
theorem fx_96_47 : xins 96 47 = (29, 0, 0, 0) := by decide +kernel
theorem xq_97 : xnth xprog 97 [] = xk_97 := rfl
theorem fx_97_0 : xins 97 0 = (2, 0, 1, 1) := by decide +kernel
theorem fx_97_1 : xins 97 1 = (9, 0, 2, 18) := by decide +kernel
theorem fx_97_4 : xins 97 4 = (2, 0, 1, 1) := by decide +kernel
theorem fx_97_5 : xins 97 5 = (3, 0, 0, 1) := by decide +kernel
theorem fx_97_6 : xins 97 6 = (12, 662, 7, 1) := by decide +kernel
theorem fx_97_9 : xins 97 9 = (1, 0, 1, 0) := by decide +kernel
theorem fx_97_10 : xins 97 10 = (14, 0, 0, 0) := by decide +kernel
theorem fx_97_11 : xins 97 11 = (10, 0, 3, 18) := by decide +kernel
theorem fx_97_14 : xins 97 14 = (1, 1, 1, 0) := by decide +kernel
theorem fx_97_15 : xins 97 15 = (11, 0, 0, 19) := by decide +kernel
theorem fx_97_18 : xins 97 18 = (1, 0, 1, 0) := by decide +kernel
theorem fx_97_19 : xins 97 19 = (29, 0, 0, 0) := by decide +kernel
theorem xq_98 : xnth xprog 98 [] = xk_98 := rfl
theorem fx_98_0 : xins 98 0 = (3, 0, 0, 1) := by decide +kernel
theorem fx_98_1 : xins 98 1 = (2, 0, 1, 1) := by decide +kernel
theorem fx_98_2 : xins 98 2 = (1, 3, 1, 0) := by decide +kernel
theorem fx_98_3 : xins 98 3 = (28, 759, 99, 3) := by decide +kernel
theorem fx_98_6 : xins 98 6 = (9, 0, 1, 13) := by decide +kernel
theorem fx_98_9 : xins 98 9 = (1, 1, 1, 0) := by decide +kernel
theorem fx_98_10 : xins 98 10 = (11, 0, 0, 14) := by decide +kernel
theorem fx_98_13 : xins 98 13 = (1, 0, 1, 0) := by decide +kernel
theorem fx_98_14 : xins 98 14 = (29, 0, 0, 0) := by decide +kernel
theorem xq_99 : xnth xprog 99 [] = xk_99 := rfl
theorem fx_99_0 : xins 99 0 = (3, 0, 0, 1) := by decide +kernel
theorem fx_99_1 : xins 99 1 = (12, 662, 7, 1) := by decide +kernel
theorem fx_99_4 : xins 99 4 = (1, 20, 2, 0) := by decide +kernel
theorem fx_99_6 : xins 99 6 = (1, 7, 2, 0) := by decide +kernel
theorem fx_99_8 : xins 99 8 = (2, 0, 1, 1) := by decide +kernel
theorem fx_99_9 : xins 99 9 = (7, 0, 2, 0) := by decide +kernel
theorem fx_99_10 : xins 99 10 = (7, 0, 0, 0) := by decide +kernel
theorem fx_99_11 : xins 99 11 = (2, 0, 2, 1) := by decide +kernel
theorem fx_99_12 : xins 99 12 = (7, 0, 0, 0) := by decide +kernel
theorem fx_99_13 : xins 99 13 = (14, 0, 0, 0) := by decide +kernel
theorem fx_99_14 : xins 99 14 = (29, 0, 0, 0) := by decide +kernel
theorem xq_100 : xnth xprog 100 [] = xk_100 := rfl
theorem fx_100_0 : xins 100 0 = (3, 0, 0, 1) := by decide +kernel
theorem fx_100_1 : xins 100 1 = (1, 0, 1, 0) := by decide +kernel
theorem fx_100_2 : xins 100 2 = (13, 661, 7, 0) := by decide +kernel
theorem fx_100_5 : xins 100 5 = (3, 0, 0, 1) := by decide +kernel
theorem fx_100_6 : xins 100 6 = (28, 735, 93, 1) := by decide +kernel
theorem fx_100_9 : xins 100 9 = (2, 0, 1, 1) := by decide +kernel
theorem fx_100_10 : xins 100 10 = (1, 1, 1, 0) := by decide +kernel
theorem fx_100_11 : xins 100 11 = (10, 0, 2, 30) := by decide +kernel
theorem fx_100_14 : xins 100 14 = (2, 0, 1, 1) := by decide +kernel
theorem fx_100_15 : xins 100 15 = (1, 20, 2, 0) := by decide +kernel
theorem fx_100_17 : xins 100 17 = (10, 0, 4, 30) := by decide +kernel
theorem fx_100_20 : xins 100 20 = (2, 0, 2, 1) := by decide +kernel
theorem fx_100_21 : xins 100 21 = (9, 0, 2, 30) := by decide +kernel
theorem fx_100_24 : xins 100 24 = (2, 0, 2, 1) := by decide +kernel
theorem fx_100_25 : xins 100 25 = (1, 50, 2, 0) := by decide +kernel
theorem fx_100_27 : xins 100 27 = (10, 0, 5, 32) := by decide +kernel
theorem fx_100_30 : xins 100 30 = (1, 0, 1, 0) := by decide +kernel
theorem fx_100_31 : xins 100 31 = (29, 0, 0, 0) := by decide +kernel
theorem fx_100_32 : xins 100 32 = (3, 0, 0, 1) := by decide +kernel
theorem fx_100_33 : xins 100 33 = (28, 743, 95, 1) := by decide +kernel
theorem fx_100_36 : xins 100 36 = (3, 0, 0, 1) := by decide +kernel
theorem fx_100_37 : xins 100 37 = (12, 662, 7, 1) := by decide +kernel
theorem fx_100_40 : xins 100 40 = (1, 1, 1, 0) := by decide +kernel
theorem fx_100_41 : xins 100 41 = (2, 0, 1, 1) := by decide +kernel
theorem fx_100_42 : xins 100 42 = (15, 0, 0, 0) := by decide +kernel
theorem fx_100_43 : xins 100 43 = (3, 0, 0, 1) := by decide +kernel
theorem fx_100_44 : xins 100 44 = (12, 662, 7, 1) := by decide +kernel
theorem fx_100_47 : xins 100 47 = (1, 2, 1, 0) := by decide +kernel
theorem fx_100_48 : xins 100 48 = (2, 0, 2, 1) := by decide +kernel
theorem fx_100_49 : xins 100 49 = (15, 0, 0, 0) := by decide +kernel
theorem fx_100_50 : xins 100 50 = (1, 1, 1, 0) := by decide +kernel
theorem fx_100_51 : xins 100 51 = (29, 0, 0, 0) := by decide +kernel
theorem xq_101 : xnth xprog 101 [] = xk_101 := rfl
theorem fx_101_0 : xins 101 0 = (3, 0, 0, 1) := by decide +kernel
theorem fx_101_1 : xins 101 1 = (1, 0, 1, 0) := by decide +kernel
theorem fx_101_2 : xins 101 2 = (13, 661, 7, 0) := by decide +kernel
theorem fx_101_5 : xins 101 5 = (3, 0, 0, 1) := by decide +kernel
theorem fx_101_6 : xins 101 6 = (28, 735, 93, 1) := by decide +kernel
theorem fx_101_9 : xins 101 9 = (2, 0, 1, 1) := by decide +kernel
theorem fx_101_10 : xins 101 10 = (9, 0, 2, 31) := by decide +kernel
theorem fx_101_13 : xins 101 13 = (2, 0, 1, 1) := by decide +kernel
theorem fx_101_14 : xins 101 14 = (1, 7, 2, 0) := by decide +kernel
theorem fx_101_16 : xins 101 16 = (10, 0, 4, 31) := by decide +kernel
theorem fx_101_19 : xins 101 19 = (2, 0, 2, 1) := by decide +kernel
theorem fx_101_20 : xins 101 20 = (1, (-1), 1, 0) := by decide +kernel
theorem fx_101_21 : xins 101 21 = (10, 0, 2, 31) := by decide +kernel
theorem fx_101_24 : xins 101 24 = (2, 0, 2, 1) := by decide +kernel
theorem fx_101_25 : xins 101 25 = (1, 9999, 3, 0) := by decide +kernel
theorem fx_101_28 : xins 101 28 = (10, 0, 5, 33) := by decide +kernel
theorem fx_101_31 : xins 101 31 = (1, 0, 1, 0) := by decide +kernel
theorem fx_101_32 : xins 101 32 = (29, 0, 0, 0) := by decide +kernel
theorem fx_101_33 : xins 101 33 = (3, 0, 0, 1) := by decide +kernel
theorem fx_101_34 : xins 101 34 = (28, 743, 95, 1) := by decide +kernel
theorem fx_101_37 : xins 101 37 = (3, 0, 0, 1) := by decide +kernel
theorem fx_101_38 : xins 101 38 = (12, 662, 7, 1) := by decide +kernel
theorem fx_101_41 : xins 101 41 = (1, 4, 1, 0) := by decide +kernel
theorem fx_101_42 : xins 101 42 = (2, 0, 1, 1) := by decide +kernel
theorem fx_101_43 : xins 101 43 = (7, 0, 0, 0) := by decide +kernel
theorem fx_101_44 : xins 101 44 = (2, 0, 2, 1) := by decide +kernel
theorem fx_101_45 : xins 101 45 = (15, 0, 0, 0) := by decide +kernel
theorem fx_101_46 : xins 101 46 = (1, 1, 1, 0) := by decide +kernel
theorem fx_101_47 : xins 101 47 = (29, 0, 0, 0) := by decide +kernel
theorem xq_102 : xnth xprog 102 [] = xk_102 := rfl
theorem fx_102_0 : xins 102 0 = (3, 0, 0, 1) := by decide +kernel
theorem fx_102_1 : xins 102 1 = (1, 0, 1, 0) := by decide +kernel
theorem fx_102_2 : xins 102 2 = (13, 661, 7, 0) := by decide +kernel
theorem fx_102_5 : xins 102 5 = (3, 0, 0, 1) := by decide +kernel
theorem fx_102_6 : xins 102 6 = (28, 735, 93, 1) := by decide +kernel
theorem fx_102_9 : xins 102 9 = (2, 0, 1, 1) := by decide +kernel
theorem fx_102_10 : xins 102 10 = (9, 0, 2, 29) := by decide +kernel
theorem fx_102_13 : xins 102 13 = (2, 0, 1, 1) := by decide +kernel
theorem fx_102_14 : xins 102 14 = (1, 2, 1, 0) := by decide +kernel
theorem fx_102_15 : xins 102 15 = (10, 0, 4, 29) := by decide +kernel
theorem fx_102_18 : xins 102 18 = (2, 0, 2, 1) := by decide +kernel
theorem fx_102_19 : xins 102 19 = (9, 0, 2, 29) := by decide +kernel
theorem fx_102_22 : xins 102 22 = (2, 0, 2, 1) := by decide +kernel
theorem fx_102_23 : xins 102 23 = (1, 8000, 3, 0) := by decide +kernel
theorem fx_102_26 : xins 102 26 = (10, 0, 5, 31) := by decide +kernel
theorem fx_102_29 : xins 102 29 = (1, 0, 1, 0) := by decide +kernel
theorem fx_102_30 : xins 102 30 = (29, 0, 0, 0) := by decide +kernel
theorem fx_102_31 : xins 102 31 = (3, 0, 0, 1) := by decide +kernel
theorem fx_102_32 : xins 102 32 = (28, 743, 95, 1) := by decide +kernel
theorem fx_102_35 : xins 102 35 = (1, 0, 1, 0) := by decide +kernel
theorem fx_102_36 : xins 102 36 = (4, 0, 3, 1) := by decide +kernel
theorem fx_102_37 : xins 102 37 = (2, 0, 3, 1) := by decide +kernel
theorem fx_102_38 : xins 102 38 = (1, 8, 2, 0) := by decide +kernel
theorem fx_102_40 : xins 102 40 = (10, 0, 3, 92) := by decide +kernel
theorem fx_102_43 : xins 102 43 = (3, 0, 0, 1) := by decide +kernel
theorem fx_102_44 : xins 102 44 = (12, 662, 7, 1) := by decide +kernel
theorem fx_102_47 : xins 102 47 = (1, 4, 1, 0) := by decide +kernel
theorem fx_102_48 : xins 102 48 = (2, 0, 3, 1) := by decide +kernel
theorem fx_102_49 : xins 102 49 = (7, 0, 0, 0) := by decide +kernel
theorem fx_102_50 : xins 102 50 = (2, 0, 2, 1) := by decide +kernel
theorem fx_102_51 : xins 102 51 = (2, 0, 1, 1) := by decide +kernel
theorem fx_102_52 : xins 102 52 = (9, 0, 1, 64) := by decide +kernel
theorem fx_102_55 : xins 102 55 = (3, 0, 0, 1) := by decide +kernel
theorem fx_102_56 : xins 102 56 = (12, 666, 7, 5) := by decide +kernel
theorem fx_102_59 : xins 102 59 = (2, 0, 3, 1) := by decide +kernel
theorem fx_102_60 : xins 102 60 = (14, 0, 0, 0) := by decide +kernel
theorem fx_102_61 : xins 102 61 = (11, 0, 0, 84) := by decide +kernel
theorem fx_102_64 : xins 102 64 = (2, 0, 1, 1) := by decide +kernel
theorem fx_102_65 : xins 102 65 = (1, 1, 1, 0) := by decide +kernel
theorem fx_102_66 : xins 102 66 = (10, 0, 1, 78) := by decide +kernel
theorem fx_102_69 : xins 102 69 = (3, 0, 0, 1) := by decide +kernel
theorem fx_102_70 : xins 102 70 = (12, 667, 7, 6) := by decide +kernel
theorem fx_102_73 : xins 102 73 = (2, 0, 3, 1) := by decide +kernel
theorem fx_102_74 : xins 102 74 = (14, 0, 0, 0) := by decide +kernel
theorem fx_102_75 : xins 102 75 = (11, 0, 0, 84) := by decide +kernel
theorem fx_102_78 : xins 102 78 = (3, 0, 0, 1) := by decide +kernel
theorem fx_102_79 : xins 102 79 = (12, 668, 7, 7) := by decide +kernel
theorem fx_102_82 : xins 102 82 = (2, 0, 3, 1) := by decide +kernel
theorem fx_102_83 : xins 102 83 = (14, 0, 0, 0) := by decide +kernel
theorem fx_102_84 : xins 102 84 = (7, 0, 0, 0) := by decide +kernel
theorem fx_102_85 : xins 102 85 = (15, 0, 0, 0) := by decide +kernel
theorem fx_102_86 : xins 102 86 = (6, 1, 3, 0) := by decide +kernel
theorem fx_102_89 : xins 102 89 = (11, 0, 0, 37) := by decide +kernel
theorem fx_102_92 : xins 102 92 = (1, 1, 1, 0) := by decide +kernel
theorem fx_102_93 : xins 102 93 = (29, 0, 0, 0) := by decide +kernel
theorem xq_103 : xnth xprog 103 [] = xk_103 := rfl
theorem fx_103_0 : xins 103 0 = (3, 0, 0, 1) := by decide +kernel
theorem fx_103_1 : xins 103 1 = (1, 0, 1, 0) := by decide +kernel
theorem fx_103_2 : xins 103 2 = (13, 661, 7, 0) := by decide +kernel
theorem fx_103_5 : xins 103 5 = (3, 0, 0, 1) := by decide +kernel
theorem fx_103_6 : xins 103 6 = (28, 735, 93, 1) := by decide +kernel
theorem fx_103_9 : xins 103 9 = (2, 0, 1, 1) := by decide +kernel
theorem fx_103_10 : xins 103 10 = (9, 0, 2, 42) := by decide +kernel
theorem fx_103_13 : xins 103 13 = (2, 0, 1, 1) := by decide +kernel
theorem fx_103_14 : xins 103 14 = (1, 3, 1, 0) := by decide +kernel
theorem fx_103_15 : xins 103 15 = (10, 0, 4, 42) := by decide +kernel
theorem fx_103_18 : xins 103 18 = (2, 0, 2, 1) := by decide +kernel
theorem fx_103_19 : xins 103 19 = (1, (-100), 2, 0) := by decide +kernel
theorem fx_103_21 : xins 103 21 = (10, 0, 2, 42) := by decide +kernel
theorem fx_103_24 : xins 103 24 = (2, 0, 2, 1) := by decide +kernel
theorem fx_103_25 : xins 103 25 = (1, 100, 2, 0) := by decide +kernel
theorem fx_103_27 : xins 103 27 = (10, 0, 4, 42) := by decide +kernel
theorem fx_103_30 : xins 103 30 = (2, 0, 3, 1) := by decide +kernel
theorem fx_103_31 : xins 103 31 = (1, (-100), 2, 0) := by decide +kernel
theorem fx_103_33 : xins 103 33 = (10, 0, 2, 42) := by decide +kernel
theorem fx_103_36 : xins 103 36 = (2, 0, 3, 1) := by decide +kernel
theorem fx_103_37 : xins 103 37 = (1, 100, 2, 0) := by decide +kernel
theorem fx_103_39 : xins 103 39 = (10, 0, 5, 44) := by decide +kernel
theorem fx_103_42 : xins 103 42 = (1, 0, 1, 0) := by decide +kernel
theorem fx_103_43 : xins 103 43 = (29, 0, 0, 0) := by decide +kernel
theorem fx_103_44 : xins 103 44 = (3, 0, 0, 1) := by decide +kernel
theorem fx_103_45 : xins 103 45 = (28, 743, 95, 1) := by decide +kernel
theorem fx_103_48 : xins 103 48 = (3, 0, 0, 1) := by decide +kernel
theorem fx_103_49 : xins 103 49 = (12, 662, 7, 1) := by decide +kernel
theorem fx_103_52 : xins 103 52 = (1, 12, 2, 0) := by decide +kernel
theorem fx_103_54 : xins 103 54 = (2, 0, 1, 1) := by decide +kernel
theorem fx_103_55 : xins 103 55 = (7, 0, 0, 0) := by decide +kernel
theorem fx_103_56 : xins 103 56 = (2, 0, 2, 1) := by decide +kernel
theorem fx_103_57 : xins 103 57 = (15, 0, 0, 0) := by decide +kernel
theorem fx_103_58 : xins 103 58 = (3, 0, 0, 1) := by decide +kernel
theorem fx_103_59 : xins 103 59 = (12, 662, 7, 1) := by decide +kernel
theorem fx_103_62 : xins 103 62 = (1, 16, 2, 0) := by decide +kernel
theorem fx_103_64 : xins 103 64 = (2, 0, 1, 1) := by decide +kernel
theorem fx_103_65 : xins 103 65 = (7, 0, 0, 0) := by decide +kernel
theorem fx_103_66 : xins 103 66 = (2, 0, 3, 1) := by decide +kernel
theorem fx_103_67 : xins 103 67 = (15, 0, 0, 0) := by decide +kernel
theorem fx_103_68 : xins 103 68 = (1, 1, 1, 0) := by decide +kernel
theorem fx_103_69 : xins 103 69 = (29, 0, 0, 0) := by decide +kernel
theorem xq_104 : xnth xprog 104 [] = xk_104 := rfl
theorem fx_104_0 : xins 104 0 = (3, 0, 0, 1) := by decide +kernel
theorem fx_104_1 : xins 104 1 = (1, 0, 1, 0) := by decide +kernel
theorem fx_104_2 : xins 104 2 = (13, 661, 7, 0) := by decide +kernel
theorem fx_104_5 : xins 104 5 = (3, 0, 0, 1) := by decide +kernel
theorem fx_104_6 : xins 104 6 = (28, 735, 93, 1) := by decide +kernel
theorem fx_104_9 : xins 104 9 = (3, 0, 0, 1) := by decide +kernel
theorem fx_104_10 : xins 104 10 = (2, 0, 1, 1) := by decide +kernel
theorem fx_104_11 : xins 104 11 = (28, 751, 97, 2) := by decide +kernel
theorem fx_104_14 : xins 104 14 = (9, 0, 0, 35) := by decide +kernel
theorem fx_104_17 : xins 104 17 = (3, 0, 0, 1) := by decide +kernel
theorem fx_104_18 : xins 104 18 = (2, 0, 1, 1) := by decide +kernel
theorem fx_104_19 : xins 104 19 = (28, 755, 98, 2) := by decide +kernel
theorem fx_104_22 : xins 104 22 = (9, 0, 0, 35) := by decide +kernel
theorem fx_104_25 : xins 104 25 = (3, 0, 0, 1) := by decide +kernel
theorem fx_104_26 : xins 104 26 = (2, 0, 1, 1) := by decide +kernel
theorem fx_104_27 : xins 104 27 = (2, 0, 2, 1) := by decide +kernel
theorem fx_104_28 : xins 104 28 = (2, 0, 3, 1) := by decide +kernel
theorem fx_104_29 : xins 104 29 = (28, 783, 105, 4) := by decide +kernel
theorem fx_104_32 : xins 104 32 = (9, 0, 1, 38) := by decide +kernel
theorem fx_104_35 : xins 104 35 = (1, (-100000), 2, 787) := by decide +kernel
theorem fx_104_37 : xins 104 37 = (29, 0, 0, 0) := by decide +kernel
theorem fx_104_38 : xins 104 38 = (3, 0, 0, 1) := by decide +kernel
theorem fx_104_39 : xins 104 39 = (28, 743, 95, 1) := by decide +kernel
theorem fx_104_42 : xins 104 42 = (3, 0, 0, 1) := by decide +kernel
theorem fx_104_43 : xins 104 43 = (2, 0, 1, 1) := by decide +kernel
theorem fx_104_44 : xins 104 44 = (2, 0, 2, 1) := by decide +kernel
theorem fx_104_45 : xins 104 45 = (2, 0, 3, 1) := by decide +kernel
theorem fx_104_46 : xins 104 46 = (28, 788, 106, 4) := by decide +kernel
theorem fx_104_49 : xins 104 49 = (3, 0, 0, 1) := by decide +kernel
theorem fx_104_50 : xins 104 50 = (2, 0, 1, 1) := by decide +kernel
theorem fx_104_51 : xins 104 51 = (1, 0, 1, 0) := by decide +kernel
theorem fx_104_52 : xins 104 52 = (28, 759, 99, 3) := by decide +kernel
theorem fx_104_55 : xins 104 55 = (29, 0, 0, 0) := by decide +kernel
theorem xq_105 : xnth xprog 105 [] = xk_105 := rfl
theorem fx_105_0 : xins 105 0 = (2, 0, 2, 1) := by decide +kernel
theorem fx_105_1 : xins 105 1 = (9, 0, 2, 32) := by decide +kernel
theorem fx_105_4 : xins 105 4 = (2, 0, 2, 1) := by decide +kernel
theorem fx_105_5 : xins 105 5 = (3, 0, 0, 1) := by decide +kernel
theorem fx_105_6 : xins 105 6 = (2, 0, 1, 1) := by decide +kernel
theorem fx_105_7 : xins 105 7 = (1, 2, 1, 0) := by decide +kernel
theorem fx_105_8 : xins 105 8 = (28, 759, 99, 3) := by decide +kernel
theorem fx_105_11 : xins 105 11 = (10, 0, 4, 32) := by decide +kernel
theorem fx_105_14 : xins 105 14 = (2, 0, 3, 1) := by decide +kernel
theorem fx_105_15 : xins 105 15 = (9, 0, 2, 32) := by decide +kernel
theorem fx_105_18 : xins 105 18 = (2, 0, 3, 1) := by decide +kernel
theorem fx_105_19 : xins 105 19 = (3, 0, 0, 1) := by decide +kernel
theorem fx_105_20 : xins 105 20 = (2, 0, 1, 1) := by decide +kernel
theorem fx_105_21 : xins 105 21 = (1, 1, 1, 0) := by decide +kernel
theorem fx_105_22 : xins 105 22 = (28, 759, 99, 3) := by decide +kernel
theorem fx_105_25 : xins 105 25 = (10, 0, 3, 32) := by decide +kernel
theorem fx_105_28 : xins 105 28 = (1, 1, 1, 0) := by decide +kernel
theorem fx_105_29 : xins 105 29 = (11, 0, 0, 33) := by decide +kernel
theorem fx_105_32 : xins 105 32 = (1, 0, 1, 0) := by decide +kernel
theorem fx_105_33 : xins 105 33 = (29, 0, 0, 0) := by decide +kernel
theorem xq_106 : xnth xprog 106 [] = xk_106 := rfl
theorem fx_106_0 : xins 106 0 = (1, 20, 2, 0) := by decide +kernel
theorem fx_106_2 : xins 106 2 = (1, 7, 2, 0) := by decide +kernel
theorem fx_106_4 : xins 106 4 = (2, 0, 1, 1) := by decide +kernel
theorem fx_106_5 : xins 106 5 = (7, 0, 2, 0) := by decide +kernel
theorem fx_106_6 : xins 106 6 = (7, 0, 0, 0) := by decide +kernel
theorem fx_106_7 : xins 106 7 = (4, 0, 4, 2) := by decide +kernel
theorem fx_106_9 : xins 106 9 = (3, 0, 0, 1) := by decide +kernel
theorem fx_106_10 : xins 106 10 = (12, 662, 7, 1) := by decide +kernel
theorem fx_106_13 : xins 106 13 = (2, 0, 4, 2) := by decide +kernel
theorem fx_106_15 : xins 106 15 = (3, 0, 0, 1) := by decide +kernel
theorem fx_106_16 : xins 106 16 = (2, 0, 1, 1) := by decide +kernel
theorem fx_106_17 : xins 106 17 = (2, 0, 2, 1) := by decide +kernel
theorem fx_106_18 : xins 106 18 = (2, 0, 3, 1) := by decide +kernel
theorem fx_106_19 : xins 106 19 = (28, 792, 107, 4) := by decide +kernel
theorem fx_106_22 : xins 106 22 = (15, 0, 0, 0) := by decide +kernel
theorem fx_106_23 : xins 106 23 = (3, 0, 0, 1) := by decide +kernel
theorem fx_106_24 : xins 106 24 = (12, 662, 7, 1) := by decide +kernel
theorem fx_106_27 : xins 106 27 = (2, 0, 4, 2) := by decide +kernel
theorem fx_106_29 : xins 106 29 = (1, 1, 1, 0) := by decide +kernel
theorem fx_106_30 : xins 106 30 = (7, 0, 0, 0) := by decide +kernel
theorem fx_106_31 : xins 106 31 = (3, 0, 0, 1) := by decide +kernel
theorem fx_106_32 : xins 106 32 = (12, 662, 7, 1) := by decide +kernel
theorem fx_106_35 : xins 106 35 = (2, 0, 4, 2) := by decide +kernel
theorem fx_106_37 : xins 106 37 = (1, 1, 1, 0) := by decide +kernel
theorem fx_106_38 : xins 106 38 = (7, 0, 0, 0) := by decide +kernel
theorem fx_106_39 : xins 106 39 = (14, 0, 0, 0) := by decide +kernel
theorem fx_106_40 : xins 106 40 = (2, 0, 3, 1) := by decide +kernel
theorem fx_106_41 : xins 106 41 = (7, 0, 1, 0) := by decide +kernel
theorem fx_106_42 : xins 106 42 = (15, 0, 0, 0) := by decide +kernel
theorem fx_106_43 : xins 106 43 = (3, 0, 0, 1) := by decide +kernel
theorem fx_106_44 : xins 106 44 = (12, 662, 7, 1) := by decide +kernel
theorem fx_106_47 : xins 106 47 = (2, 0, 4, 2) := by decide +kernel
theorem fx_106_49 : xins 106 49 = (1, 2, 1, 0) := by decide +kernel
theorem fx_106_50 : xins 106 50 = (7, 0, 0, 0) := by decide +kernel
theorem fx_106_51 : xins 106 51 = (3, 0, 0, 1) := by decide +kernel
theorem fx_106_52 : xins 106 52 = (12, 662, 7, 1) := by decide +kernel
theorem fx_106_55 : xins 106 55 = (2, 0, 4, 2) := by decide +kernel
theorem fx_106_57 : xins 106 57 = (1, 2, 1, 0) := by decide +kernel
theorem fx_106_58 : xins 106 58 = (7, 0, 0, 0) := by decide +kernel
theorem fx_106_59 : xins 106 59 = (14, 0, 0, 0) := by decide +kernel
theorem fx_106_60 : xins 106 60 = (2, 0, 2, 1) := by decide +kernel
theorem fx_106_61 : xins 106 61 = (7, 0, 1, 0) := by decide +kernel
theorem fx_106_62 : xins 106 62 = (15, 0, 0, 0) := by decide +kernel
theorem fx_106_63 : xins 106 63 = (3, 0, 0, 1) := by decide +kernel
theorem fx_106_64 : xins 106 64 = (12, 662, 7, 1) := by decide +kernel
theorem fx_106_67 : xins 106 67 = (2, 0, 4, 2) := by decide +kernel
theorem fx_106_69 : xins 106 69 = (1, 6, 2, 0) := by decide +kernel
theorem fx_106_71 : xins 106 71 = (7, 0, 0, 0) := by decide +kernel
theorem fx_106_72 : xins 106 72 = (3, 0, 0, 1) := by decide +kernel
theorem fx_106_73 : xins 106 73 = (12, 662, 7, 1) := by decide +kernel
theorem fx_106_76 : xins 106 76 = (2, 0, 4, 2) := by decide +kernel
theorem fx_106_78 : xins 106 78 = (1, 6, 2, 0) := by decide +kernel
theorem fx_106_80 : xins 106 80 = (7, 0, 0, 0) := by decide +kernel
theorem fx_106_81 : xins 106 81 = (14, 0, 0, 0) := by decide +kernel
theorem fx_106_82 : xins 106 82 = (2, 0, 2, 1) := by decide +kernel
theorem fx_106_83 : xins 106 83 = (7, 0, 0, 0) := by decide +kernel
theorem fx_106_84 : xins 106 84 = (2, 0, 3, 1) := by decide +kernel
theorem fx_106_85 : xins 106 85 = (7, 0, 0, 0) := by decide +kernel
theorem fx_106_86 : xins 106 86 = (15, 0, 0, 0) := by decide +kernel
theorem fx_106_87 : xins 106 87 = (30, 0, 0, 0) := by decide +kernel
theorem xq_107 : xnth xprog 107 [] = xk_107 := rfl
theorem fx_107_0 : xins 107 0 = (3, 0, 0, 1) := by decide +kernel
theorem fx_107_1 : xins 107 1 = (2, 0, 1, 1) := by decide +kernel
theorem fx_107_2 : xins 107 2 = (1, 0, 1, 0) := by decide +kernel
theorem fx_107_3 : xins 107 3 = (28, 759, 99, 3) := by decide +kernel
theorem fx_107_6 : xins 107 6 = (2, 0, 2, 1) := by decide +kernel
theorem fx_107_7 : xins 107 7 = (3, 0, 0, 1) := by decide +kernel
theorem fx_107_8 : xins 107 8 = (12, 662, 7, 1) := by decide +kernel
theorem fx_107_11 : xins 107 11 = (1, 1, 1, 0) := by decide +kernel
theorem fx_107_12 : xins 107 12 = (14, 0, 0, 0) := by decide +kernel
theorem fx_107_13 : xins 107 13 = (7, 0, 2, 0) := by decide +kernel
theorem fx_107_14 : xins 107 14 = (7, 0, 0, 0) := by decide +kernel
theorem fx_107_15 : xins 107 15 = (2, 0, 3, 1) := by decide +kernel
theorem fx_107_16 : xins 107 16 = (3, 0, 0, 1) := by decide +kernel
theorem fx_107_17 : xins 107 17 = (2, 0, 1, 1) := by decide +kernel
theorem fx_107_18 : xins 107 18 = (1, 1, 1, 0) := by decide +kernel
theorem fx_107_19 : xins 107 19 = (28, 759, 99, 3) := by decide +kernel
theorem fx_107_22 : xins 107 22 = (7, 0, 2, 0) := by decide +kernel
theorem fx_107_23 : xins 107 23 = (2, 0, 3, 1) := by decide +kernel
theorem fx_107_24 : xins 107 24 = (2, 0, 3, 1) := by decide +kernel
theorem fx_107_25 : xins 107 25 = (1, 1, 1, 0) := by decide +kernel
theorem fx_107_26 : xins 107 26 = (7, 0, 1, 0) := by decide +kernel
theorem fx_107_27 : xins 107 27 = (7, 0, 2, 0) := by decide +kernel
theorem fx_107_28 : xins 107 28 = (1, 2, 1, 0) := by decide +kernel
theorem fx_107_29 : xins 107 29 = (7, 0, 3, 0) := by decide +kernel
theorem fx_107_30 : xins 107 30 = (7, 0, 1, 0) := by decide +kernel
theorem fx_107_31 : xins 107 31 = (7, 0, 1, 0) := by decide +kernel
theorem fx_107_32 : xins 107 32 = (29, 0, 0, 0) := by decide +kernel
theorem xq_108 : xnth xprog 108 [] = xk_108 := rfl
theorem fx_108_0 : xins 108 0 = (3, 0, 0, 1) := by decide +kernel
theorem fx_108_1 : xins 108 1 = (1, 0, 1, 0) := by decide +kernel
theorem fx_108_2 : xins 108 2 = (13, 661, 7, 0) := by decide +kernel
theorem fx_108_5 : xins 108 5 = (3, 0, 0, 1) := by decide +kernel
theorem fx_108_6 : xins 108 6 = (28, 735, 93, 1) := by decide +kernel
theorem fx_108_9 : xins 108 9 = (2, 0, 1, 1) := by decide +kernel
theorem fx_108_10 : xins 108 10 = (9, 0, 1, 20) := by decide +kernel
theorem fx_108_13 : xins 108 13 = (3, 0, 0, 1) := by decide +kernel
theorem fx_108_14 : xins 108 14 = (12, 662, 7, 1) := by decide +kernel
theorem fx_108_17 : xins 108 17 = (1, 0, 1, 0) := by decide +kernel
theorem fx_108_18 : xins 108 18 = (14, 0, 0, 0) := by decide +kernel
theorem fx_108_19 : xins 108 19 = (29, 0, 0, 0) := by decide +kernel
theorem fx_108_20 : xins 108 20 = (2, 0, 1, 1) := by decide +kernel
theorem fx_108_21 : xins 108 21 = (1, 1, 1, 0) := by decide +kernel
theorem fx_108_22 : xins 108 22 = (10, 0, 1, 59) := by decide +kernel
theorem fx_108_25 : xins 108 25 = (1, 0, 1, 0) := by decide +kernel
theorem fx_108_26 : xins 108 26 = (4, 0, 2, 1) := by decide +kernel
theorem fx_108_27 : xins 108 27 = (1, 0, 1, 0) := by decide +kernel
theorem fx_108_28 : xins 108 28 = (4, 0, 3, 1) := by decide +kernel
theorem fx_108_29 : xins 108 29 = (2, 0, 3, 1) := by decide +kernel
theorem fx_108_30 : xins 108 30 = (3, 0, 0, 1) := by decide +kernel
theorem fx_108_31 : xins 108 31 = (12, 662, 7, 1) := by decide +kernel
theorem fx_108_34 : xins 108 34 = (1, 0, 1, 0) := by decide +kernel
theorem fx_108_35 : xins 108 35 = (14, 0, 0, 0) := by decide +kernel
theorem fx_108_36 : xins 108 36 = (10, 0, 3, 57) := by decide +kernel
theorem fx_108_39 : xins 108 39 = (3, 0, 0, 1) := by decide +kernel
theorem fx_108_40 : xins 108 40 = (2, 0, 3, 1) := by decide +kernel
theorem fx_108_41 : xins 108 41 = (28, 755, 98, 2) := by decide +kernel
theorem fx_108_44 : xins 108 44 = (9, 0, 0, 51) := by decide +kernel
theorem fx_108_47 : xins 108 47 = (2, 0, 2, 1) := by decide +kernel
theorem fx_108_48 : xins 108 48 = (1, 1, 1, 0) := by decide +kernel
theorem fx_108_49 : xins 108 49 = (7, 0, 0, 0) := by decide +kernel
theorem fx_108_50 : xins 108 50 = (4, 0, 2, 1) := by decide +kernel
theorem fx_108_51 : xins 108 51 = (6, 1, 3, 0) := by decide +kernel
theorem fx_108_54 : xins 108 54 = (11, 0, 0, 29) := by decide +kernel
theorem fx_108_57 : xins 108 57 = (2, 0, 2, 1) := by decide +kernel
theorem fx_108_58 : xins 108 58 = (29, 0, 0, 0) := by decide +kernel
theorem fx_108_59 : xins 108 59 = (2, 0, 1, 1) := by decide +kernel
theorem fx_108_60 : xins 108 60 = (1, 2, 1, 0) := by decide +kernel
theorem fx_108_61 : xins 108 61 = (10, 0, 1, 71) := by decide +kernel
theorem fx_108_64 : xins 108 64 = (3, 0, 0, 1) := by decide +kernel
theorem fx_108_65 : xins 108 65 = (12, 662, 7, 1) := by decide +kernel
theorem fx_108_68 : xins 108 68 = (1, 1, 1, 0) := by decide +kernel
theorem fx_108_69 : xins 108 69 = (14, 0, 0, 0) := by decide +kernel
theorem fx_108_70 : xins 108 70 = (29, 0, 0, 0) := by decide +kernel
theorem fx_108_71 : xins 108 71 = (2, 0, 1, 1) := by decide +kernel
theorem fx_108_72 : xins 108 72 = (1, 3, 1, 0) := by decide +kernel
theorem fx_108_73 : xins 108 73 = (10, 0, 1, 83) := by decide +kernel
theorem fx_108_76 : xins 108 76 = (3, 0, 0, 1) := by decide +kernel
theorem fx_108_77 : xins 108 77 = (12, 662, 7, 1) := by decide +kernel
theorem fx_108_80 : xins 108 80 = (1, 2, 1, 0) := by decide +kernel
theorem fx_108_81 : xins 108 81 = (14, 0, 0, 0) := by decide +kernel
theorem fx_108_82 : xins 108 82 = (29, 0, 0, 0) := by decide +kernel
theorem fx_108_83 : xins 108 83 = (2, 0, 1, 1) := by decide +kernel
theorem fx_108_84 : xins 108 84 = (1, 4, 1, 0) := by decide +kernel
theorem fx_108_85 : xins 108 85 = (10, 0, 1, 120) := by decide +kernel
theorem fx_108_88 : xins 108 88 = (1, 0, 1, 0) := by decide +kernel
theorem fx_108_89 : xins 108 89 = (4, 0, 2, 1) := by decide +kernel
theorem fx_108_90 : xins 108 90 = (1, 0, 1, 0) := by decide +kernel
theorem fx_108_91 : xins 108 91 = (4, 0, 3, 1) := by decide +kernel
theorem fx_108_92 : xins 108 92 = (2, 0, 3, 1) := by decide +kernel
theorem fx_108_93 : xins 108 93 = (1, 8, 2, 0) := by decide +kernel
theorem fx_108_95 : xins 108 95 = (10, 0, 3, 118) := by decide +kernel
theorem fx_108_98 : xins 108 98 = (3, 0, 0, 1) := by decide +kernel
theorem fx_108_99 : xins 108 99 = (2, 0, 3, 1) := by decide +kernel
theorem fx_108_100 : xins 108 100 = (28, 800, 109, 2) := by decide +kernel
theorem fx_108_103 : xins 108 103 = (9, 0, 0, 112) := by decide +kernel
theorem fx_108_106 : xins 108 106 = (2, 0, 2, 1) := by decide +kernel
theorem fx_108_107 : xins 108 107 = (1, 1, 1, 0) := by decide +kernel
theorem fx_108_108 : xins 108 108 = (2, 0, 3, 1) := by decide +kernel
theorem fx_108_109 : xins 108 109 = (7, 0, 8, 0) := by decide +kernel
theorem fx_108_110 : xins 108 110 = (7, 0, 6, 0) := by decide +kernel
theorem fx_108_111 : xins 108 111 = (4, 0, 2, 1) := by decide +kernel
theorem fx_108_112 : xins 108 112 = (6, 1, 3, 0) := by decide +kernel
theorem fx_108_115 : xins 108 115 = (11, 0, 0, 92) := by decide +kernel
theorem fx_108_118 : xins 108 118 = (2, 0, 2, 1) := by decide +kernel
theorem fx_108_119 : xins 108 119 = (29, 0, 0, 0) := by decide +kernel
theorem fx_108_120 : xins 108 120 = (2, 0, 1, 1) := by decide +kernel
theorem fx_108_121 : xins 108 121 = (1, 5, 1, 0) := by decide +kernel
theorem fx_108_122 : xins 108 122 = (10, 0, 1, 132) := by decide +kernel
theorem fx_108_125 : xins 108 125 = (3, 0, 0, 1) := by decide +kernel
theorem fx_108_126 : xins 108 126 = (12, 662, 7, 1) := by decide +kernel
theorem fx_108_129 : xins 108 129 = (1, 3, 1, 0) := by decide +kernel
theorem fx_108_130 : xins 108 130 = (14, 0, 0, 0) := by decide +kernel
theorem fx_108_131 : xins 108 131 = (29, 0, 0, 0) := by decide +kernel
theorem fx_108_132 : xins 108 132 = (2, 0, 1, 1) := by decide +kernel
theorem fx_108_133 : xins 108 133 = (1, 10, 2, 0) := by decide +kernel
theorem fx_108_135 : xins 108 135 = (10, 0, 2, 156) := by decide +kernel
theorem fx_108_138 : xins 108 138 = (2, 0, 1, 1) := by decide +kernel
theorem fx_108_139 : xins 108 139 = (1, 18, 2, 0) := by decide +kernel
theorem fx_108_141 : xins 108 141 = (10, 0, 3, 156) := by decide +kernel
theorem fx_108_144 : xins 108 144 = (3, 0, 0, 1) := by decide +kernel
theorem fx_108_145 : xins 108 145 = (12, 662, 7, 1) := by decide +kernel
theorem fx_108_148 : xins 108 148 = (1, 4, 1, 0) := by decide +kernel
theorem fx_108_149 : xins 108 149 = (2, 0, 1, 1) := by decide +kernel
theorem fx_108_150 : xins 108 150 = (7, 0, 0, 0) := by decide +kernel
theorem fx_108_151 : xins 108 151 = (1, 10, 2, 0) := by decide +kernel
theorem fx_108_153 : xins 108 153 = (7, 0, 1, 0) := by decide +kernel
theorem fx_108_154 : xins 108 154 = (14, 0, 0, 0) := by decide +kernel
theorem fx_108_155 : xins 108 155 = (29, 0, 0, 0) := by decide +kernel
theorem fx_108_156 : xins 108 156 = (2, 0, 1, 1) := by decide +kernel
theorem fx_108_157 : xins 108 157 = (1, 20, 2, 0) := by decide +kernel
theorem fx_108_159 : xins 108 159 = (10, 0, 2, 168) := by decide +kernel
theorem fx_108_162 : xins 108 162 = (2, 0, 1, 1) := by decide +kernel
theorem fx_108_163 : xins 108 163 = (1, 27, 2, 0) := by decide +kernel
theorem fx_108_165 : xins 108 165 = (10, 0, 5, 172) := by decide +kernel
theorem fx_108_168 : xins 108 168 = (1, (-1001), 3, 0) := by decide +kernel
theorem fx_108_171 : xins 108 171 = (29, 0, 0, 0) := by decide +kernel
theorem fx_108_172 : xins 108 172 = (2, 0, 1, 1) := by decide +kernel
theorem fx_108_173 : xins 108 173 = (1, 20, 2, 0) := by decide +kernel
theorem fx_108_175 : xins 108 175 = (7, 0, 1, 0) := by decide +kernel
theorem fx_108_176 : xins 108 176 = (1, 2, 1, 0) := by decide +kernel
theorem fx_108_177 : xins 108 177 = (7, 0, 3, 0) := by decide +kernel
theorem fx_108_178 : xins 108 178 = (4, 0, 2, 1) := by decide +kernel
theorem fx_108_179 : xins 108 179 = (3, 0, 0, 1) := by decide +kernel
theorem fx_108_180 : xins 108 180 = (2, 0, 2, 1) := by decide +kernel
theorem fx_108_181 : xins 108 181 = (28, 804, 110, 2) := by decide +kernel
theorem fx_108_184 : xins 108 184 = (9, 0, 1, 193) := by decide +kernel
theorem fx_108_187 : xins 108 187 = (1, (-1001), 3, 0) := by decide +kernel
theorem fx_108_190 : xins 108 190 = (11, 0, 0, 220) := by decide +kernel
theorem fx_108_193 : xins 108 193 = (2, 0, 1, 1) := by decide +kernel
theorem fx_108_194 : xins 108 194 = (1, 2, 1, 0) := by decide +kernel
theorem fx_108_195 : xins 108 195 = (7, 0, 4, 0) := by decide +kernel
theorem fx_108_196 : xins 108 196 = (9, 0, 1, 211) := by decide +kernel
theorem fx_108_199 : xins 108 199 = (3, 0, 0, 1) := by decide +kernel
theorem fx_108_200 : xins 108 200 = (12, 662, 7, 1) := by decide +kernel
theorem fx_108_203 : xins 108 203 = (1, 12, 2, 0) := by decide +kernel
theorem fx_108_205 : xins 108 205 = (2, 0, 2, 1) := by decide +kernel
theorem fx_108_206 : xins 108 206 = (7, 0, 0, 0) := by decide +kernel
theorem fx_108_207 : xins 108 207 = (14, 0, 0, 0) := by decide +kernel
theorem fx_108_208 : xins 108 208 = (11, 0, 0, 220) := by decide +kernel
theorem fx_108_211 : xins 108 211 = (3, 0, 0, 1) := by decide +kernel
theorem fx_108_212 : xins 108 212 = (12, 662, 7, 1) := by decide +kernel
theorem fx_108_215 : xins 108 215 = (1, 16, 2, 0) := by decide +kernel
theorem fx_108_217 : xins 108 217 = (2, 0, 2, 1) := by decide +kernel
theorem fx_108_218 : xins 108 218 = (7, 0, 0, 0) := by decide +kernel
theorem fx_108_219 : xins 108 219 = (14, 0, 0, 0) := by decide +kernel
theorem fx_108_220 : xins 108 220 = (29, 0, 0, 0) := by decide +kernel
theorem xq_109 : xnth xprog 109 [] = xk_109 := rfl
theorem fx_109_0 : xins 109 0 = (3, 0, 0, 1) := by decide +kernel
theorem fx_109_1 : xins 109 1 = (12, 662, 7, 1) := by decide +kernel
theorem fx_109_4 : xins 109 4 = (1, 4, 1, 0) := by decide +kernel
theorem fx_109_5 : xins 109 5 = (2, 0, 1, 1) := by decide +kernel
theorem fx_109_6 : xins 109 6 = (7, 0, 0, 0) := by decide +kernel
theorem fx_109_7 : xins 109 7 = (14, 0, 0, 0) := by decide +kernel
theorem fx_109_8 : xins 109 8 = (1, (-1), 1, 0) := by decide +kernel
theorem fx_109_9 : xins 109 9 = (10, 0, 0, 16) := by decide +kernel
theorem fx_109_12 : xins 109 12 = (1, 1, 1, 0) := by decide +kernel
theorem fx_109_13 : xins 109 13 = (11, 0, 0, 17) := by decide +kernel
theorem fx_109_16 : xins 109 16 = (1, 0, 1, 0) := by decide +kernel
theorem fx_109_17 : xins 109 17 = (29, 0, 0, 0) := by decide +kernel
theorem xq_110 : xnth xprog 110 [] = xk_110 := rfl
theorem fx_110_0 : xins 110 0 = (3, 0, 0, 1) := by decide +kernel
theorem fx_110_1 : xins 110 1 = (12, 662, 7, 1) := by decide +kernel
theorem fx_110_4 : xins 110 4 = (1, 12, 2, 0) := by decide +kernel
theorem fx_110_6 : xins 110 6 = (2, 0, 1, 1) := by decide +kernel
theorem fx_110_7 : xins 110 7 = (7, 0, 0, 0) := by decide +kernel
theorem fx_110_8 : xins 110 8 = (14, 0, 0, 0) := by decide +kernel
theorem fx_110_9 : xins 110 9 = (3, 0, 0, 1) := by decide +kernel
theorem fx_110_10 : xins 110 10 = (12, 662, 7, 1) := by decide +kernel
theorem fx_110_13 : xins 110 13 = (1, 16, 2, 0) := by decide +kernel
theorem fx_110_15 : xins 110 15 = (2, 0, 1, 1) := by decide +kernel
theorem fx_110_16 : xins 110 16 = (7, 0, 0, 0) := by decide +kernel
theorem fx_110_17 : xins 110 17 = (14, 0, 0, 0) := by decide +kernel
theorem fx_110_18 : xins 110 18 = (10, 0, 4, 25) := by decide +kernel
theorem fx_110_21 : xins 110 21 = (1, 1, 1, 0) := by decide +kernel
theorem fx_110_22 : xins 110 22 = (11, 0, 0, 26) := by decide +kernel
theorem fx_110_25 : xins 110 25 = (1, 0, 1, 0) := by decide +kernel
theorem fx_110_26 : xins 110 26 = (29, 0, 0, 0) := by decide +kernel
theorem xq_111 : xnth xprog 111 [] = xk_111 := rfl
theorem fx_111_0 : xins 111 0 = (3, 0, 0, 1) := by decide +kernel
theorem fx_111_1 : xins 111 1 = (1, 0, 1, 0) := by decide +kernel
theorem fx_111_2 : xins 111 2 = (13, 661, 7, 0) := by decide +kernel
theorem fx_111_5 : xins 111 5 = (3, 0, 0, 1) := by decide +kernel
theorem fx_111_6 : xins 111 6 = (28, 735, 93, 1) := by decide +kernel
theorem fx_111_9 : xins 111 9 = (3, 0, 0, 1) := by decide +kernel
theorem fx_111_10 : xins 111 10 = (2, 0, 1, 1) := by decide +kernel
theorem fx_111_11 : xins 111 11 = (28, 751, 97, 2) := by decide +kernel
theorem fx_111_14 : xins 111 14 = (9, 0, 0, 36) := by decide +kernel
theorem fx_111_17 : xins 111 17 = (2, 0, 2, 1) := by decide +kernel
theorem fx_111_18 : xins 111 18 = (9, 0, 2, 36) := by decide +kernel
theorem fx_111_21 : xins 111 21 = (2, 0, 2, 1) := by decide +kernel
theorem fx_111_22 : xins 111 22 = (1, 7, 2, 0) := by decide +kernel
theorem fx_111_24 : xins 111 24 = (10, 0, 3, 36) := by decide +kernel
theorem fx_111_27 : xins 111 27 = (3, 0, 0, 1) := by decide +kernel
theorem fx_111_28 : xins 111 28 = (2, 0, 1, 1) := by decide +kernel
theorem fx_111_29 : xins 111 29 = (2, 0, 2, 1) := by decide +kernel
theorem fx_111_30 : xins 111 30 = (28, 759, 99, 3) := by decide +kernel
theorem fx_111_33 : xins 111 33 = (11, 0, 0, 38) := by decide +kernel
theorem fx_111_36 : xins 111 36 = (1, (-100000), 2, 787) := by decide +kernel
theorem fx_111_38 : xins 111 38 = (29, 0, 0, 0) := by decide +kernel
theorem xq_112 : xnth xprog 112 [] = xk_112 := rfl
theorem fx_112_0 : xins 112 0 = (3, 0, 0, 1) := by decide +kernel
theorem fx_112_1 : xins 112 1 = (1, 0, 1, 0) := by decide +kernel
theorem fx_112_2 : xins 112 2 = (13, 661, 7, 0) := by decide +kernel
theorem fx_112_5 : xins 112 5 = (3, 0, 0, 1) := by decide +kernel
theorem fx_112_6 : xins 112 6 = (28, 735, 93, 1) := by decide +kernel
theorem fx_112_9 : xins 112 9 = (3, 0, 0, 1) := by decide +kernel
theorem fx_112_10 : xins 112 10 = (2, 0, 1, 1) := by decide +kernel
theorem fx_112_11 : xins 112 11 = (28, 751, 97, 2) := by decide +kernel
theorem fx_112_14 : xins 112 14 = (9, 0, 0, 53) := by decide +kernel
theorem fx_112_17 : xins 112 17 = (2, 0, 2, 1) := by decide +kernel
theorem fx_112_18 : xins 112 18 = (9, 0, 2, 53) := by decide +kernel
theorem fx_112_21 : xins 112 21 = (2, 0, 2, 1) := by decide +kernel
theorem fx_112_22 : xins 112 22 = (1, 7, 2, 0) := by decide +kernel
theorem fx_112_24 : xins 112 24 = (10, 0, 4, 53) := by decide +kernel
theorem fx_112_27 : xins 112 27 = (3, 0, 0, 1) := by decide +kernel
theorem fx_112_28 : xins 112 28 = (2, 0, 2, 1) := by decide +kernel
theorem fx_112_29 : xins 112 29 = (28, 800, 109, 2) := by decide +kernel
theorem fx_112_32 : xins 112 32 = (9, 0, 0, 53) := by decide +kernel
theorem fx_112_35 : xins 112 35 = (2, 0, 3, 1) := by decide +kernel
theorem fx_112_36 : xins 112 36 = (9, 0, 2, 53) := by decide +kernel
theorem fx_112_39 : xins 112 39 = (2, 0, 3, 1) := by decide +kernel
theorem fx_112_40 : xins 112 40 = (1, 2, 1, 0) := by decide +kernel
theorem fx_112_41 : xins 112 41 = (10, 0, 4, 53) := by decide +kernel
theorem fx_112_44 : xins 112 44 = (3, 0, 0, 1) := by decide +kernel
theorem fx_112_45 : xins 112 45 = (2, 0, 1, 1) := by decide +kernel
theorem fx_112_46 : xins 112 46 = (2, 0, 2, 1) := by decide +kernel
theorem fx_112_47 : xins 112 47 = (28, 816, 113, 3) := by decide +kernel
theorem fx_112_50 : xins 112 50 = (9, 0, 1, 55) := by decide +kernel
theorem fx_112_53 : xins 112 53 = (1, (-1), 1, 0) := by decide +kernel
theorem fx_112_54 : xins 112 54 = (29, 0, 0, 0) := by decide +kernel
theorem fx_112_55 : xins 112 55 = (2, 0, 3, 1) := by decide +kernel
theorem fx_112_56 : xins 112 56 = (9, 0, 1, 66) := by decide +kernel
theorem fx_112_59 : xins 112 59 = (3, 0, 0, 1) := by decide +kernel
theorem fx_112_60 : xins 112 60 = (12, 671, 7, 10) := by decide +kernel
theorem fx_112_63 : xins 112 63 = (11, 0, 0, 87) := by decide +kernel
theorem fx_112_66 : xins 112 66 = (2, 0, 3, 1) := by decide +kernel
theorem fx_112_67 : xins 112 67 = (1, 1, 1, 0) := by decide +kernel
theorem fx_112_68 : xins 112 68 = (10, 0, 1, 78) := by decide +kernel
theorem fx_112_71 : xins 112 71 = (3, 0, 0, 1) := by decide +kernel
theorem fx_112_72 : xins 112 72 = (12, 672, 7, 11) := by decide +kernel
theorem fx_112_75 : xins 112 75 = (11, 0, 0, 87) := by decide +kernel
theorem fx_112_78 : xins 112 78 = (3, 0, 0, 1) := by decide +kernel
theorem fx_112_79 : xins 112 79 = (12, 671, 7, 10) := by decide +kernel
theorem fx_112_82 : xins 112 82 = (3, 0, 0, 1) := by decide +kernel
theorem fx_112_83 : xins 112 83 = (12, 672, 7, 11) := by decide +kernel
theorem fx_112_86 : xins 112 86 = (7, 0, 1, 0) := by decide +kernel
theorem fx_112_87 : xins 112 87 = (29, 0, 0, 0) := by decide +kernel
theorem xq_113 : xnth xprog 113 [] = xk_113 := rfl
theorem fx_113_0 : xins 113 0 = (3, 0, 0, 1) := by decide +kernel
theorem fx_113_1 : xins 113 1 = (1, 0, 1, 0) := by decide +kernel
theorem fx_113_2 : xins 113 2 = (2, 0, 1, 1) := by decide +kernel
theorem fx_113_3 : xins 113 3 = (2, 0, 2, 1) := by decide +kernel
theorem fx_113_4 : xins 113 4 = (28, 820, 114, 4) := by decide +kernel
theorem fx_113_7 : xins 113 7 = (3, 0, 0, 1) := by decide +kernel
theorem fx_113_8 : xins 113 8 = (1, 1000000, 2, 824) := by decide +kernel
theorem fx_113_10 : xins 113 10 = (13, 671, 7, 10) := by decide +kernel
theorem fx_113_13 : xins 113 13 = (1, 0, 1, 0) := by decide +kernel
theorem fx_113_14 : xins 113 14 = (4, 0, 3, 1) := by decide +kernel
theorem fx_113_15 : xins 113 15 = (2, 0, 3, 1) := by decide +kernel
theorem fx_113_16 : xins 113 16 = (1, 101, 2, 0) := by decide +kernel
theorem fx_113_18 : xins 113 18 = (10, 0, 3, 89) := by decide +kernel
theorem fx_113_21 : xins 113 21 = (3, 0, 0, 1) := by decide +kernel
theorem fx_113_22 : xins 113 22 = (12, 669, 7, 8) := by decide +kernel
theorem fx_113_25 : xins 113 25 = (2, 0, 3, 1) := by decide +kernel
theorem fx_113_26 : xins 113 26 = (14, 0, 0, 0) := by decide +kernel
theorem fx_113_27 : xins 113 27 = (3, 0, 0, 1) := by decide +kernel
theorem fx_113_28 : xins 113 28 = (12, 671, 7, 10) := by decide +kernel
theorem fx_113_31 : xins 113 31 = (10, 0, 4, 83) := by decide +kernel
theorem fx_113_34 : xins 113 34 = (3, 0, 0, 1) := by decide +kernel
theorem fx_113_35 : xins 113 35 = (12, 669, 7, 8) := by decide +kernel
theorem fx_113_38 : xins 113 38 = (2, 0, 3, 1) := by decide +kernel
theorem fx_113_39 : xins 113 39 = (14, 0, 0, 0) := by decide +kernel
theorem fx_113_40 : xins 113 40 = (3, 0, 0, 1) := by decide +kernel
theorem fx_113_41 : xins 113 41 = (12, 671, 7, 10) := by decide +kernel
theorem fx_113_44 : xins 113 44 = (10, 0, 1, 63) := by decide +kernel
theorem fx_113_47 : xins 113 47 = (3, 0, 0, 1) := by decide +kernel
theorem fx_113_48 : xins 113 48 = (12, 670, 7, 9) := by decide +kernel
theorem fx_113_51 : xins 113 51 = (2, 0, 3, 1) := by decide +kernel
theorem fx_113_52 : xins 113 52 = (14, 0, 0, 0) := by decide +kernel
theorem fx_113_53 : xins 113 53 = (3, 0, 0, 1) := by decide +kernel
theorem fx_113_54 : xins 113 54 = (12, 672, 7, 11) := by decide +kernel
theorem fx_113_57 : xins 113 57 = (10, 0, 2, 63) := by decide +kernel
theorem fx_113_60 : xins 113 60 = (11, 0, 0, 83) := by decide +kernel
theorem fx_113_63 : xins 113 63 = (3, 0, 0, 1) := by decide +kernel
theorem fx_113_64 : xins 113 64 = (3, 0, 0, 1) := by decide +kernel
theorem fx_113_65 : xins 113 65 = (12, 669, 7, 8) := by decide +kernel
theorem fx_113_68 : xins 113 68 = (2, 0, 3, 1) := by decide +kernel
theorem fx_113_69 : xins 113 69 = (14, 0, 0, 0) := by decide +kernel
theorem fx_113_70 : xins 113 70 = (13, 671, 7, 10) := by decide +kernel
theorem fx_113_73 : xins 113 73 = (3, 0, 0, 1) := by decide +kernel
theorem fx_113_74 : xins 113 74 = (3, 0, 0, 1) := by decide +kernel
theorem fx_113_75 : xins 113 75 = (12, 670, 7, 9) := by decide +kernel
theorem fx_113_78 : xins 113 78 = (2, 0, 3, 1) := by decide +kernel
theorem fx_113_79 : xins 113 79 = (14, 0, 0, 0) := by decide +kernel
theorem fx_113_80 : xins 113 80 = (13, 672, 7, 11) := by decide +kernel
theorem fx_113_83 : xins 113 83 = (6, 1, 3, 0) := by decide +kernel
theorem fx_113_86 : xins 113 86 = (11, 0, 0, 15) := by decide +kernel
theorem fx_113_89 : xins 113 89 = (3, 0, 0, 1) := by decide +kernel
theorem fx_113_90 : xins 113 90 = (12, 671, 7, 10) := by decide +kernel
theorem fx_113_93 : xins 113 93 = (1, 1000000, 2, 824) := by decide +kernel
theorem fx_113_95 : xins 113 95 = (10, 0, 3, 102) := by decide +kernel
theorem fx_113_98 : xins 113 98 = (1, 1, 1, 0) := by decide +kernel
theorem fx_113_99 : xins 113 99 = (11, 0, 0, 103) := by decide +kernel
theorem fx_113_102 : xins 113 102 = (1, 0, 1, 0) := by decide +kernel
theorem fx_113_103 : xins 113 103 = (29, 0, 0, 0) := by decide +kernel
theorem xq_114 : xnth xprog 114 [] = xk_114 := rfl
theorem fx_114_0 : xins 114 0 = (1, 0, 1, 0) := by decide +kernel
theorem fx_114_1 : xins 114 1 = (4, 0, 4, 2) := by decide +kernel
theorem fx_114_3 : xins 114 3 = (2, 0, 4, 2) := by decide +kernel
theorem fx_114_5 : xins 114 5 = (1, 101, 2, 0) := by decide +kernel
theorem fx_114_7 : xins 114 7 = (10, 0, 3, 30) := by decide +kernel
theorem fx_114_10 : xins 114 10 = (3, 0, 0, 1) := by decide +kernel
theorem fx_114_11 : xins 114 11 = (12, 669, 7, 8) := by decide +kernel
theorem fx_114_14 : xins 114 14 = (1, 101, 2, 0) := by decide +kernel
theorem fx_114_16 : xins 114 16 = (2, 0, 1, 1) := by decide +kernel
theorem fx_114_17 : xins 114 17 = (7, 0, 2, 0) := by decide +kernel
theorem fx_114_18 : xins 114 18 = (2, 0, 4, 2) := by decide +kernel
theorem fx_114_20 : xins 114 20 = (7, 0, 0, 0) := by decide +kernel
theorem fx_114_21 : xins 114 21 = (1, 1000000, 2, 824) := by decide +kernel
theorem fx_114_23 : xins 114 23 = (15, 0, 0, 0) := by decide +kernel
theorem fx_114_24 : xins 114 24 = (6, 1, 4, 0) := by decide +kernel
theorem fx_114_27 : xins 114 27 = (11, 0, 0, 3) := by decide +kernel
theorem fx_114_30 : xins 114 30 = (1, 0, 1, 0) := by decide +kernel
theorem fx_114_31 : xins 114 31 = (4, 0, 4, 2) := by decide +kernel
theorem fx_114_33 : xins 114 33 = (2, 0, 4, 2) := by decide +kernel
theorem fx_114_35 : xins 114 35 = (3, 0, 0, 1) := by decide +kernel
theorem fx_114_36 : xins 114 36 = (2, 0, 2, 1) := by decide +kernel
theorem fx_114_37 : xins 114 37 = (1, 2, 1, 0) := by decide +kernel
theorem fx_114_38 : xins 114 38 = (28, 759, 99, 3) := by decide +kernel
theorem fx_114_41 : xins 114 41 = (10, 0, 4, 194) := by decide +kernel
theorem fx_114_44 : xins 114 44 = (1, 0, 1, 0) := by decide +kernel
theorem fx_114_45 : xins 114 45 = (4, 0, 5, 2) := by decide +kernel
theorem fx_114_47 : xins 114 47 = (2, 0, 5, 2) := by decide +kernel
theorem fx_114_49 : xins 114 49 = (3, 0, 0, 1) := by decide +kernel
theorem fx_114_50 : xins 114 50 = (2, 0, 2, 1) := by decide +kernel
theorem fx_114_51 : xins 114 51 = (1, 1, 1, 0) := by decide +kernel
theorem fx_114_52 : xins 114 52 = (28, 759, 99, 3) := by decide +kernel
theorem fx_114_55 : xins 114 55 = (10, 0, 3, 188) := by decide +kernel
theorem fx_114_58 : xins 114 58 = (3, 0, 0, 1) := by decide +kernel
theorem fx_114_59 : xins 114 59 = (2, 0, 2, 1) := by decide +kernel
theorem fx_114_60 : xins 114 60 = (2, 0, 4, 2) := by decide +kernel
theorem fx_114_62 : xins 114 62 = (2, 0, 5, 2) := by decide +kernel
theorem fx_114_64 : xins 114 64 = (28, 792, 107, 4) := by decide +kernel
theorem fx_114_67 : xins 114 67 = (3, 0, 0, 1) := by decide +kernel
theorem fx_114_68 : xins 114 68 = (12, 662, 7, 1) := by decide +kernel
theorem fx_114_71 : xins 114 71 = (1, 4, 1, 0) := by decide +kernel
theorem fx_114_72 : xins 114 72 = (2, 0, 3, 1) := by decide +kernel
theorem fx_114_73 : xins 114 73 = (7, 0, 0, 0) := by decide +kernel
theorem fx_114_74 : xins 114 74 = (14, 0, 0, 0) := by decide +kernel
theorem fx_114_75 : xins 114 75 = (7, 0, 1, 0) := by decide +kernel
theorem fx_114_76 : xins 114 76 = (4, 0, 6, 2) := by decide +kernel
theorem fx_114_78 : xins 114 78 = (2, 0, 6, 2) := by decide +kernel
theorem fx_114_80 : xins 114 80 = (3, 0, 0, 1) := by decide +kernel
theorem fx_114_81 : xins 114 81 = (12, 662, 7, 1) := by decide +kernel
theorem fx_114_84 : xins 114 84 = (1, 2, 1, 0) := by decide +kernel
theorem fx_114_85 : xins 114 85 = (14, 0, 0, 0) := by decide +kernel
theorem fx_114_86 : xins 114 86 = (8, 0, 0, 0) := by decide +kernel
theorem fx_114_87 : xins 114 87 = (10, 0, 2, 182) := by decide +kernel
theorem fx_114_90 : xins 114 90 = (2, 0, 6, 2) := by decide +kernel
theorem fx_114_92 : xins 114 92 = (3, 0, 0, 1) := by decide +kernel
theorem fx_114_93 : xins 114 93 = (12, 662, 7, 1) := by decide +kernel
theorem fx_114_96 : xins 114 96 = (1, 2, 1, 0) := by decide +kernel
theorem fx_114_97 : xins 114 97 = (14, 0, 0, 0) := by decide +kernel
theorem fx_114_98 : xins 114 98 = (10, 0, 5, 104) := by decide +kernel
theorem fx_114_101 : xins 114 101 = (11, 0, 0, 182) := by decide +kernel
theorem fx_114_104 : xins 114 104 = (1, 101, 2, 0) := by decide +kernel
theorem fx_114_106 : xins 114 106 = (2, 0, 1, 1) := by decide +kernel
theorem fx_114_107 : xins 114 107 = (7, 0, 2, 0) := by decide +kernel
theorem fx_114_108 : xins 114 108 = (2, 0, 6, 2) := by decide +kernel
theorem fx_114_110 : xins 114 110 = (7, 0, 0, 0) := by decide +kernel
theorem fx_114_111 : xins 114 111 = (1, 50, 2, 0) := by decide +kernel
theorem fx_114_113 : xins 114 113 = (7, 0, 0, 0) := by decide +kernel
theorem fx_114_114 : xins 114 114 = (4, 0, 7, 2) := by decide +kernel
theorem fx_114_116 : xins 114 116 = (2, 0, 4, 2) := by decide +kernel
theorem fx_114_118 : xins 114 118 = (2, 0, 5, 2) := by decide +kernel
theorem fx_114_120 : xins 114 120 = (7, 0, 0, 0) := by decide +kernel
theorem fx_114_121 : xins 114 121 = (3, 0, 0, 1) := by decide +kernel
theorem fx_114_122 : xins 114 122 = (12, 669, 7, 8) := by decide +kernel
theorem fx_114_125 : xins 114 125 = (2, 0, 7, 2) := by decide +kernel
theorem fx_114_127 : xins 114 127 = (14, 0, 0, 0) := by decide +kernel
theorem fx_114_128 : xins 114 128 = (10, 0, 4, 182) := by decide +kernel
theorem fx_114_131 : xins 114 131 = (2, 0, 4, 2) := by decide +kernel
theorem fx_114_133 : xins 114 133 = (2, 0, 5, 2) := by decide +kernel
theorem fx_114_135 : xins 114 135 = (7, 0, 0, 0) := by decide +kernel
theorem fx_114_136 : xins 114 136 = (3, 0, 0, 1) := by decide +kernel
theorem fx_114_137 : xins 114 137 = (12, 669, 7, 8) := by decide +kernel
theorem fx_114_140 : xins 114 140 = (2, 0, 7, 2) := by decide +kernel
theorem fx_114_142 : xins 114 142 = (14, 0, 0, 0) := by decide +kernel
theorem fx_114_143 : xins 114 143 = (10, 0, 1, 161) := by decide +kernel
theorem fx_114_146 : xins 114 146 = (2, 0, 4, 2) := by decide +kernel
theorem fx_114_148 : xins 114 148 = (3, 0, 0, 1) := by decide +kernel
theorem fx_114_149 : xins 114 149 = (12, 670, 7, 9) := by decide +kernel
theorem fx_114_152 : xins 114 152 = (2, 0, 7, 2) := by decide +kernel
theorem fx_114_154 : xins 114 154 = (14, 0, 0, 0) := by decide +kernel
theorem fx_114_155 : xins 114 155 = (10, 0, 2, 161) := by decide +kernel
theorem fx_114_158 : xins 114 158 = (11, 0, 0, 182) := by decide +kernel
theorem fx_114_161 : xins 114 161 = (3, 0, 0, 1) := by decide +kernel
theorem fx_114_162 : xins 114 162 = (12, 669, 7, 8) := by decide +kernel
theorem fx_114_165 : xins 114 165 = (2, 0, 7, 2) := by decide +kernel
theorem fx_114_167 : xins 114 167 = (2, 0, 4, 2) := by decide +kernel
theorem fx_114_169 : xins 114 169 = (2, 0, 5, 2) := by decide +kernel
theorem fx_114_171 : xins 114 171 = (7, 0, 0, 0) := by decide +kernel
theorem fx_114_172 : xins 114 172 = (15, 0, 0, 0) := by decide +kernel
theorem fx_114_173 : xins 114 173 = (3, 0, 0, 1) := by decide +kernel
theorem fx_114_174 : xins 114 174 = (12, 670, 7, 9) := by decide +kernel
theorem fx_114_177 : xins 114 177 = (2, 0, 7, 2) := by decide +kernel
theorem fx_114_179 : xins 114 179 = (2, 0, 4, 2) := by decide +kernel
theorem fx_114_181 : xins 114 181 = (15, 0, 0, 0) := by decide +kernel
theorem fx_114_182 : xins 114 182 = (6, 1, 5, 0) := by decide +kernel
theorem fx_114_185 : xins 114 185 = (11, 0, 0, 47) := by decide +kernel
theorem fx_114_188 : xins 114 188 = (6, 1, 4, 0) := by decide +kernel
theorem fx_114_191 : xins 114 191 = (11, 0, 0, 33) := by decide +kernel
theorem fx_114_194 : xins 114 194 = (30, 0, 0, 0) := by decide +kernel
theorem xq_115 : xnth xprog 115 [] = xk_115 := rfl
theorem fx_115_0 : xins 115 0 = (3, 0, 0, 1) := by decide +kernel
theorem fx_115_1 : xins 115 1 = (1, 0, 1, 0) := by decide +kernel
theorem fx_115_2 : xins 115 2 = (13, 661, 7, 0) := by decide +kernel
theorem fx_115_5 : xins 115 5 = (3, 0, 0, 1) := by decide +kernel
theorem fx_115_6 : xins 115 6 = (28, 735, 93, 1) := by decide +kernel
theorem fx_115_9 : xins 115 9 = (3, 0, 0, 1) := by decide +kernel
theorem fx_115_10 : xins 115 10 = (2, 0, 1, 1) := by decide +kernel
theorem fx_115_11 : xins 115 11 = (28, 751, 97, 2) := by decide +kernel
theorem fx_115_14 : xins 115 14 = (9, 0, 0, 82) := by decide +kernel
theorem fx_115_17 : xins 115 17 = (3, 0, 0, 1) := by decide +kernel
theorem fx_115_18 : xins 115 18 = (2, 0, 2, 1) := by decide +kernel
theorem fx_115_19 : xins 115 19 = (28, 751, 97, 2) := by decide +kernel
theorem fx_115_22 : xins 115 22 = (9, 0, 0, 82) := by decide +kernel
theorem fx_115_25 : xins 115 25 = (2, 0, 1, 1) := by decide +kernel
theorem fx_115_26 : xins 115 26 = (2, 0, 2, 1) := by decide +kernel
theorem fx_115_27 : xins 115 27 = (10, 0, 0, 82) := by decide +kernel
theorem fx_115_30 : xins 115 30 = (2, 0, 3, 1) := by decide +kernel
theorem fx_115_31 : xins 115 31 = (9, 0, 2, 82) := by decide +kernel
theorem fx_115_34 : xins 115 34 = (2, 0, 3, 1) := by decide +kernel
theorem fx_115_35 : xins 115 35 = (1, 3, 1, 0) := by decide +kernel
theorem fx_115_36 : xins 115 36 = (10, 0, 4, 82) := by decide +kernel
theorem fx_115_39 : xins 115 39 = (3, 0, 0, 1) := by decide +kernel
theorem fx_115_40 : xins 115 40 = (1, 2, 1, 0) := by decide +kernel
theorem fx_115_41 : xins 115 41 = (2, 0, 3, 1) := by decide +kernel
theorem fx_115_42 : xins 115 42 = (7, 0, 2, 0) := by decide +kernel
theorem fx_115_43 : xins 115 43 = (28, 800, 109, 2) := by decide +kernel
theorem fx_115_46 : xins 115 46 = (9, 0, 0, 82) := by decide +kernel
theorem fx_115_49 : xins 115 49 = (3, 0, 0, 1) := by decide +kernel
theorem fx_115_50 : xins 115 50 = (1, 2, 1, 0) := by decide +kernel
theorem fx_115_51 : xins 115 51 = (2, 0, 3, 1) := by decide +kernel
theorem fx_115_52 : xins 115 52 = (7, 0, 2, 0) := by decide +kernel
theorem fx_115_53 : xins 115 53 = (1, 1, 1, 0) := by decide +kernel
theorem fx_115_54 : xins 115 54 = (7, 0, 0, 0) := by decide +kernel
theorem fx_115_55 : xins 115 55 = (28, 800, 109, 2) := by decide +kernel
theorem fx_115_58 : xins 115 58 = (9, 0, 0, 82) := by decide +kernel
theorem fx_115_61 : xins 115 61 = (2, 0, 4, 2) := by decide +kernel
theorem fx_115_63 : xins 115 63 = (9, 0, 2, 82) := by decide +kernel
theorem fx_115_66 : xins 115 66 = (2, 0, 4, 2) := by decide +kernel
theorem fx_115_68 : xins 115 68 = (1, 4, 1, 0) := by decide +kernel
theorem fx_115_69 : xins 115 69 = (10, 0, 4, 82) := by decide +kernel
theorem fx_115_72 : xins 115 72 = (3, 0, 0, 1) := by decide +kernel
theorem fx_115_73 : xins 115 73 = (2, 0, 1, 1) := by decide +kernel
theorem fx_115_74 : xins 115 74 = (2, 0, 2, 1) := by decide +kernel
theorem fx_115_75 : xins 115 75 = (2, 0, 3, 1) := by decide +kernel
theorem fx_115_76 : xins 115 76 = (28, 829, 116, 4) := by decide +kernel
theorem fx_115_79 : xins 115 79 = (9, 0, 1, 84) := by decide +kernel
theorem fx_115_82 : xins 115 82 = (1, (-1), 1, 0) := by decide +kernel
theorem fx_115_83 : xins 115 83 = (29, 0, 0, 0) := by decide +kernel
theorem fx_115_84 : xins 115 84 = (2, 0, 4, 2) := by decide +kernel
theorem fx_115_86 : xins 115 86 = (9, 0, 1, 94) := by decide +kernel
theorem fx_115_89 : xins 115 89 = (3, 0, 0, 1) := by decide +kernel
theorem fx_115_90 : xins 115 90 = (12, 673, 7, 12) := by decide +kernel
theorem fx_115_93 : xins 115 93 = (29, 0, 0, 0) := by decide +kernel
theorem fx_115_94 : xins 115 94 = (2, 0, 4, 2) := by decide +kernel
theorem fx_115_96 : xins 115 96 = (1, 1, 1, 0) := by decide +kernel
theorem fx_115_97 : xins 115 97 = (10, 0, 1, 105) := by decide +kernel
theorem fx_115_100 : xins 115 100 = (3, 0, 0, 1) := by decide +kernel
theorem fx_115_101 : xins 115 101 = (12, 674, 7, 13) := by decide +kernel
theorem fx_115_104 : xins 115 104 = (29, 0, 0, 0) := by decide +kernel
theorem fx_115_105 : xins 115 105 = (2, 0, 4, 2) := by decide +kernel
theorem fx_115_107 : xins 115 107 = (1, 2, 1, 0) := by decide +kernel
theorem fx_115_108 : xins 115 108 = (10, 0, 1, 116) := by decide +kernel
theorem fx_115_111 : xins 115 111 = (3, 0, 0, 1) := by decide +kernel
theorem fx_115_112 : xins 115 112 = (12, 675, 7, 14) := by decide +kernel
theorem fx_115_115 : xins 115 115 = (29, 0, 0, 0) := by decide +kernel
theorem fx_115_116 : xins 115 116 = (2, 0, 4, 2) := by decide +kernel
theorem fx_115_118 : xins 115 118 = (1, 3, 1, 0) := by decide +kernel
theorem fx_115_119 : xins 115 119 = (10, 0, 1, 129) := by decide +kernel
theorem fx_115_122 : xins 115 122 = (3, 0, 0, 1) := by decide +kernel
theorem fx_115_123 : xins 115 123 = (12, 676, 7, 15) := by decide +kernel
theorem fx_115_126 : xins 115 126 = (11, 0, 0, 148) := by decide +kernel
theorem fx_115_129 : xins 115 129 = (3, 0, 0, 1) := by decide +kernel
theorem fx_115_130 : xins 115 130 = (12, 673, 7, 12) := by decide +kernel
theorem fx_115_133 : xins 115 133 = (3, 0, 0, 1) := by decide +kernel
theorem fx_115_134 : xins 115 134 = (12, 674, 7, 13) := by decide +kernel
theorem fx_115_137 : xins 115 137 = (7, 0, 1, 0) := by decide +kernel
theorem fx_115_138 : xins 115 138 = (3, 0, 0, 1) := by decide +kernel
theorem fx_115_139 : xins 115 139 = (12, 675, 7, 14) := by decide +kernel
theorem fx_115_142 : xins 115 142 = (7, 0, 1, 0) := by decide +kernel
theorem fx_115_143 : xins 115 143 = (3, 0, 0, 1) := by decide +kernel
theorem fx_115_144 : xins 115 144 = (12, 676, 7, 15) := by decide +kernel
theorem fx_115_147 : xins 115 147 = (7, 0, 1, 0) := by decide +kernel
theorem fx_115_148 : xins 115 148 = (29, 0, 0, 0) := by decide +kernel
theorem xq_116 : xnth xprog 116 [] = xk_116 := rfl
theorem fx_116_0 : xins 116 0 = (3, 0, 0, 1) := by decide +kernel
theorem fx_116_1 : xins 116 1 = (1, 0, 1, 0) := by decide +kernel
theorem fx_116_2 : xins 116 2 = (2, 0, 1, 1) := by decide +kernel
theorem fx_116_3 : xins 116 3 = (1, 2, 1, 0) := by decide +kernel
theorem fx_116_4 : xins 116 4 = (2, 0, 3, 1) := by decide +kernel
theorem fx_116_5 : xins 116 5 = (7, 0, 2, 0) := by decide +kernel
theorem fx_116_6 : xins 116 6 = (28, 820, 114, 4) := by decide +kernel
theorem fx_116_9 : xins 116 9 = (3, 0, 0, 1) := by decide +kernel
theorem fx_116_10 : xins 116 10 = (1, 1, 1, 0) := by decide +kernel
theorem fx_116_11 : xins 116 11 = (2, 0, 2, 1) := by decide +kernel
theorem fx_116_12 : xins 116 12 = (1, 2, 1, 0) := by decide +kernel
theorem fx_116_13 : xins 116 13 = (2, 0, 3, 1) := by decide +kernel
theorem fx_116_14 : xins 116 14 = (7, 0, 2, 0) := by decide +kernel
theorem fx_116_15 : xins 116 15 = (1, 1, 1, 0) := by decide +kernel
theorem fx_116_16 : xins 116 16 = (7, 0, 0, 0) := by decide +kernel
theorem fx_116_17 : xins 116 17 = (28, 820, 114, 4) := by decide +kernel
theorem fx_116_20 : xins 116 20 = (3, 0, 0, 1) := by decide +kernel
theorem fx_116_21 : xins 116 21 = (1, 1000000, 2, 824) := by decide +kernel
theorem fx_116_23 : xins 116 23 = (13, 673, 7, 12) := by decide +kernel
theorem fx_116_26 : xins 116 26 = (3, 0, 0, 1) := by decide +kernel
theorem fx_116_27 : xins 116 27 = (12, 662, 7, 1) := by decide +kernel
theorem fx_116_30 : xins 116 30 = (1, 4, 1, 0) := by decide +kernel
theorem fx_116_31 : xins 116 31 = (1, 2, 1, 0) := by decide +kernel
theorem fx_116_32 : xins 116 32 = (2, 0, 3, 1) := by decide +kernel
theorem fx_116_33 : xins 116 33 = (7, 0, 2, 0) := by decide +kernel
theorem fx_116_34 : xins 116 34 = (7, 0, 0, 0) := by decide +kernel
theorem fx_116_35 : xins 116 35 = (1, 1, 1, 0) := by decide +kernel
theorem fx_116_36 : xins 116 36 = (7, 0, 0, 0) := by decide +kernel
theorem fx_116_37 : xins 116 37 = (14, 0, 0, 0) := by decide +kernel
theorem fx_116_38 : xins 116 38 = (3, 0, 0, 1) := by decide +kernel
theorem fx_116_39 : xins 116 39 = (12, 662, 7, 1) := by decide +kernel
theorem fx_116_42 : xins 116 42 = (1, 4, 1, 0) := by decide +kernel
theorem fx_116_43 : xins 116 43 = (1, 2, 1, 0) := by decide +kernel
theorem fx_116_44 : xins 116 44 = (2, 0, 3, 1) := by decide +kernel
theorem fx_116_45 : xins 116 45 = (7, 0, 2, 0) := by decide +kernel
theorem fx_116_46 : xins 116 46 = (7, 0, 0, 0) := by decide +kernel
theorem fx_116_47 : xins 116 47 = (14, 0, 0, 0) := by decide +kernel
theorem fx_116_48 : xins 116 48 = (7, 0, 1, 0) := by decide +kernel
theorem fx_116_49 : xins 116 49 = (4, 0, 4, 2) := by decide +kernel
theorem fx_116_51 : xins 116 51 = (1, 0, 1, 0) := by decide +kernel
theorem fx_116_52 : xins 116 52 = (4, 0, 5, 2) := by decide +kernel
theorem fx_116_54 : xins 116 54 = (2, 0, 5, 2) := by decide +kernel
theorem fx_116_56 : xins 116 56 = (1, 101, 2, 0) := by decide +kernel
theorem fx_116_58 : xins 116 58 = (10, 0, 3, 358) := by decide +kernel
theorem fx_116_61 : xins 116 61 = (3, 0, 0, 1) := by decide +kernel
theorem fx_116_62 : xins 116 62 = (12, 669, 7, 8) := by decide +kernel
theorem fx_116_65 : xins 116 65 = (2, 0, 5, 2) := by decide +kernel
theorem fx_116_67 : xins 116 67 = (14, 0, 0, 0) := by decide +kernel
theorem fx_116_68 : xins 116 68 = (1, 1000000, 2, 824) := by decide +kernel
theorem fx_116_70 : xins 116 70 = (10, 0, 1, 76) := by decide +kernel
theorem fx_116_73 : xins 116 73 = (11, 0, 0, 352) := by decide +kernel
theorem fx_116_76 : xins 116 76 = (1, 0, 1, 0) := by decide +kernel
theorem fx_116_77 : xins 116 77 = (4, 0, 6, 2) := by decide +kernel
theorem fx_116_79 : xins 116 79 = (2, 0, 6, 2) := by decide +kernel
theorem fx_116_81 : xins 116 81 = (1, 101, 2, 0) := by decide +kernel
theorem fx_116_83 : xins 116 83 = (10, 0, 3, 352) := by decide +kernel
theorem fx_116_86 : xins 116 86 = (3, 0, 0, 1) := by decide +kernel
theorem fx_116_87 : xins 116 87 = (12, 669, 7, 8) := by decide +kernel
theorem fx_116_90 : xins 116 90 = (1, 101, 2, 0) := by decide +kernel
theorem fx_116_92 : xins 116 92 = (2, 0, 6, 2) := by decide +kernel
theorem fx_116_94 : xins 116 94 = (7, 0, 0, 0) := by decide +kernel
theorem fx_116_95 : xins 116 95 = (14, 0, 0, 0) := by decide +kernel
theorem fx_116_96 : xins 116 96 = (1, 1000000, 2, 824) := by decide +kernel
theorem fx_116_98 : xins 116 98 = (10, 0, 1, 104) := by decide +kernel
theorem fx_116_101 : xins 116 101 = (11, 0, 0, 346) := by decide +kernel
theorem fx_116_104 : xins 116 104 = (2, 0, 4, 2) := by decide +kernel
theorem fx_116_106 : xins 116 106 = (2, 0, 6, 2) := by decide +kernel
theorem fx_116_108 : xins 116 108 = (7, 0, 0, 0) := by decide +kernel
theorem fx_116_109 : xins 116 109 = (2, 0, 5, 2) := by decide +kernel
theorem fx_116_111 : xins 116 111 = (7, 0, 1, 0) := by decide +kernel
theorem fx_116_112 : xins 116 112 = (4, 0, 7, 2) := by decide +kernel
theorem fx_116_114 : xins 116 114 = (3, 0, 0, 1) := by decide +kernel
theorem fx_116_115 : xins 116 115 = (2, 0, 3, 1) := by decide +kernel
theorem fx_116_116 : xins 116 116 = (28, 804, 110, 2) := by decide +kernel
theorem fx_116_119 : xins 116 119 = (9, 0, 0, 153) := by decide +kernel
theorem fx_116_122 : xins 116 122 = (2, 0, 7, 2) := by decide +kernel
theorem fx_116_124 : xins 116 124 = (3, 0, 0, 1) := by decide +kernel
theorem fx_116_125 : xins 116 125 = (12, 662, 7, 1) := by decide +kernel
theorem fx_116_128 : xins 116 128 = (1, 12, 2, 0) := by decide +kernel
theorem fx_116_130 : xins 116 130 = (2, 0, 3, 1) := by decide +kernel
theorem fx_116_131 : xins 116 131 = (7, 0, 0, 0) := by decide +kernel
theorem fx_116_132 : xins 116 132 = (14, 0, 0, 0) := by decide +kernel
theorem fx_116_133 : xins 116 133 = (10, 0, 2, 346) := by decide +kernel
theorem fx_116_136 : xins 116 136 = (2, 0, 7, 2) := by decide +kernel
theorem fx_116_138 : xins 116 138 = (3, 0, 0, 1) := by decide +kernel
theorem fx_116_139 : xins 116 139 = (12, 662, 7, 1) := by decide +kernel
theorem fx_116_142 : xins 116 142 = (1, 16, 2, 0) := by decide +kernel
theorem fx_116_144 : xins 116 144 = (2, 0, 3, 1) := by decide +kernel
theorem fx_116_145 : xins 116 145 = (7, 0, 0, 0) := by decide +kernel
theorem fx_116_146 : xins 116 146 = (14, 0, 0, 0) := by decide +kernel
theorem fx_116_147 : xins 116 147 = (10, 0, 5, 153) := by decide +kernel
theorem fx_116_150 : xins 116 150 = (11, 0, 0, 346) := by decide +kernel
theorem fx_116_153 : xins 116 153 = (3, 0, 0, 1) := by decide +kernel
theorem fx_116_154 : xins 116 154 = (12, 669, 7, 8) := by decide +kernel
theorem fx_116_157 : xins 116 157 = (2, 0, 5, 2) := by decide +kernel
theorem fx_116_159 : xins 116 159 = (14, 0, 0, 0) := by decide +kernel
theorem fx_116_160 : xins 116 160 = (3, 0, 0, 1) := by decide +kernel
theorem fx_116_161 : xins 116 161 = (12, 669, 7, 8) := by decide +kernel
theorem fx_116_164 : xins 116 164 = (1, 101, 2, 0) := by decide +kernel
theorem fx_116_166 : xins 116 166 = (2, 0, 6, 2) := by decide +kernel
theorem fx_116_168 : xins 116 168 = (7, 0, 0, 0) := by decide +kernel
theorem fx_116_169 : xins 116 169 = (14, 0, 0, 0) := by decide +kernel
theorem fx_116_170 : xins 116 170 = (7, 0, 0, 0) := by decide +kernel
theorem fx_116_171 : xins 116 171 = (4, 0, 8, 2) := by decide +kernel
theorem fx_116_173 : xins 116 173 = (3, 0, 0, 1) := by decide +kernel
theorem fx_116_174 : xins 116 174 = (12, 669, 7, 8) := by decide +kernel
theorem fx_116_177 : xins 116 177 = (2, 0, 5, 2) := by decide +kernel
theorem fx_116_179 : xins 116 179 = (14, 0, 0, 0) := by decide +kernel
theorem fx_116_180 : xins 116 180 = (3, 0, 0, 1) := by decide +kernel
theorem fx_116_181 : xins 116 181 = (12, 670, 7, 9) := by decide +kernel
theorem fx_116_184 : xins 116 184 = (2, 0, 5, 2) := by decide +kernel
theorem fx_116_186 : xins 116 186 = (14, 0, 0, 0) := by decide +kernel
theorem fx_116_187 : xins 116 187 = (7, 0, 1, 0) := by decide +kernel
theorem fx_116_188 : xins 116 188 = (4, 0, 9, 2) := by decide +kernel
theorem fx_116_190 : xins 116 190 = (2, 0, 8, 2) := by decide +kernel
theorem fx_116_192 : xins 116 192 = (3, 0, 0, 1) := by decide +kernel
theorem fx_116_193 : xins 116 193 = (12, 673, 7, 12) := by decide +kernel
theorem fx_116_196 : xins 116 196 = (10, 0, 3, 203) := by decide +kernel
theorem fx_116_199 : xins 116 199 = (1, 1, 1, 0) := by decide +kernel
theorem fx_116_200 : xins 116 200 = (11, 0, 0, 204) := by decide +kernel
theorem fx_116_203 : xins 116 203 = (1, 0, 1, 0) := by decide +kernel
theorem fx_116_204 : xins 116 204 = (4, 0, 10, 2) := by decide +kernel
theorem fx_116_206 : xins 116 206 = (2, 0, 8, 2) := by decide +kernel
theorem fx_116_208 : xins 116 208 = (3, 0, 0, 1) := by decide +kernel
theorem fx_116_209 : xins 116 209 = (12, 673, 7, 12) := by decide +kernel
theorem fx_116_212 : xins 116 212 = (10, 0, 1, 301) := by decide +kernel
theorem fx_116_215 : xins 116 215 = (3, 0, 0, 1) := by decide +kernel
theorem fx_116_216 : xins 116 216 = (12, 670, 7, 9) := by decide +kernel
theorem fx_116_219 : xins 116 219 = (2, 0, 5, 2) := by decide +kernel
theorem fx_116_221 : xins 116 221 = (14, 0, 0, 0) := by decide +kernel
theorem fx_116_222 : xins 116 222 = (3, 0, 0, 1) := by decide +kernel
theorem fx_116_223 : xins 116 223 = (12, 674, 7, 13) := by decide +kernel
theorem fx_116_226 : xins 116 226 = (10, 0, 0, 251) := by decide +kernel
theorem fx_116_229 : xins 116 229 = (3, 0, 0, 1) := by decide +kernel
theorem fx_116_230 : xins 116 230 = (12, 670, 7, 9) := by decide +kernel
theorem fx_116_233 : xins 116 233 = (2, 0, 5, 2) := by decide +kernel
theorem fx_116_235 : xins 116 235 = (14, 0, 0, 0) := by decide +kernel
theorem fx_116_236 : xins 116 236 = (3, 0, 0, 1) := by decide +kernel
theorem fx_116_237 : xins 116 237 = (12, 674, 7, 13) := by decide +kernel
theorem fx_116_240 : xins 116 240 = (10, 0, 3, 247) := by decide +kernel
theorem fx_116_243 : xins 116 243 = (1, 1, 1, 0) := by decide +kernel
theorem fx_116_244 : xins 116 244 = (11, 0, 0, 299) := by decide +kernel
theorem fx_116_247 : xins 116 247 = (1, 0, 1, 0) := by decide +kernel
theorem fx_116_248 : xins 116 248 = (11, 0, 0, 299) := by decide +kernel
theorem fx_116_251 : xins 116 251 = (2, 0, 9, 2) := by decide +kernel
theorem fx_116_253 : xins 116 253 = (3, 0, 0, 1) := by decide +kernel
theorem fx_116_254 : xins 116 254 = (12, 675, 7, 14) := by decide +kernel
theorem fx_116_257 : xins 116 257 = (10, 0, 0, 277) := by decide +kernel
theorem fx_116_260 : xins 116 260 = (2, 0, 9, 2) := by decide +kernel
theorem fx_116_262 : xins 116 262 = (3, 0, 0, 1) := by decide +kernel
theorem fx_116_263 : xins 116 263 = (12, 675, 7, 14) := by decide +kernel
theorem fx_116_266 : xins 116 266 = (10, 0, 3, 273) := by decide +kernel
theorem fx_116_269 : xins 116 269 = (1, 1, 1, 0) := by decide +kernel
theorem fx_116_270 : xins 116 270 = (11, 0, 0, 299) := by decide +kernel
theorem fx_116_273 : xins 116 273 = (1, 0, 1, 0) := by decide +kernel
theorem fx_116_274 : xins 116 274 = (11, 0, 0, 299) := by decide +kernel
theorem fx_116_277 : xins 116 277 = (3, 0, 0, 1) := by decide +kernel
theorem fx_116_278 : xins 116 278 = (12, 670, 7, 9) := by decide +kernel
theorem fx_116_281 : xins 116 281 = (1, 101, 2, 0) := by decide +kernel
theorem fx_116_283 : xins 116 283 = (2, 0, 6, 2) := by decide +kernel
theorem fx_116_285 : xins 116 285 = (7, 0, 0, 0) := by decide +kernel
theorem fx_116_286 : xins 116 286 = (14, 0, 0, 0) := by decide +kernel
theorem fx_116_287 : xins 116 287 = (3, 0, 0, 1) := by decide +kernel
theorem fx_116_288 : xins 116 288 = (12, 676, 7, 15) := by decide +kernel
theorem fx_116_291 : xins 116 291 = (10, 0, 3, 298) := by decide +kernel
theorem fx_116_294 : xins 116 294 = (1, 1, 1, 0) := by decide +kernel
theorem fx_116_295 : xins 116 295 = (11, 0, 0, 299) := by decide +kernel
theorem fx_116_298 : xins 116 298 = (1, 0, 1, 0) := by decide +kernel
theorem fx_116_299 : xins 116 299 = (4, 0, 10, 2) := by decide +kernel
theorem fx_116_301 : xins 116 301 = (2, 0, 10, 2) := by decide +kernel
theorem fx_116_303 : xins 116 303 = (9, 0, 1, 309) := by decide +kernel
theorem fx_116_306 : xins 116 306 = (11, 0, 0, 346) := by decide +kernel
theorem fx_116_309 : xins 116 309 = (3, 0, 0, 1) := by decide +kernel
theorem fx_116_310 : xins 116 310 = (2, 0, 8, 2) := by decide +kernel
theorem fx_116_312 : xins 116 312 = (13, 673, 7, 12) := by decide +kernel
theorem fx_116_315 : xins 116 315 = (3, 0, 0, 1) := by decide +kernel
theorem fx_116_316 : xins 116 316 = (3, 0, 0, 1) := by decide +kernel
theorem fx_116_317 : xins 116 317 = (12, 670, 7, 9) := by decide +kernel
theorem fx_116_320 : xins 116 320 = (2, 0, 5, 2) := by decide +kernel
theorem fx_116_322 : xins 116 322 = (14, 0, 0, 0) := by decide +kernel
theorem fx_116_323 : xins 116 323 = (13, 674, 7, 13) := by decide +kernel
theorem fx_116_326 : xins 116 326 = (3, 0, 0, 1) := by decide +kernel
theorem fx_116_327 : xins 116 327 = (2, 0, 9, 2) := by decide +kernel
theorem fx_116_329 : xins 116 329 = (13, 675, 7, 14) := by decide +kernel
theorem fx_116_332 : xins 116 332 = (3, 0, 0, 1) := by decide +kernel
theorem fx_116_333 : xins 116 333 = (3, 0, 0, 1) := by decide +kernel
theorem fx_116_334 : xins 116 334 = (12, 670, 7, 9) := by decide +kernel
theorem fx_116_337 : xins 116 337 = (1, 101, 2, 0) := by decide +kernel
theorem fx_116_339 : xins 116 339 = (2, 0, 6, 2) := by decide +kernel
theorem fx_116_341 : xins 116 341 = (7, 0, 0, 0) := by decide +kernel
theorem fx_116_342 : xins 116 342 = (14, 0, 0, 0) := by decide +kernel
theorem fx_116_343 : xins 116 343 = (13, 676, 7, 15) := by decide +kernel
theorem fx_116_346 : xins 116 346 = (6, 1, 6, 0) := by decide +kernel
theorem fx_116_349 : xins 116 349 = (11, 0, 0, 79) := by decide +kernel
theorem fx_116_352 : xins 116 352 = (6, 1, 5, 0) := by decide +kernel
theorem fx_116_355 : xins 116 355 = (11, 0, 0, 54) := by decide +kernel
theorem fx_116_358 : xins 116 358 = (3, 0, 0, 1) := by decide +kernel
theorem fx_116_359 : xins 116 359 = (12, 673, 7, 12) := by decide +kernel
theorem fx_116_362 : xins 116 362 = (1, 1000000, 2, 824) := by decide +kernel
theorem fx_116_364 : xins 116 364 = (10, 0, 3, 371) := by decide +kernel
theorem fx_116_367 : xins 116 367 = (1, 1, 1, 0) := by decide +kernel
theorem fx_116_368 : xins 116 368 = (11, 0, 0, 372) := by decide +kernel
theorem fx_116_371 : xins 116 371 = (1, 0, 1, 0) := by decide +kernel
theorem fx_116_372 : xins 116 372 = (29, 0, 0, 0) := by decide +kernel
theorem xq_117 : xnth xprog 117 [] = xk_117 := rfl
theorem fx_117_0 : xins 117 0 = (3, 0, 0, 1) := by decide +kernel
theorem fx_117_1 : xins 117 1 = (1, 0, 1, 0) := by decide +kernel
theorem fx_117_2 : xins 117 2 = (13, 661, 7, 0) := by decide +kernel
theorem fx_117_5 : xins 117 5 = (3, 0, 0, 1) := by decide +kernel
theorem fx_117_6 : xins 117 6 = (28, 735, 93, 1) := by decide +kernel
theorem fx_117_9 : xins 117 9 = (2, 0, 1, 1) := by decide +kernel
theorem fx_117_10 : xins 117 10 = (9, 0, 0, 25) := by decide +kernel
theorem fx_117_13 : xins 117 13 = (2, 0, 1, 1) := by decide +kernel
theorem fx_117_14 : xins 117 14 = (1, 10, 2, 0) := by decide +kernel
theorem fx_117_16 : xins 117 16 = (10, 0, 2, 29) := by decide +kernel
theorem fx_117_19 : xins 117 19 = (2, 0, 1, 1) := by decide +kernel
theorem fx_117_20 : xins 117 20 = (1, 18, 2, 0) := by decide +kernel
theorem fx_117_22 : xins 117 22 = (10, 0, 3, 29) := by decide +kernel
theorem fx_117_25 : xins 117 25 = (1, 1, 1, 0) := by decide +kernel
theorem fx_117_26 : xins 117 26 = (11, 0, 0, 30) := by decide +kernel
theorem fx_117_29 : xins 117 29 = (1, 0, 1, 0) := by decide +kernel
theorem fx_117_30 : xins 117 30 = (4, 0, 2, 1) := by decide +kernel
theorem fx_117_31 : xins 117 31 = (2, 0, 2, 1) := by decide +kernel
theorem fx_117_32 : xins 117 32 = (9, 0, 0, 42) := by decide +kernel
theorem fx_117_35 : xins 117 35 = (3, 0, 0, 1) := by decide +kernel
theorem fx_117_36 : xins 117 36 = (28, 837, 118, 1) := by decide +kernel
theorem fx_117_39 : xins 117 39 = (9, 0, 1, 44) := by decide +kernel
theorem fx_117_42 : xins 117 42 = (1, (-1), 1, 0) := by decide +kernel
theorem fx_117_43 : xins 117 43 = (29, 0, 0, 0) := by decide +kernel
theorem fx_117_44 : xins 117 44 = (2, 0, 1, 1) := by decide +kernel
theorem fx_117_45 : xins 117 45 = (9, 0, 1, 57) := by decide +kernel
theorem fx_117_48 : xins 117 48 = (3, 0, 0, 1) := by decide +kernel
theorem fx_117_49 : xins 117 49 = (12, 679, 7, 18) := by decide +kernel
theorem fx_117_52 : xins 117 52 = (1, 0, 1, 0) := by decide +kernel
theorem fx_117_53 : xins 117 53 = (14, 0, 0, 0) := by decide +kernel
theorem fx_117_54 : xins 117 54 = (11, 0, 0, 66) := by decide +kernel
theorem fx_117_57 : xins 117 57 = (3, 0, 0, 1) := by decide +kernel
theorem fx_117_58 : xins 117 58 = (12, 683, 7, 22) := by decide +kernel
theorem fx_117_61 : xins 117 61 = (2, 0, 1, 1) := by decide +kernel
theorem fx_117_62 : xins 117 62 = (1, 10, 2, 0) := by decide +kernel
theorem fx_117_64 : xins 117 64 = (7, 0, 1, 0) := by decide +kernel
theorem fx_117_65 : xins 117 65 = (14, 0, 0, 0) := by decide +kernel
theorem fx_117_66 : xins 117 66 = (29, 0, 0, 0) := by decide +kernel
theorem xq_118 : xnth xprog 118 [] = xk_118 := rfl
theorem fx_118_0 : xins 118 0 = (3, 0, 0, 1) := by decide +kernel
theorem fx_118_1 : xins 118 1 = (28, 841, 119, 1) := by decide +kernel
theorem fx_118_4 : xins 118 4 = (3, 0, 0, 1) := by decide +kernel
theorem fx_118_5 : xins 118 5 = (12, 679, 7, 18) := by decide +kernel
theorem fx_118_8 : xins 118 8 = (1, 0, 1, 0) := by decide +kernel
theorem fx_118_9 : xins 118 9 = (14, 0, 0, 0) := by decide +kernel
theorem fx_118_10 : xins 118 10 = (1, 1000000, 2, 824) := by decide +kernel
theorem fx_118_12 : xins 118 12 = (10, 0, 2, 17) := by decide +kernel
theorem fx_118_15 : xins 118 15 = (1, 0, 1, 0) := by decide +kernel
theorem fx_118_16 : xins 118 16 = (29, 0, 0, 0) := by decide +kernel
theorem fx_118_17 : xins 118 17 = (1, 0, 1, 0) := by decide +kernel
theorem fx_118_18 : xins 118 18 = (4, 0, 1, 1) := by decide +kernel
theorem fx_118_19 : xins 118 19 = (1, 0, 1, 0) := by decide +kernel
theorem fx_118_20 : xins 118 20 = (4, 0, 2, 1) := by decide +kernel
theorem fx_118_21 : xins 118 21 = (2, 0, 2, 1) := by decide +kernel
theorem fx_118_22 : xins 118 22 = (1, 4, 1, 0) := by decide +kernel
theorem fx_118_23 : xins 118 23 = (10, 0, 3, 428) := by decide +kernel
theorem fx_118_26 : xins 118 26 = (3, 0, 0, 1) := by decide +kernel
theorem fx_118_27 : xins 118 27 = (1, 2, 1, 0) := by decide +kernel
theorem fx_118_28 : xins 118 28 = (2, 0, 2, 1) := by decide +kernel
theorem fx_118_29 : xins 118 29 = (7, 0, 2, 0) := by decide +kernel
theorem fx_118_30 : xins 118 30 = (28, 800, 109, 2) := by decide +kernel
theorem fx_118_33 : xins 118 33 = (4, 0, 3, 1) := by decide +kernel
theorem fx_118_34 : xins 118 34 = (3, 0, 0, 1) := by decide +kernel
theorem fx_118_35 : xins 118 35 = (1, 2, 1, 0) := by decide +kernel
theorem fx_118_36 : xins 118 36 = (2, 0, 2, 1) := by decide +kernel
theorem fx_118_37 : xins 118 37 = (7, 0, 2, 0) := by decide +kernel
theorem fx_118_38 : xins 118 38 = (1, 1, 1, 0) := by decide +kernel
theorem fx_118_39 : xins 118 39 = (7, 0, 0, 0) := by decide +kernel
theorem fx_118_40 : xins 118 40 = (28, 800, 109, 2) := by decide +kernel
theorem fx_118_43 : xins 118 43 = (4, 0, 4, 2) := by decide +kernel
theorem fx_118_45 : xins 118 45 = (3, 0, 0, 1) := by decide +kernel
theorem fx_118_46 : xins 118 46 = (12, 683, 7, 22) := by decide +kernel
theorem fx_118_49 : xins 118 49 = (1, 2, 1, 0) := by decide +kernel
theorem fx_118_50 : xins 118 50 = (2, 0, 2, 1) := by decide +kernel
theorem fx_118_51 : xins 118 51 = (7, 0, 2, 0) := by decide +kernel
theorem fx_118_52 : xins 118 52 = (1, (-1), 1, 0) := by decide +kernel
theorem fx_118_53 : xins 118 53 = (15, 0, 0, 0) := by decide +kernel
theorem fx_118_54 : xins 118 54 = (3, 0, 0, 1) := by decide +kernel
theorem fx_118_55 : xins 118 55 = (12, 683, 7, 22) := by decide +kernel
theorem fx_118_58 : xins 118 58 = (1, 2, 1, 0) := by decide +kernel
theorem fx_118_59 : xins 118 59 = (2, 0, 2, 1) := by decide +kernel
theorem fx_118_60 : xins 118 60 = (7, 0, 2, 0) := by decide +kernel
theorem fx_118_61 : xins 118 61 = (1, 1, 1, 0) := by decide +kernel
theorem fx_118_62 : xins 118 62 = (7, 0, 0, 0) := by decide +kernel
theorem fx_118_63 : xins 118 63 = (1, (-1), 1, 0) := by decide +kernel
theorem fx_118_64 : xins 118 64 = (15, 0, 0, 0) := by decide +kernel
theorem fx_118_65 : xins 118 65 = (2, 0, 3, 1) := by decide +kernel
theorem fx_118_66 : xins 118 66 = (9, 0, 1, 77) := by decide +kernel
theorem fx_118_69 : xins 118 69 = (2, 0, 4, 2) := by decide +kernel
theorem fx_118_71 : xins 118 71 = (9, 0, 1, 77) := by decide +kernel
theorem fx_118_74 : xins 118 74 = (11, 0, 0, 422) := by decide +kernel
theorem fx_118_77 : xins 118 77 = (1, 4096, 3, 0) := by decide +kernel
theorem fx_118_80 : xins 118 80 = (2, 0, 2, 1) := by decide +kernel
theorem fx_118_81 : xins 118 81 = (7, 0, 2, 0) := by decide +kernel
theorem fx_118_82 : xins 118 82 = (2, 0, 1, 1) := by decide +kernel
theorem fx_118_83 : xins 118 83 = (7, 0, 0, 0) := by decide +kernel
theorem fx_118_84 : xins 118 84 = (4, 0, 5, 2) := by decide +kernel
theorem fx_118_86 : xins 118 86 = (1, 4096, 3, 0) := by decide +kernel
theorem fx_118_89 : xins 118 89 = (2, 0, 2, 1) := by decide +kernel
theorem fx_118_90 : xins 118 90 = (1, 1, 1, 0) := by decide +kernel
theorem fx_118_91 : xins 118 91 = (7, 0, 0, 0) := by decide +kernel
theorem fx_118_92 : xins 118 92 = (7, 0, 2, 0) := by decide +kernel
theorem fx_118_93 : xins 118 93 = (4, 0, 6, 2) := by decide +kernel
theorem fx_118_95 : xins 118 95 = (1, 0, 1, 0) := by decide +kernel
theorem fx_118_96 : xins 118 96 = (4, 0, 7, 2) := by decide +kernel
theorem fx_118_98 : xins 118 98 = (2, 0, 7, 2) := by decide +kernel
theorem fx_118_100 : xins 118 100 = (1, 12, 2, 0) := by decide +kernel
theorem fx_118_102 : xins 118 102 = (10, 0, 3, 368) := by decide +kernel
theorem fx_118_105 : xins 118 105 = (3, 0, 0, 1) := by decide +kernel
theorem fx_118_106 : xins 118 106 = (12, 683, 7, 22) := by decide +kernel
theorem fx_118_109 : xins 118 109 = (1, 2, 1, 0) := by decide +kernel
theorem fx_118_110 : xins 118 110 = (2, 0, 2, 1) := by decide +kernel
theorem fx_118_111 : xins 118 111 = (7, 0, 2, 0) := by decide +kernel
theorem fx_118_112 : xins 118 112 = (14, 0, 0, 0) := by decide +kernel
theorem fx_118_113 : xins 118 113 = (1, (-1), 1, 0) := by decide +kernel
theorem fx_118_114 : xins 118 114 = (10, 0, 1, 368) := by decide +kernel
theorem fx_118_117 : xins 118 117 = (3, 0, 0, 1) := by decide +kernel
theorem fx_118_118 : xins 118 118 = (12, 683, 7, 22) := by decide +kernel
theorem fx_118_121 : xins 118 121 = (1, 2, 1, 0) := by decide +kernel
theorem fx_118_122 : xins 118 122 = (2, 0, 2, 1) := by decide +kernel
theorem fx_118_123 : xins 118 123 = (7, 0, 2, 0) := by decide +kernel
theorem fx_118_124 : xins 118 124 = (1, 1, 1, 0) := by decide +kernel
theorem fx_118_125 : xins 118 125 = (7, 0, 0, 0) := by decide +kernel
theorem fx_118_126 : xins 118 126 = (14, 0, 0, 0) := by decide +kernel
theorem fx_118_127 : xins 118 127 = (1, (-1), 1, 0) := by decide +kernel
theorem fx_118_128 : xins 118 128 = (10, 0, 1, 368) := by decide +kernel
theorem fx_118_131 : xins 118 131 = (3, 0, 0, 1) := by decide +kernel
theorem fx_118_132 : xins 118 132 = (2, 0, 1, 1) := by decide +kernel
theorem fx_118_133 : xins 118 133 = (2, 0, 7, 2) := by decide +kernel
theorem fx_118_135 : xins 118 135 = (28, 853, 122, 3) := by decide +kernel
theorem fx_118_138 : xins 118 138 = (9, 0, 0, 144) := by decide +kernel
theorem fx_118_141 : xins 118 141 = (11, 0, 0, 362) := by decide +kernel
theorem fx_118_144 : xins 118 144 = (2, 0, 4, 2) := by decide +kernel
theorem fx_118_146 : xins 118 146 = (9, 0, 1, 191) := by decide +kernel
theorem fx_118_149 : xins 118 149 = (3, 0, 0, 1) := by decide +kernel
theorem fx_118_150 : xins 118 150 = (2, 0, 5, 2) := by decide +kernel
theorem fx_118_152 : xins 118 152 = (2, 0, 6, 2) := by decide +kernel
theorem fx_118_154 : xins 118 154 = (2, 0, 1, 1) := by decide +kernel
theorem fx_118_155 : xins 118 155 = (1, 1, 1, 0) := by decide +kernel
theorem fx_118_156 : xins 118 156 = (2, 0, 7, 2) := by decide +kernel
theorem fx_118_158 : xins 118 158 = (7, 0, 8, 0) := by decide +kernel
theorem fx_118_159 : xins 118 159 = (7, 0, 6, 0) := by decide +kernel
theorem fx_118_160 : xins 118 160 = (7, 0, 0, 0) := by decide +kernel
theorem fx_118_161 : xins 118 161 = (3, 0, 0, 1) := by decide +kernel
theorem fx_118_162 : xins 118 162 = (12, 677, 7, 16) := by decide +kernel
theorem fx_118_165 : xins 118 165 = (1, 8, 2, 0) := by decide +kernel
theorem fx_118_167 : xins 118 167 = (2, 0, 7, 2) := by decide +kernel
theorem fx_118_169 : xins 118 169 = (7, 0, 2, 0) := by decide +kernel
theorem fx_118_170 : xins 118 170 = (1, 2, 1, 0) := by decide +kernel
theorem fx_118_171 : xins 118 171 = (2, 0, 2, 1) := by decide +kernel
theorem fx_118_172 : xins 118 172 = (7, 0, 2, 0) := by decide +kernel
theorem fx_118_173 : xins 118 173 = (7, 0, 0, 0) := by decide +kernel
theorem fx_118_174 : xins 118 174 = (14, 0, 0, 0) := by decide +kernel
theorem fx_118_175 : xins 118 175 = (28, 857, 123, 4) := by decide +kernel
theorem fx_118_178 : xins 118 178 = (9, 0, 0, 191) := by decide +kernel
theorem fx_118_181 : xins 118 181 = (3, 0, 0, 1) := by decide +kernel
theorem fx_118_182 : xins 118 182 = (12, 683, 7, 22) := by decide +kernel
theorem fx_118_185 : xins 118 185 = (1, 2, 1, 0) := by decide +kernel
theorem fx_118_186 : xins 118 186 = (2, 0, 2, 1) := by decide +kernel
theorem fx_118_187 : xins 118 187 = (7, 0, 2, 0) := by decide +kernel
theorem fx_118_188 : xins 118 188 = (2, 0, 7, 2) := by decide +kernel
theorem fx_118_190 : xins 118 190 = (15, 0, 0, 0) := by decide +kernel
theorem fx_118_191 : xins 118 191 = (2, 0, 3, 1) := by decide +kernel
theorem fx_118_192 : xins 118 192 = (9, 0, 1, 241) := by decide +kernel
theorem fx_118_195 : xins 118 195 = (3, 0, 0, 1) := by decide +kernel
theorem fx_118_196 : xins 118 196 = (2, 0, 5, 2) := by decide +kernel
theorem fx_118_198 : xins 118 198 = (2, 0, 6, 2) := by decide +kernel
theorem fx_118_200 : xins 118 200 = (2, 0, 1, 1) := by decide +kernel
theorem fx_118_201 : xins 118 201 = (1, 1, 1, 0) := by decide +kernel
theorem fx_118_202 : xins 118 202 = (2, 0, 7, 2) := by decide +kernel
theorem fx_118_204 : xins 118 204 = (7, 0, 8, 0) := by decide +kernel
theorem fx_118_205 : xins 118 205 = (7, 0, 6, 0) := by decide +kernel
theorem fx_118_206 : xins 118 206 = (7, 0, 0, 0) := by decide +kernel
theorem fx_118_207 : xins 118 207 = (3, 0, 0, 1) := by decide +kernel
theorem fx_118_208 : xins 118 208 = (12, 677, 7, 16) := by decide +kernel
theorem fx_118_211 : xins 118 211 = (1, 8, 2, 0) := by decide +kernel
theorem fx_118_213 : xins 118 213 = (2, 0, 7, 2) := by decide +kernel
theorem fx_118_215 : xins 118 215 = (7, 0, 2, 0) := by decide +kernel
theorem fx_118_216 : xins 118 216 = (1, 2, 1, 0) := by decide +kernel
theorem fx_118_217 : xins 118 217 = (2, 0, 2, 1) := by decide +kernel
theorem fx_118_218 : xins 118 218 = (7, 0, 2, 0) := by decide +kernel
theorem fx_118_219 : xins 118 219 = (7, 0, 0, 0) := by decide +kernel
theorem fx_118_220 : xins 118 220 = (1, 1, 1, 0) := by decide +kernel
theorem fx_118_221 : xins 118 221 = (7, 0, 0, 0) := by decide +kernel
theorem fx_118_222 : xins 118 222 = (14, 0, 0, 0) := by decide +kernel
theorem fx_118_223 : xins 118 223 = (28, 857, 123, 4) := by decide +kernel
theorem fx_118_226 : xins 118 226 = (9, 0, 0, 241) := by decide +kernel
theorem fx_118_229 : xins 118 229 = (3, 0, 0, 1) := by decide +kernel
theorem fx_118_230 : xins 118 230 = (12, 683, 7, 22) := by decide +kernel
theorem fx_118_233 : xins 118 233 = (1, 2, 1, 0) := by decide +kernel
theorem fx_118_234 : xins 118 234 = (2, 0, 2, 1) := by decide +kernel
theorem fx_118_235 : xins 118 235 = (7, 0, 2, 0) := by decide +kernel
theorem fx_118_236 : xins 118 236 = (1, 1, 1, 0) := by decide +kernel
theorem fx_118_237 : xins 118 237 = (7, 0, 0, 0) := by decide +kernel
theorem fx_118_238 : xins 118 238 = (2, 0, 7, 2) := by decide +kernel
theorem fx_118_240 : xins 118 240 = (15, 0, 0, 0) := by decide +kernel
theorem fx_118_241 : xins 118 241 = (1, 0, 1, 0) := by decide +kernel
theorem fx_118_242 : xins 118 242 = (4, 0, 8, 2) := by decide +kernel
theorem fx_118_244 : xins 118 244 = (2, 0, 8, 2) := by decide +kernel
theorem fx_118_246 : xins 118 246 = (1, 12, 2, 0) := by decide +kernel
theorem fx_118_248 : xins 118 248 = (10, 0, 3, 362) := by decide +kernel
theorem fx_118_251 : xins 118 251 = (2, 0, 3, 1) := by decide +kernel
theorem fx_118_252 : xins 118 252 = (9, 0, 0, 362) := by decide +kernel
theorem fx_118_255 : xins 118 255 = (2, 0, 4, 2) := by decide +kernel
theorem fx_118_257 : xins 118 257 = (9, 0, 0, 362) := by decide +kernel
theorem fx_118_260 : xins 118 260 = (3, 0, 0, 1) := by decide +kernel
theorem fx_118_261 : xins 118 261 = (12, 683, 7, 22) := by decide +kernel
theorem fx_118_264 : xins 118 264 = (1, 2, 1, 0) := by decide +kernel
theorem fx_118_265 : xins 118 265 = (2, 0, 2, 1) := by decide +kernel
theorem fx_118_266 : xins 118 266 = (7, 0, 2, 0) := by decide +kernel
theorem fx_118_267 : xins 118 267 = (14, 0, 0, 0) := by decide +kernel
theorem fx_118_268 : xins 118 268 = (1, (-1), 1, 0) := by decide +kernel
theorem fx_118_269 : xins 118 269 = (10, 0, 1, 362) := by decide +kernel
theorem fx_118_272 : xins 118 272 = (3, 0, 0, 1) := by decide +kernel
theorem fx_118_273 : xins 118 273 = (2, 0, 1, 1) := by decide +kernel
theorem fx_118_274 : xins 118 274 = (2, 0, 8, 2) := by decide +kernel
theorem fx_118_276 : xins 118 276 = (28, 853, 122, 3) := by decide +kernel
theorem fx_118_279 : xins 118 279 = (9, 0, 1, 356) := by decide +kernel
theorem fx_118_282 : xins 118 282 = (2, 0, 8, 2) := by decide +kernel
theorem fx_118_284 : xins 118 284 = (2, 0, 7, 2) := by decide +kernel
theorem fx_118_286 : xins 118 286 = (10, 0, 0, 356) := by decide +kernel
theorem fx_118_289 : xins 118 289 = (3, 0, 0, 1) := by decide +kernel
theorem fx_118_290 : xins 118 290 = (2, 0, 5, 2) := by decide +kernel
theorem fx_118_292 : xins 118 292 = (2, 0, 6, 2) := by decide +kernel
theorem fx_118_294 : xins 118 294 = (2, 0, 1, 1) := by decide +kernel
theorem fx_118_295 : xins 118 295 = (1, 1, 1, 0) := by decide +kernel
theorem fx_118_296 : xins 118 296 = (2, 0, 7, 2) := by decide +kernel
theorem fx_118_298 : xins 118 298 = (7, 0, 8, 0) := by decide +kernel
theorem fx_118_299 : xins 118 299 = (7, 0, 6, 0) := by decide +kernel
theorem fx_118_300 : xins 118 300 = (1, 1, 1, 0) := by decide +kernel
theorem fx_118_301 : xins 118 301 = (2, 0, 8, 2) := by decide +kernel
theorem fx_118_303 : xins 118 303 = (7, 0, 8, 0) := by decide +kernel
theorem fx_118_304 : xins 118 304 = (7, 0, 6, 0) := by decide +kernel
theorem fx_118_305 : xins 118 305 = (7, 0, 0, 0) := by decide +kernel
theorem fx_118_306 : xins 118 306 = (3, 0, 0, 1) := by decide +kernel
theorem fx_118_307 : xins 118 307 = (12, 678, 7, 17) := by decide +kernel
theorem fx_118_310 : xins 118 310 = (1, 144, 3, 0) := by decide +kernel
theorem fx_118_313 : xins 118 313 = (2, 0, 2, 1) := by decide +kernel
theorem fx_118_314 : xins 118 314 = (7, 0, 2, 0) := by decide +kernel
theorem fx_118_315 : xins 118 315 = (1, 12, 2, 0) := by decide +kernel
theorem fx_118_317 : xins 118 317 = (2, 0, 7, 2) := by decide +kernel
theorem fx_118_319 : xins 118 319 = (7, 0, 2, 0) := by decide +kernel
theorem fx_118_320 : xins 118 320 = (7, 0, 0, 0) := by decide +kernel
theorem fx_118_321 : xins 118 321 = (2, 0, 8, 2) := by decide +kernel
theorem fx_118_323 : xins 118 323 = (7, 0, 0, 0) := by decide +kernel
theorem fx_118_324 : xins 118 324 = (14, 0, 0, 0) := by decide +kernel
theorem fx_118_325 : xins 118 325 = (28, 857, 123, 4) := by decide +kernel
theorem fx_118_328 : xins 118 328 = (9, 0, 1, 334) := by decide +kernel
theorem fx_118_331 : xins 118 331 = (11, 0, 0, 356) := by decide +kernel
theorem fx_118_334 : xins 118 334 = (3, 0, 0, 1) := by decide +kernel
theorem fx_118_335 : xins 118 335 = (12, 683, 7, 22) := by decide +kernel
theorem fx_118_338 : xins 118 338 = (1, 2, 1, 0) := by decide +kernel
theorem fx_118_339 : xins 118 339 = (2, 0, 2, 1) := by decide +kernel
theorem fx_118_340 : xins 118 340 = (7, 0, 2, 0) := by decide +kernel
theorem fx_118_341 : xins 118 341 = (2, 0, 7, 2) := by decide +kernel
theorem fx_118_343 : xins 118 343 = (15, 0, 0, 0) := by decide +kernel
theorem fx_118_344 : xins 118 344 = (3, 0, 0, 1) := by decide +kernel
theorem fx_118_345 : xins 118 345 = (12, 683, 7, 22) := by decide +kernel
theorem fx_118_348 : xins 118 348 = (1, 2, 1, 0) := by decide +kernel
theorem fx_118_349 : xins 118 349 = (2, 0, 2, 1) := by decide +kernel
theorem fx_118_350 : xins 118 350 = (7, 0, 2, 0) := by decide +kernel
theorem fx_118_351 : xins 118 351 = (1, 1, 1, 0) := by decide +kernel
theorem fx_118_352 : xins 118 352 = (7, 0, 0, 0) := by decide +kernel
theorem fx_118_353 : xins 118 353 = (2, 0, 8, 2) := by decide +kernel
theorem fx_118_355 : xins 118 355 = (15, 0, 0, 0) := by decide +kernel
theorem fx_118_356 : xins 118 356 = (6, 1, 8, 0) := by decide +kernel
theorem fx_118_359 : xins 118 359 = (11, 0, 0, 244) := by decide +kernel
theorem fx_118_362 : xins 118 362 = (6, 1, 7, 0) := by decide +kernel
theorem fx_118_365 : xins 118 365 = (11, 0, 0, 98) := by decide +kernel
theorem fx_118_368 : xins 118 368 = (3, 0, 0, 1) := by decide +kernel
theorem fx_118_369 : xins 118 369 = (12, 683, 7, 22) := by decide +kernel
theorem fx_118_372 : xins 118 372 = (1, 2, 1, 0) := by decide +kernel
theorem fx_118_373 : xins 118 373 = (2, 0, 2, 1) := by decide +kernel
theorem fx_118_374 : xins 118 374 = (7, 0, 2, 0) := by decide +kernel
theorem fx_118_375 : xins 118 375 = (14, 0, 0, 0) := by decide +kernel
theorem fx_118_376 : xins 118 376 = (1, (-1), 1, 0) := by decide +kernel
theorem fx_118_377 : xins 118 377 = (10, 0, 0, 393) := by decide +kernel
theorem fx_118_380 : xins 118 380 = (2, 0, 1, 1) := by decide +kernel
theorem fx_118_381 : xins 118 381 = (1, 1, 1, 0) := by decide +kernel
theorem fx_118_382 : xins 118 382 = (3, 0, 0, 1) := by decide +kernel
theorem fx_118_383 : xins 118 383 = (12, 683, 7, 22) := by decide +kernel
theorem fx_118_386 : xins 118 386 = (1, 2, 1, 0) := by decide +kernel
theorem fx_118_387 : xins 118 387 = (2, 0, 2, 1) := by decide +kernel
theorem fx_118_388 : xins 118 388 = (7, 0, 2, 0) := by decide +kernel
theorem fx_118_389 : xins 118 389 = (14, 0, 0, 0) := by decide +kernel
theorem fx_118_390 : xins 118 390 = (7, 0, 8, 0) := by decide +kernel
theorem fx_118_391 : xins 118 391 = (7, 0, 6, 0) := by decide +kernel
theorem fx_118_392 : xins 118 392 = (4, 0, 1, 1) := by decide +kernel
theorem fx_118_393 : xins 118 393 = (3, 0, 0, 1) := by decide +kernel
theorem fx_118_394 : xins 118 394 = (12, 683, 7, 22) := by decide +kernel
theorem fx_118_397 : xins 118 397 = (1, 2, 1, 0) := by decide +kernel
theorem fx_118_398 : xins 118 398 = (2, 0, 2, 1) := by decide +kernel
theorem fx_118_399 : xins 118 399 = (7, 0, 2, 0) := by decide +kernel
theorem fx_118_400 : xins 118 400 = (1, 1, 1, 0) := by decide +kernel
theorem fx_118_401 : xins 118 401 = (7, 0, 0, 0) := by decide +kernel
theorem fx_118_402 : xins 118 402 = (14, 0, 0, 0) := by decide +kernel
theorem fx_118_403 : xins 118 403 = (1, (-1), 1, 0) := by decide +kernel
theorem fx_118_404 : xins 118 404 = (10, 0, 0, 422) := by decide +kernel
theorem fx_118_407 : xins 118 407 = (2, 0, 1, 1) := by decide +kernel
theorem fx_118_408 : xins 118 408 = (1, 1, 1, 0) := by decide +kernel
theorem fx_118_409 : xins 118 409 = (3, 0, 0, 1) := by decide +kernel
theorem fx_118_410 : xins 118 410 = (12, 683, 7, 22) := by decide +kernel
theorem fx_118_413 : xins 118 413 = (1, 2, 1, 0) := by decide +kernel
theorem fx_118_414 : xins 118 414 = (2, 0, 2, 1) := by decide +kernel
theorem fx_118_415 : xins 118 415 = (7, 0, 2, 0) := by decide +kernel
theorem fx_118_416 : xins 118 416 = (1, 1, 1, 0) := by decide +kernel
theorem fx_118_417 : xins 118 417 = (7, 0, 0, 0) := by decide +kernel
theorem fx_118_418 : xins 118 418 = (14, 0, 0, 0) := by decide +kernel
theorem fx_118_419 : xins 118 419 = (7, 0, 8, 0) := by decide +kernel
theorem fx_118_420 : xins 118 420 = (7, 0, 6, 0) := by decide +kernel
theorem fx_118_421 : xins 118 421 = (4, 0, 1, 1) := by decide +kernel
theorem fx_118_422 : xins 118 422 = (6, 1, 2, 0) := by decide +kernel
theorem fx_118_425 : xins 118 425 = (11, 0, 0, 21) := by decide +kernel
theorem fx_118_428 : xins 118 428 = (1, 1, 1, 0) := by decide +kernel
theorem fx_118_429 : xins 118 429 = (29, 0, 0, 0) := by decide +kernel
theorem xq_119 : xnth xprog 119 [] = xk_119 := rfl
theorem fx_119_0 : xins 119 0 = (3, 0, 0, 1) := by decide +kernel
theorem fx_119_1 : xins 119 1 = (28, 845, 120, 1) := by decide +kernel
theorem fx_119_4 : xins 119 4 = (1, 4, 1, 0) := by decide +kernel
theorem fx_119_5 : xins 119 5 = (4, 0, 1, 1) := by decide +kernel
theorem fx_119_6 : xins 119 6 = (2, 0, 1, 1) := by decide +kernel
theorem fx_119_7 : xins 119 7 = (9, 0, 2, 359) := by decide +kernel
theorem fx_119_10 : xins 119 10 = (2, 0, 1, 1) := by decide +kernel
theorem fx_119_11 : xins 119 11 = (1, 4, 1, 0) := by decide +kernel
theorem fx_119_12 : xins 119 12 = (10, 0, 3, 29) := by decide +kernel
theorem fx_119_15 : xins 119 15 = (3, 0, 0, 1) := by decide +kernel
theorem fx_119_16 : xins 119 16 = (1, 2, 1, 0) := by decide +kernel
theorem fx_119_17 : xins 119 17 = (2, 0, 1, 1) := by decide +kernel
theorem fx_119_18 : xins 119 18 = (7, 0, 2, 0) := by decide +kernel
theorem fx_119_19 : xins 119 19 = (28, 800, 109, 2) := by decide +kernel
theorem fx_119_22 : xins 119 22 = (9, 0, 0, 29) := by decide +kernel
theorem fx_119_25 : xins 119 25 = (1, 1, 1, 0) := by decide +kernel
theorem fx_119_26 : xins 119 26 = (11, 0, 0, 30) := by decide +kernel
theorem fx_119_29 : xins 119 29 = (1, 0, 1, 0) := by decide +kernel
theorem fx_119_30 : xins 119 30 = (4, 0, 2, 1) := by decide +kernel
theorem fx_119_31 : xins 119 31 = (2, 0, 1, 1) := by decide +kernel
theorem fx_119_32 : xins 119 32 = (1, 4, 1, 0) := by decide +kernel
theorem fx_119_33 : xins 119 33 = (10, 0, 3, 52) := by decide +kernel
theorem fx_119_36 : xins 119 36 = (3, 0, 0, 1) := by decide +kernel
theorem fx_119_37 : xins 119 37 = (1, 2, 1, 0) := by decide +kernel
theorem fx_119_38 : xins 119 38 = (2, 0, 1, 1) := by decide +kernel
theorem fx_119_39 : xins 119 39 = (7, 0, 2, 0) := by decide +kernel
theorem fx_119_40 : xins 119 40 = (1, 1, 1, 0) := by decide +kernel
theorem fx_119_41 : xins 119 41 = (7, 0, 0, 0) := by decide +kernel
theorem fx_119_42 : xins 119 42 = (28, 800, 109, 2) := by decide +kernel
theorem fx_119_45 : xins 119 45 = (9, 0, 0, 52) := by decide +kernel
theorem fx_119_48 : xins 119 48 = (1, 1, 1, 0) := by decide +kernel
theorem fx_119_49 : xins 119 49 = (11, 0, 0, 53) := by decide +kernel
theorem fx_119_52 : xins 119 52 = (1, 0, 1, 0) := by decide +kernel
theorem fx_119_53 : xins 119 53 = (4, 0, 3, 1) := by decide +kernel
theorem fx_119_54 : xins 119 54 = (1, 0, 1, 0) := by decide +kernel
theorem fx_119_55 : xins 119 55 = (4, 0, 4, 2) := by decide +kernel
theorem fx_119_57 : xins 119 57 = (2, 0, 4, 2) := by decide +kernel
theorem fx_119_59 : xins 119 59 = (1, 4096, 3, 0) := by decide +kernel
theorem fx_119_62 : xins 119 62 = (10, 0, 3, 353) := by decide +kernel
theorem fx_119_65 : xins 119 65 = (3, 0, 0, 1) := by decide +kernel
theorem fx_119_66 : xins 119 66 = (2, 0, 1, 1) := by decide +kernel
theorem fx_119_67 : xins 119 67 = (1, 4, 1, 0) := by decide +kernel
theorem fx_119_68 : xins 119 68 = (10, 0, 1, 75) := by decide +kernel
theorem fx_119_71 : xins 119 71 = (1, 0, 1, 0) := by decide +kernel
theorem fx_119_72 : xins 119 72 = (11, 0, 0, 77) := by decide +kernel
theorem fx_119_75 : xins 119 75 = (1, 1000000, 2, 824) := by decide +kernel
theorem fx_119_77 : xins 119 77 = (13, 681, 7, 20) := by decide +kernel
theorem fx_119_80 : xins 119 80 = (3, 0, 0, 1) := by decide +kernel
theorem fx_119_81 : xins 119 81 = (2, 0, 1, 1) := by decide +kernel
theorem fx_119_82 : xins 119 82 = (1, 4, 1, 0) := by decide +kernel
theorem fx_119_83 : xins 119 83 = (10, 0, 1, 90) := by decide +kernel
theorem fx_119_86 : xins 119 86 = (1, 1, 1, 0) := by decide +kernel
theorem fx_119_87 : xins 119 87 = (11, 0, 0, 91) := by decide +kernel
theorem fx_119_90 : xins 119 90 = (1, 0, 1, 0) := by decide +kernel
theorem fx_119_91 : xins 119 91 = (13, 682, 7, 21) := by decide +kernel
theorem fx_119_94 : xins 119 94 = (1, 4096, 3, 0) := by decide +kernel
theorem fx_119_97 : xins 119 97 = (2, 0, 1, 1) := by decide +kernel
theorem fx_119_98 : xins 119 98 = (1, 1, 1, 0) := by decide +kernel
theorem fx_119_99 : xins 119 99 = (7, 0, 0, 0) := by decide +kernel
theorem fx_119_100 : xins 119 100 = (7, 0, 2, 0) := by decide +kernel
theorem fx_119_101 : xins 119 101 = (4, 0, 5, 2) := by decide +kernel
theorem fx_119_103 : xins 119 103 = (2, 0, 1, 1) := by decide +kernel
theorem fx_119_104 : xins 119 104 = (1, 4, 1, 0) := by decide +kernel
theorem fx_119_105 : xins 119 105 = (10, 0, 3, 126) := by decide +kernel
theorem fx_119_108 : xins 119 108 = (2, 0, 2, 1) := by decide +kernel
theorem fx_119_109 : xins 119 109 = (9, 0, 1, 126) := by decide +kernel
theorem fx_119_112 : xins 119 112 = (2, 0, 3, 1) := by decide +kernel
theorem fx_119_113 : xins 119 113 = (9, 0, 1, 126) := by decide +kernel
theorem fx_119_116 : xins 119 116 = (3, 0, 0, 1) := by decide +kernel
theorem fx_119_117 : xins 119 117 = (2, 0, 5, 2) := by decide +kernel
theorem fx_119_119 : xins 119 119 = (2, 0, 4, 2) := by decide +kernel
theorem fx_119_121 : xins 119 121 = (7, 0, 0, 0) := by decide +kernel
theorem fx_119_122 : xins 119 122 = (1, 0, 1, 0) := by decide +kernel
theorem fx_119_123 : xins 119 123 = (28, 849, 121, 3) := by decide +kernel
theorem fx_119_126 : xins 119 126 = (1, 0, 1, 0) := by decide +kernel
theorem fx_119_127 : xins 119 127 = (4, 0, 6, 2) := by decide +kernel
theorem fx_119_129 : xins 119 129 = (2, 0, 6, 2) := by decide +kernel
theorem fx_119_131 : xins 119 131 = (1, 12, 2, 0) := by decide +kernel
theorem fx_119_133 : xins 119 133 = (10, 0, 3, 313) := by decide +kernel
theorem fx_119_136 : xins 119 136 = (2, 0, 2, 1) := by decide +kernel
theorem fx_119_137 : xins 119 137 = (9, 0, 1, 144) := by decide +kernel
theorem fx_119_140 : xins 119 140 = (2, 0, 3, 1) := by decide +kernel
theorem fx_119_141 : xins 119 141 = (9, 0, 0, 313) := by decide +kernel
theorem fx_119_144 : xins 119 144 = (3, 0, 0, 1) := by decide +kernel
theorem fx_119_145 : xins 119 145 = (2, 0, 4, 2) := by decide +kernel
theorem fx_119_147 : xins 119 147 = (2, 0, 6, 2) := by decide +kernel
theorem fx_119_149 : xins 119 149 = (28, 853, 122, 3) := by decide +kernel
theorem fx_119_152 : xins 119 152 = (9, 0, 0, 158) := by decide +kernel
theorem fx_119_155 : xins 119 155 = (11, 0, 0, 307) := by decide +kernel
theorem fx_119_158 : xins 119 158 = (2, 0, 3, 1) := by decide +kernel
theorem fx_119_159 : xins 119 159 = (9, 0, 1, 190) := by decide +kernel
theorem fx_119_162 : xins 119 162 = (3, 0, 0, 1) := by decide +kernel
theorem fx_119_163 : xins 119 163 = (2, 0, 5, 2) := by decide +kernel
theorem fx_119_165 : xins 119 165 = (2, 0, 4, 2) := by decide +kernel
theorem fx_119_167 : xins 119 167 = (1, 1, 1, 0) := by decide +kernel
theorem fx_119_168 : xins 119 168 = (2, 0, 6, 2) := by decide +kernel
theorem fx_119_170 : xins 119 170 = (7, 0, 8, 0) := by decide +kernel
theorem fx_119_171 : xins 119 171 = (7, 0, 6, 0) := by decide +kernel
theorem fx_119_172 : xins 119 172 = (7, 0, 0, 0) := by decide +kernel
theorem fx_119_173 : xins 119 173 = (3, 0, 0, 1) := by decide +kernel
theorem fx_119_174 : xins 119 174 = (12, 677, 7, 16) := by decide +kernel
theorem fx_119_177 : xins 119 177 = (1, 8, 2, 0) := by decide +kernel
theorem fx_119_179 : xins 119 179 = (2, 0, 6, 2) := by decide +kernel
theorem fx_119_181 : xins 119 181 = (7, 0, 2, 0) := by decide +kernel
theorem fx_119_182 : xins 119 182 = (1, 2, 1, 0) := by decide +kernel
theorem fx_119_183 : xins 119 183 = (2, 0, 1, 1) := by decide +kernel
theorem fx_119_184 : xins 119 184 = (7, 0, 2, 0) := by decide +kernel
theorem fx_119_185 : xins 119 185 = (7, 0, 0, 0) := by decide +kernel
theorem fx_119_186 : xins 119 186 = (14, 0, 0, 0) := by decide +kernel
theorem fx_119_187 : xins 119 187 = (28, 849, 121, 3) := by decide +kernel
theorem fx_119_190 : xins 119 190 = (2, 0, 2, 1) := by decide +kernel
theorem fx_119_191 : xins 119 191 = (9, 0, 1, 224) := by decide +kernel
theorem fx_119_194 : xins 119 194 = (3, 0, 0, 1) := by decide +kernel
theorem fx_119_195 : xins 119 195 = (2, 0, 5, 2) := by decide +kernel
theorem fx_119_197 : xins 119 197 = (2, 0, 4, 2) := by decide +kernel
theorem fx_119_199 : xins 119 199 = (1, 1, 1, 0) := by decide +kernel
theorem fx_119_200 : xins 119 200 = (2, 0, 6, 2) := by decide +kernel
theorem fx_119_202 : xins 119 202 = (7, 0, 8, 0) := by decide +kernel
theorem fx_119_203 : xins 119 203 = (7, 0, 6, 0) := by decide +kernel
theorem fx_119_204 : xins 119 204 = (7, 0, 0, 0) := by decide +kernel
theorem fx_119_205 : xins 119 205 = (3, 0, 0, 1) := by decide +kernel
theorem fx_119_206 : xins 119 206 = (12, 677, 7, 16) := by decide +kernel
theorem fx_119_209 : xins 119 209 = (1, 8, 2, 0) := by decide +kernel
theorem fx_119_211 : xins 119 211 = (2, 0, 6, 2) := by decide +kernel
theorem fx_119_213 : xins 119 213 = (7, 0, 2, 0) := by decide +kernel
theorem fx_119_214 : xins 119 214 = (1, 2, 1, 0) := by decide +kernel
theorem fx_119_215 : xins 119 215 = (2, 0, 1, 1) := by decide +kernel
theorem fx_119_216 : xins 119 216 = (7, 0, 2, 0) := by decide +kernel
theorem fx_119_217 : xins 119 217 = (7, 0, 0, 0) := by decide +kernel
theorem fx_119_218 : xins 119 218 = (1, 1, 1, 0) := by decide +kernel
theorem fx_119_219 : xins 119 219 = (7, 0, 0, 0) := by decide +kernel
theorem fx_119_220 : xins 119 220 = (14, 0, 0, 0) := by decide +kernel
theorem fx_119_221 : xins 119 221 = (28, 849, 121, 3) := by decide +kernel
theorem fx_119_224 : xins 119 224 = (2, 0, 2, 1) := by decide +kernel
theorem fx_119_225 : xins 119 225 = (9, 0, 0, 307) := by decide +kernel
theorem fx_119_228 : xins 119 228 = (2, 0, 3, 1) := by decide +kernel
theorem fx_119_229 : xins 119 229 = (9, 0, 1, 235) := by decide +kernel
theorem fx_119_232 : xins 119 232 = (11, 0, 0, 307) := by decide +kernel
theorem fx_119_235 : xins 119 235 = (1, 0, 1, 0) := by decide +kernel
theorem fx_119_236 : xins 119 236 = (4, 0, 7, 2) := by decide +kernel
theorem fx_119_238 : xins 119 238 = (2, 0, 7, 2) := by decide +kernel
theorem fx_119_240 : xins 119 240 = (1, 12, 2, 0) := by decide +kernel
theorem fx_119_242 : xins 119 242 = (10, 0, 3, 307) := by decide +kernel
theorem fx_119_245 : xins 119 245 = (3, 0, 0, 1) := by decide +kernel
theorem fx_119_246 : xins 119 246 = (2, 0, 4, 2) := by decide +kernel
theorem fx_119_248 : xins 119 248 = (2, 0, 7, 2) := by decide +kernel
theorem fx_119_250 : xins 119 250 = (28, 853, 122, 3) := by decide +kernel
theorem fx_119_253 : xins 119 253 = (9, 0, 1, 301) := by decide +kernel
theorem fx_119_256 : xins 119 256 = (2, 0, 7, 2) := by decide +kernel
theorem fx_119_258 : xins 119 258 = (2, 0, 6, 2) := by decide +kernel
theorem fx_119_260 : xins 119 260 = (10, 0, 0, 301) := by decide +kernel
theorem fx_119_263 : xins 119 263 = (3, 0, 0, 1) := by decide +kernel
theorem fx_119_264 : xins 119 264 = (2, 0, 5, 2) := by decide +kernel
theorem fx_119_266 : xins 119 266 = (2, 0, 4, 2) := by decide +kernel
theorem fx_119_268 : xins 119 268 = (1, 1, 1, 0) := by decide +kernel
theorem fx_119_269 : xins 119 269 = (2, 0, 6, 2) := by decide +kernel
theorem fx_119_271 : xins 119 271 = (7, 0, 8, 0) := by decide +kernel
theorem fx_119_272 : xins 119 272 = (7, 0, 6, 0) := by decide +kernel
theorem fx_119_273 : xins 119 273 = (1, 1, 1, 0) := by decide +kernel
theorem fx_119_274 : xins 119 274 = (2, 0, 7, 2) := by decide +kernel
theorem fx_119_276 : xins 119 276 = (7, 0, 8, 0) := by decide +kernel
theorem fx_119_277 : xins 119 277 = (7, 0, 6, 0) := by decide +kernel
theorem fx_119_278 : xins 119 278 = (7, 0, 0, 0) := by decide +kernel
theorem fx_119_279 : xins 119 279 = (3, 0, 0, 1) := by decide +kernel
theorem fx_119_280 : xins 119 280 = (12, 678, 7, 17) := by decide +kernel
theorem fx_119_283 : xins 119 283 = (1, 144, 3, 0) := by decide +kernel
theorem fx_119_286 : xins 119 286 = (2, 0, 1, 1) := by decide +kernel
theorem fx_119_287 : xins 119 287 = (7, 0, 2, 0) := by decide +kernel
theorem fx_119_288 : xins 119 288 = (1, 12, 2, 0) := by decide +kernel
theorem fx_119_290 : xins 119 290 = (2, 0, 6, 2) := by decide +kernel
theorem fx_119_292 : xins 119 292 = (7, 0, 2, 0) := by decide +kernel
theorem fx_119_293 : xins 119 293 = (7, 0, 0, 0) := by decide +kernel
theorem fx_119_294 : xins 119 294 = (2, 0, 7, 2) := by decide +kernel
theorem fx_119_296 : xins 119 296 = (7, 0, 0, 0) := by decide +kernel
theorem fx_119_297 : xins 119 297 = (14, 0, 0, 0) := by decide +kernel
theorem fx_119_298 : xins 119 298 = (28, 849, 121, 3) := by decide +kernel
theorem fx_119_301 : xins 119 301 = (6, 1, 7, 0) := by decide +kernel
theorem fx_119_304 : xins 119 304 = (11, 0, 0, 238) := by decide +kernel
theorem fx_119_307 : xins 119 307 = (6, 1, 6, 0) := by decide +kernel
theorem fx_119_310 : xins 119 310 = (11, 0, 0, 129) := by decide +kernel
theorem fx_119_313 : xins 119 313 = (3, 0, 0, 1) := by decide +kernel
theorem fx_119_314 : xins 119 314 = (12, 679, 7, 18) := by decide +kernel
theorem fx_119_317 : xins 119 317 = (1, 4096, 3, 0) := by decide +kernel
theorem fx_119_320 : xins 119 320 = (2, 0, 1, 1) := by decide +kernel
theorem fx_119_321 : xins 119 321 = (7, 0, 2, 0) := by decide +kernel
theorem fx_119_322 : xins 119 322 = (2, 0, 4, 2) := by decide +kernel
theorem fx_119_324 : xins 119 324 = (7, 0, 0, 0) := by decide +kernel
theorem fx_119_325 : xins 119 325 = (3, 0, 0, 1) := by decide +kernel
theorem fx_119_326 : xins 119 326 = (12, 681, 7, 20) := by decide +kernel
theorem fx_119_329 : xins 119 329 = (15, 0, 0, 0) := by decide +kernel
theorem fx_119_330 : xins 119 330 = (3, 0, 0, 1) := by decide +kernel
theorem fx_119_331 : xins 119 331 = (12, 680, 7, 19) := by decide +kernel
theorem fx_119_334 : xins 119 334 = (1, 4096, 3, 0) := by decide +kernel
theorem fx_119_337 : xins 119 337 = (2, 0, 1, 1) := by decide +kernel
theorem fx_119_338 : xins 119 338 = (7, 0, 2, 0) := by decide +kernel
theorem fx_119_339 : xins 119 339 = (2, 0, 4, 2) := by decide +kernel
theorem fx_119_341 : xins 119 341 = (7, 0, 0, 0) := by decide +kernel
theorem fx_119_342 : xins 119 342 = (3, 0, 0, 1) := by decide +kernel
theorem fx_119_343 : xins 119 343 = (12, 682, 7, 21) := by decide +kernel
theorem fx_119_346 : xins 119 346 = (15, 0, 0, 0) := by decide +kernel
theorem fx_119_347 : xins 119 347 = (6, 1, 4, 0) := by decide +kernel
theorem fx_119_350 : xins 119 350 = (11, 0, 0, 57) := by decide +kernel
theorem fx_119_353 : xins 119 353 = (6, (-1), 1, 0) := by decide +kernel
theorem fx_119_356 : xins 119 356 = (11, 0, 0, 6) := by decide +kernel
theorem fx_119_359 : xins 119 359 = (30, 0, 0, 0) := by decide +kernel
theorem xq_120 : xnth xprog 120 [] = xk_120 := rfl
theorem fx_120_0 : xins 120 0 = (1, 0, 1, 0) := by decide +kernel
theorem fx_120_1 : xins 120 1 = (4, 0, 1, 1) := by decide +kernel
theorem fx_120_2 : xins 120 2 = (2, 0, 1, 1) := by decide +kernel
theorem fx_120_3 : xins 120 3 = (1, 12, 2, 0) := by decide +kernel
theorem fx_120_5 : xins 120 5 = (10, 0, 3, 89) := by decide +kernel
theorem fx_120_8 : xins 120 8 = (1, 0, 1, 0) := by decide +kernel
theorem fx_120_9 : xins 120 9 = (4, 0, 2, 1) := by decide +kernel
theorem fx_120_10 : xins 120 10 = (2, 0, 2, 1) := by decide +kernel
theorem fx_120_11 : xins 120 11 = (1, 8, 2, 0) := by decide +kernel
theorem fx_120_13 : xins 120 13 = (10, 0, 3, 83) := by decide +kernel
theorem fx_120_16 : xins 120 16 = (3, 0, 0, 1) := by decide +kernel
theorem fx_120_17 : xins 120 17 = (12, 677, 7, 16) := by decide +kernel
theorem fx_120_20 : xins 120 20 = (1, 8, 2, 0) := by decide +kernel
theorem fx_120_22 : xins 120 22 = (2, 0, 1, 1) := by decide +kernel
theorem fx_120_23 : xins 120 23 = (7, 0, 2, 0) := by decide +kernel
theorem fx_120_24 : xins 120 24 = (2, 0, 2, 1) := by decide +kernel
theorem fx_120_25 : xins 120 25 = (7, 0, 0, 0) := by decide +kernel
theorem fx_120_26 : xins 120 26 = (1, 1000000, 2, 824) := by decide +kernel
theorem fx_120_28 : xins 120 28 = (15, 0, 0, 0) := by decide +kernel
theorem fx_120_29 : xins 120 29 = (3, 0, 0, 1) := by decide +kernel
theorem fx_120_30 : xins 120 30 = (2, 0, 1, 1) := by decide +kernel
theorem fx_120_31 : xins 120 31 = (28, 751, 97, 2) := by decide +kernel
theorem fx_120_34 : xins 120 34 = (9, 0, 0, 77) := by decide +kernel
theorem fx_120_37 : xins 120 37 = (3, 0, 0, 1) := by decide +kernel
theorem fx_120_38 : xins 120 38 = (2, 0, 1, 1) := by decide +kernel
theorem fx_120_39 : xins 120 39 = (28, 755, 98, 2) := by decide +kernel
theorem fx_120_42 : xins 120 42 = (9, 0, 0, 77) := by decide +kernel
theorem fx_120_45 : xins 120 45 = (3, 0, 0, 1) := by decide +kernel
theorem fx_120_46 : xins 120 46 = (2, 0, 2, 1) := by decide +kernel
theorem fx_120_47 : xins 120 47 = (28, 800, 109, 2) := by decide +kernel
theorem fx_120_50 : xins 120 50 = (9, 0, 0, 77) := by decide +kernel
theorem fx_120_53 : xins 120 53 = (3, 0, 0, 1) := by decide +kernel
theorem fx_120_54 : xins 120 54 = (2, 0, 1, 1) := by decide +kernel
theorem fx_120_55 : xins 120 55 = (2, 0, 2, 1) := by decide +kernel
theorem fx_120_56 : xins 120 56 = (28, 816, 113, 3) := by decide +kernel
theorem fx_120_59 : xins 120 59 = (9, 0, 0, 77) := by decide +kernel
theorem fx_120_62 : xins 120 62 = (3, 0, 0, 1) := by decide +kernel
theorem fx_120_63 : xins 120 63 = (12, 677, 7, 16) := by decide +kernel
theorem fx_120_66 : xins 120 66 = (1, 8, 2, 0) := by decide +kernel
theorem fx_120_68 : xins 120 68 = (2, 0, 1, 1) := by decide +kernel
theorem fx_120_69 : xins 120 69 = (7, 0, 2, 0) := by decide +kernel
theorem fx_120_70 : xins 120 70 = (2, 0, 2, 1) := by decide +kernel
theorem fx_120_71 : xins 120 71 = (7, 0, 0, 0) := by decide +kernel
theorem fx_120_72 : xins 120 72 = (3, 0, 0, 1) := by decide +kernel
theorem fx_120_73 : xins 120 73 = (12, 671, 7, 10) := by decide +kernel
theorem fx_120_76 : xins 120 76 = (15, 0, 0, 0) := by decide +kernel
theorem fx_120_77 : xins 120 77 = (6, 1, 2, 0) := by decide +kernel
theorem fx_120_80 : xins 120 80 = (11, 0, 0, 10) := by decide +kernel
theorem fx_120_83 : xins 120 83 = (6, 1, 1, 0) := by decide +kernel
theorem fx_120_86 : xins 120 86 = (11, 0, 0, 2) := by decide +kernel
theorem fx_120_89 : xins 120 89 = (1, 0, 1, 0) := by decide +kernel
theorem fx_120_90 : xins 120 90 = (4, 0, 1, 1) := by decide +kernel
theorem fx_120_91 : xins 120 91 = (2, 0, 1, 1) := by decide +kernel
theorem fx_120_92 : xins 120 92 = (1, 4, 1, 0) := by decide +kernel
theorem fx_120_93 : xins 120 93 = (10, 0, 3, 267) := by decide +kernel
theorem fx_120_96 : xins 120 96 = (1, 0, 1, 0) := by decide +kernel
theorem fx_120_97 : xins 120 97 = (4, 0, 2, 1) := by decide +kernel
theorem fx_120_98 : xins 120 98 = (2, 0, 2, 1) := by decide +kernel
theorem fx_120_99 : xins 120 99 = (1, 12, 2, 0) := by decide +kernel
theorem fx_120_101 : xins 120 101 = (10, 0, 3, 261) := by decide +kernel
theorem fx_120_104 : xins 120 104 = (1, 0, 1, 0) := by decide +kernel
theorem fx_120_105 : xins 120 105 = (4, 0, 3, 1) := by decide +kernel
theorem fx_120_106 : xins 120 106 = (2, 0, 3, 1) := by decide +kernel
theorem fx_120_107 : xins 120 107 = (1, 12, 2, 0) := by decide +kernel
theorem fx_120_109 : xins 120 109 = (10, 0, 3, 255) := by decide +kernel
theorem fx_120_112 : xins 120 112 = (1, 144, 3, 0) := by decide +kernel
theorem fx_120_115 : xins 120 115 = (2, 0, 1, 1) := by decide +kernel
theorem fx_120_116 : xins 120 116 = (7, 0, 2, 0) := by decide +kernel
theorem fx_120_117 : xins 120 117 = (1, 12, 2, 0) := by decide +kernel
theorem fx_120_119 : xins 120 119 = (2, 0, 2, 1) := by decide +kernel
theorem fx_120_120 : xins 120 120 = (7, 0, 2, 0) := by decide +kernel
theorem fx_120_121 : xins 120 121 = (7, 0, 0, 0) := by decide +kernel
theorem fx_120_122 : xins 120 122 = (2, 0, 3, 1) := by decide +kernel
theorem fx_120_123 : xins 120 123 = (7, 0, 0, 0) := by decide +kernel
theorem fx_120_124 : xins 120 124 = (4, 0, 4, 2) := by decide +kernel
theorem fx_120_126 : xins 120 126 = (3, 0, 0, 1) := by decide +kernel
theorem fx_120_127 : xins 120 127 = (12, 678, 7, 17) := by decide +kernel
theorem fx_120_130 : xins 120 130 = (2, 0, 4, 2) := by decide +kernel
theorem fx_120_132 : xins 120 132 = (1, 1000000, 2, 824) := by decide +kernel
theorem fx_120_134 : xins 120 134 = (15, 0, 0, 0) := by decide +kernel
theorem fx_120_135 : xins 120 135 = (2, 0, 2, 1) := by decide +kernel
theorem fx_120_136 : xins 120 136 = (2, 0, 3, 1) := by decide +kernel
theorem fx_120_137 : xins 120 137 = (10, 0, 0, 249) := by decide +kernel
theorem fx_120_140 : xins 120 140 = (3, 0, 0, 1) := by decide +kernel
theorem fx_120_141 : xins 120 141 = (12, 677, 7, 16) := by decide +kernel
theorem fx_120_144 : xins 120 144 = (1, 8, 2, 0) := by decide +kernel
theorem fx_120_146 : xins 120 146 = (2, 0, 2, 1) := by decide +kernel
theorem fx_120_147 : xins 120 147 = (7, 0, 2, 0) := by decide +kernel
theorem fx_120_148 : xins 120 148 = (1, 2, 1, 0) := by decide +kernel
theorem fx_120_149 : xins 120 149 = (2, 0, 1, 1) := by decide +kernel
theorem fx_120_150 : xins 120 150 = (7, 0, 2, 0) := by decide +kernel
theorem fx_120_151 : xins 120 151 = (7, 0, 0, 0) := by decide +kernel
theorem fx_120_152 : xins 120 152 = (14, 0, 0, 0) := by decide +kernel
theorem fx_120_153 : xins 120 153 = (1, 1000000, 2, 824) := by decide +kernel
theorem fx_120_155 : xins 120 155 = (10, 0, 0, 249) := by decide +kernel
theorem fx_120_158 : xins 120 158 = (3, 0, 0, 1) := by decide +kernel
theorem fx_120_159 : xins 120 159 = (12, 677, 7, 16) := by decide +kernel
theorem fx_120_162 : xins 120 162 = (1, 8, 2, 0) := by decide +kernel
theorem fx_120_164 : xins 120 164 = (2, 0, 3, 1) := by decide +kernel
theorem fx_120_165 : xins 120 165 = (7, 0, 2, 0) := by decide +kernel
theorem fx_120_166 : xins 120 166 = (1, 2, 1, 0) := by decide +kernel
theorem fx_120_167 : xins 120 167 = (2, 0, 1, 1) := by decide +kernel
theorem fx_120_168 : xins 120 168 = (7, 0, 2, 0) := by decide +kernel
theorem fx_120_169 : xins 120 169 = (7, 0, 0, 0) := by decide +kernel
theorem fx_120_170 : xins 120 170 = (1, 1, 1, 0) := by decide +kernel
theorem fx_120_171 : xins 120 171 = (7, 0, 0, 0) := by decide +kernel
theorem fx_120_172 : xins 120 172 = (14, 0, 0, 0) := by decide +kernel
theorem fx_120_173 : xins 120 173 = (1, 1000000, 2, 824) := by decide +kernel
theorem fx_120_175 : xins 120 175 = (10, 0, 1, 181) := by decide +kernel
theorem fx_120_178 : xins 120 178 = (11, 0, 0, 249) := by decide +kernel
theorem fx_120_181 : xins 120 181 = (3, 0, 0, 1) := by decide +kernel
theorem fx_120_182 : xins 120 182 = (2, 0, 1, 1) := by decide +kernel
theorem fx_120_183 : xins 120 183 = (28, 804, 110, 2) := by decide +kernel
theorem fx_120_186 : xins 120 186 = (9, 0, 1, 228) := by decide +kernel
theorem fx_120_189 : xins 120 189 = (3, 0, 0, 1) := by decide +kernel
theorem fx_120_190 : xins 120 190 = (12, 678, 7, 17) := by decide +kernel
theorem fx_120_193 : xins 120 193 = (2, 0, 4, 2) := by decide +kernel
theorem fx_120_195 : xins 120 195 = (3, 0, 0, 1) := by decide +kernel
theorem fx_120_196 : xins 120 196 = (12, 677, 7, 16) := by decide +kernel
theorem fx_120_199 : xins 120 199 = (1, 8, 2, 0) := by decide +kernel
theorem fx_120_201 : xins 120 201 = (2, 0, 2, 1) := by decide +kernel
theorem fx_120_202 : xins 120 202 = (7, 0, 2, 0) := by decide +kernel
theorem fx_120_203 : xins 120 203 = (1, 2, 1, 0) := by decide +kernel
theorem fx_120_204 : xins 120 204 = (2, 0, 1, 1) := by decide +kernel
theorem fx_120_205 : xins 120 205 = (7, 0, 2, 0) := by decide +kernel
theorem fx_120_206 : xins 120 206 = (7, 0, 0, 0) := by decide +kernel
theorem fx_120_207 : xins 120 207 = (14, 0, 0, 0) := by decide +kernel
theorem fx_120_208 : xins 120 208 = (3, 0, 0, 1) := by decide +kernel
theorem fx_120_209 : xins 120 209 = (12, 677, 7, 16) := by decide +kernel
theorem fx_120_212 : xins 120 212 = (1, 8, 2, 0) := by decide +kernel
theorem fx_120_214 : xins 120 214 = (2, 0, 3, 1) := by decide +kernel
theorem fx_120_215 : xins 120 215 = (7, 0, 2, 0) := by decide +kernel
theorem fx_120_216 : xins 120 216 = (1, 2, 1, 0) := by decide +kernel
theorem fx_120_217 : xins 120 217 = (2, 0, 1, 1) := by decide +kernel
theorem fx_120_218 : xins 120 218 = (7, 0, 2, 0) := by decide +kernel
theorem fx_120_219 : xins 120 219 = (7, 0, 0, 0) := by decide +kernel
theorem fx_120_220 : xins 120 220 = (1, 1, 1, 0) := by decide +kernel
theorem fx_120_221 : xins 120 221 = (7, 0, 0, 0) := by decide +kernel
theorem fx_120_222 : xins 120 222 = (14, 0, 0, 0) := by decide +kernel
theorem fx_120_223 : xins 120 223 = (7, 0, 0, 0) := by decide +kernel
theorem fx_120_224 : xins 120 224 = (15, 0, 0, 0) := by decide +kernel
theorem fx_120_225 : xins 120 225 = (11, 0, 0, 249) := by decide +kernel
theorem fx_120_228 : xins 120 228 = (3, 0, 0, 1) := by decide +kernel
theorem fx_120_229 : xins 120 229 = (2, 0, 2, 1) := by decide +kernel
theorem fx_120_230 : xins 120 230 = (2, 0, 3, 1) := by decide +kernel
theorem fx_120_231 : xins 120 231 = (2, 0, 1, 1) := by decide +kernel
theorem fx_120_232 : xins 120 232 = (28, 829, 116, 4) := by decide +kernel
theorem fx_120_235 : xins 120 235 = (9, 0, 0, 249) := by decide +kernel
theorem fx_120_238 : xins 120 238 = (3, 0, 0, 1) := by decide +kernel
theorem fx_120_239 : xins 120 239 = (12, 678, 7, 17) := by decide +kernel
theorem fx_120_242 : xins 120 242 = (2, 0, 4, 2) := by decide +kernel
theorem fx_120_244 : xins 120 244 = (3, 0, 0, 1) := by decide +kernel
theorem fx_120_245 : xins 120 245 = (12, 673, 7, 12) := by decide +kernel
theorem fx_120_248 : xins 120 248 = (15, 0, 0, 0) := by decide +kernel
theorem fx_120_249 : xins 120 249 = (6, 1, 3, 0) := by decide +kernel
theorem fx_120_252 : xins 120 252 = (11, 0, 0, 106) := by decide +kernel
theorem fx_120_255 : xins 120 255 = (6, 1, 2, 0) := by decide +kernel
theorem fx_120_258 : xins 120 258 = (11, 0, 0, 98) := by decide +kernel
theorem fx_120_261 : xins 120 261 = (6, 1, 1, 0) := by decide +kernel
theorem fx_120_264 : xins 120 264 = (11, 0, 0, 91) := by decide +kernel
theorem fx_120_267 : xins 120 267 = (30, 0, 0, 0) := by decide +kernel
theorem xq_121 : xnth xprog 121 [] = xk_121 := rfl
theorem fx_121_0 : xins 121 0 = (2, 0, 2, 1) := by decide +kernel
theorem fx_121_1 : xins 121 1 = (1, 1000000, 2, 824) := by decide +kernel
theorem fx_121_3 : xins 121 3 = (10, 0, 3, 17) := by decide +kernel
theorem fx_121_6 : xins 121 6 = (3, 0, 0, 1) := by decide +kernel
theorem fx_121_7 : xins 121 7 = (12, 679, 7, 18) := by decide +kernel
theorem fx_121_10 : xins 121 10 = (2, 0, 1, 1) := by decide +kernel
theorem fx_121_11 : xins 121 11 = (14, 0, 0, 0) := by decide +kernel
theorem fx_121_12 : xins 121 12 = (1, 1000000, 2, 824) := by decide +kernel
theorem fx_121_14 : xins 121 14 = (10, 0, 2, 18) := by decide +kernel
theorem fx_121_17 : xins 121 17 = (30, 0, 0, 0) := by decide +kernel
theorem fx_121_18 : xins 121 18 = (2, 0, 2, 1) := by decide +kernel
theorem fx_121_19 : xins 121 19 = (3, 0, 0, 1) := by decide +kernel
theorem fx_121_20 : xins 121 20 = (12, 679, 7, 18) := by decide +kernel
theorem fx_121_23 : xins 121 23 = (2, 0, 1, 1) := by decide +kernel
theorem fx_121_24 : xins 121 24 = (14, 0, 0, 0) := by decide +kernel
theorem fx_121_25 : xins 121 25 = (7, 0, 0, 0) := by decide +kernel
theorem fx_121_26 : xins 121 26 = (4, 0, 3, 1) := by decide +kernel
theorem fx_121_27 : xins 121 27 = (2, 0, 3, 1) := by decide +kernel
theorem fx_121_28 : xins 121 28 = (3, 0, 0, 1) := by decide +kernel
theorem fx_121_29 : xins 121 29 = (12, 681, 7, 20) := by decide +kernel
theorem fx_121_32 : xins 121 32 = (10, 0, 3, 45) := by decide +kernel
theorem fx_121_35 : xins 121 35 = (3, 0, 0, 1) := by decide +kernel
theorem fx_121_36 : xins 121 36 = (2, 0, 3, 1) := by decide +kernel
theorem fx_121_37 : xins 121 37 = (13, 681, 7, 20) := by decide +kernel
theorem fx_121_40 : xins 121 40 = (3, 0, 0, 1) := by decide +kernel
theorem fx_121_41 : xins 121 41 = (1, 0, 1, 0) := by decide +kernel
theorem fx_121_42 : xins 121 42 = (13, 682, 7, 21) := by decide +kernel
theorem fx_121_45 : xins 121 45 = (2, 0, 3, 1) := by decide +kernel
theorem fx_121_46 : xins 121 46 = (3, 0, 0, 1) := by decide +kernel
theorem fx_121_47 : xins 121 47 = (12, 681, 7, 20) := by decide +kernel
theorem fx_121_50 : xins 121 50 = (10, 0, 1, 68) := by decide +kernel
theorem fx_121_53 : xins 121 53 = (3, 0, 0, 1) := by decide +kernel
theorem fx_121_54 : xins 121 54 = (3, 0, 0, 1) := by decide +kernel
theorem fx_121_55 : xins 121 55 = (12, 682, 7, 21) := by decide +kernel
theorem fx_121_58 : xins 121 58 = (3, 0, 0, 1) := by decide +kernel
theorem fx_121_59 : xins 121 59 = (12, 680, 7, 19) := by decide +kernel
theorem fx_121_62 : xins 121 62 = (2, 0, 1, 1) := by decide +kernel
theorem fx_121_63 : xins 121 63 = (14, 0, 0, 0) := by decide +kernel
theorem fx_121_64 : xins 121 64 = (7, 0, 0, 0) := by decide +kernel
theorem fx_121_65 : xins 121 65 = (13, 682, 7, 21) := by decide +kernel
theorem fx_121_68 : xins 121 68 = (30, 0, 0, 0) := by decide +kernel
theorem xq_122 : xnth xprog 122 [] = xk_122 := rfl
theorem fx_122_0 : xins 122 0 = (2, 0, 1, 1) := by decide +kernel
theorem fx_122_1 : xins 122 1 = (2, 0, 2, 1) := by decide +kernel
theorem fx_122_2 : xins 122 2 = (7, 0, 9, 0) := by decide +kernel
theorem fx_122_3 : xins 122 3 = (1, 1, 1, 0) := by decide +kernel
theorem fx_122_4 : xins 122 4 = (7, 0, 5, 0) := by decide +kernel
theorem fx_122_5 : xins 122 5 = (1, 1, 1, 0) := by decide +kernel
theorem fx_122_6 : xins 122 6 = (10, 0, 1, 13) := by decide +kernel
theorem fx_122_9 : xins 122 9 = (1, 1, 1, 0) := by decide +kernel
theorem fx_122_10 : xins 122 10 = (11, 0, 0, 14) := by decide +kernel
theorem fx_122_13 : xins 122 13 = (1, 0, 1, 0) := by decide +kernel
theorem fx_122_14 : xins 122 14 = (29, 0, 0, 0) := by decide +kernel
theorem xq_123 : xnth xprog 123 [] = xk_123 := rfl
theorem fx_123_0 : xins 123 0 = (2, 0, 3, 1) := by decide +kernel
theorem fx_123_1 : xins 123 1 = (1, 1000000, 2, 824) := by decide +kernel
theorem fx_123_3 : xins 123 3 = (10, 0, 3, 38) := by decide +kernel
theorem fx_123_6 : xins 123 6 = (3, 0, 0, 1) := by decide +kernel
theorem fx_123_7 : xins 123 7 = (12, 679, 7, 18) := by decide +kernel
theorem fx_123_10 : xins 123 10 = (2, 0, 2, 1) := by decide +kernel
theorem fx_123_11 : xins 123 11 = (14, 0, 0, 0) := by decide +kernel
theorem fx_123_12 : xins 123 12 = (1, 1000000, 2, 824) := by decide +kernel
theorem fx_123_14 : xins 123 14 = (10, 0, 3, 38) := by decide +kernel
theorem fx_123_17 : xins 123 17 = (2, 0, 3, 1) := by decide +kernel
theorem fx_123_18 : xins 123 18 = (3, 0, 0, 1) := by decide +kernel
theorem fx_123_19 : xins 123 19 = (12, 679, 7, 18) := by decide +kernel
theorem fx_123_22 : xins 123 22 = (2, 0, 2, 1) := by decide +kernel
theorem fx_123_23 : xins 123 23 = (14, 0, 0, 0) := by decide +kernel
theorem fx_123_24 : xins 123 24 = (7, 0, 0, 0) := by decide +kernel
theorem fx_123_25 : xins 123 25 = (3, 0, 0, 1) := by decide +kernel
theorem fx_123_26 : xins 123 26 = (12, 679, 7, 18) := by decide +kernel
theorem fx_123_29 : xins 123 29 = (2, 0, 1, 1) := by decide +kernel
theorem fx_123_30 : xins 123 30 = (14, 0, 0, 0) := by decide +kernel
theorem fx_123_31 : xins 123 31 = (10, 0, 1, 38) := by decide +kernel
theorem fx_123_34 : xins 123 34 = (1, 1, 1, 0) := by decide +kernel
theorem fx_123_35 : xins 123 35 = (11, 0, 0, 39) := by decide +kernel
theorem fx_123_38 : xins 123 38 = (1, 0, 1, 0) := by decide +kernel
theorem fx_123_39 : xins 123 39 = (29, 0, 0, 0) := by decide +kernel
theorem xq_124 : xnth xprog 124 [] = xk_124 := rfl
theorem fx_124_0 : xins 124 0 = (3, 0, 0, 1) := by decide +kernel
theorem fx_124_1 : xins 124 1 = (1, 0, 1, 0) := by decide +kernel
theorem fx_124_2 : xins 124 2 = (13, 661, 7, 0) := by decide +kernel
theorem fx_124_5 : xins 124 5 = (3, 0, 0, 1) := by decide +kernel
theorem fx_124_6 : xins 124 6 = (28, 735, 93, 1) := by decide +kernel
theorem fx_124_9 : xins 124 9 = (3, 0, 0, 1) := by decide +kernel
theorem fx_124_10 : xins 124 10 = (28, 841, 119, 1) := by decide +kernel
theorem fx_124_13 : xins 124 13 = (3, 0, 0, 1) := by decide +kernel
theorem fx_124_14 : xins 124 14 = (12, 679, 7, 18) := by decide +kernel
theorem fx_124_17 : xins 124 17 = (1, 0, 1, 0) := by decide +kernel
theorem fx_124_18 : xins 124 18 = (14, 0, 0, 0) := by decide +kernel
theorem fx_124_19 : xins 124 19 = (1, 1000000, 2, 824) := by decide +kernel
theorem fx_124_21 : xins 124 21 = (10, 0, 2, 28) := by decide +kernel
theorem fx_124_24 : xins 124 24 = (1, 0, 1, 0) := by decide +kernel
theorem fx_124_25 : xins 124 25 = (11, 0, 0, 34) := by decide +kernel
theorem fx_124_28 : xins 124 28 = (3, 0, 0, 1) := by decide +kernel
theorem fx_124_29 : xins 124 29 = (12, 680, 7, 19) := by decide +kernel
theorem fx_124_32 : xins 124 32 = (1, 0, 1, 0) := by decide +kernel
theorem fx_124_33 : xins 124 33 = (14, 0, 0, 0) := by decide +kernel
theorem fx_124_34 : xins 124 34 = (29, 0, 0, 0) := by decide +kernel
theorem xq_125 : xnth xprog 125 [] = xk_125 := rfl
theorem fx_125_0 : xins 125 0 = (3, 0, 0, 1) := by decide +kernel
theorem fx_125_1 : xins 125 1 = (1, 0, 1, 0) := by decide +kernel
theorem fx_125_2 : xins 125 2 = (13, 661, 7, 0) := by decide +kernel
theorem fx_125_5 : xins 125 5 = (3, 0, 0, 1) := by decide +kernel
theorem fx_125_6 : xins 125 6 = (28, 735, 93, 1) := by decide +kernel
theorem fx_125_9 : xins 125 9 = (1, 0, 1, 0) := by decide +kernel
theorem fx_125_10 : xins 125 10 = (4, 0, 1, 1) := by decide +kernel
theorem fx_125_11 : xins 125 11 = (1, 0, 1, 0) := by decide +kernel
theorem fx_125_12 : xins 125 12 = (4, 0, 2, 1) := by decide +kernel
theorem fx_125_13 : xins 125 13 = (2, 0, 2, 1) := by decide +kernel
theorem fx_125_14 : xins 125 14 = (1, 8, 2, 0) := by decide +kernel
theorem fx_125_16 : xins 125 16 = (10, 0, 3, 43) := by decide +kernel
theorem fx_125_19 : xins 125 19 = (2, 0, 1, 1) := by decide +kernel
theorem fx_125_20 : xins 125 20 = (9, 0, 1, 31) := by decide +kernel
theorem fx_125_23 : xins 125 23 = (3, 0, 0, 1) := by decide +kernel
theorem fx_125_24 : xins 125 24 = (2, 0, 2, 1) := by decide +kernel
theorem fx_125_25 : xins 125 25 = (28, 800, 109, 2) := by decide +kernel
theorem fx_125_28 : xins 125 28 = (9, 0, 0, 35) := by decide +kernel
theorem fx_125_31 : xins 125 31 = (1, 1, 1, 0) := by decide +kernel
theorem fx_125_32 : xins 125 32 = (11, 0, 0, 36) := by decide +kernel
theorem fx_125_35 : xins 125 35 = (1, 0, 1, 0) := by decide +kernel
theorem fx_125_36 : xins 125 36 = (4, 0, 1, 1) := by decide +kernel
theorem fx_125_37 : xins 125 37 = (6, 1, 2, 0) := by decide +kernel
theorem fx_125_40 : xins 125 40 = (11, 0, 0, 13) := by decide +kernel
theorem fx_125_43 : xins 125 43 = (2, 0, 1, 1) := by decide +kernel
theorem fx_125_44 : xins 125 44 = (9, 0, 0, 54) := by decide +kernel
theorem fx_125_47 : xins 125 47 = (3, 0, 0, 1) := by decide +kernel
theorem fx_125_48 : xins 125 48 = (28, 837, 118, 1) := by decide +kernel
theorem fx_125_51 : xins 125 51 = (9, 0, 1, 56) := by decide +kernel
theorem fx_125_54 : xins 125 54 = (1, (-1), 1, 0) := by decide +kernel
theorem fx_125_55 : xins 125 55 = (29, 0, 0, 0) := by decide +kernel
theorem fx_125_56 : xins 125 56 = (3, 0, 0, 1) := by decide +kernel
theorem fx_125_57 : xins 125 57 = (28, 743, 95, 1) := by decide +kernel
theorem fx_125_60 : xins 125 60 = (3, 0, 0, 1) := by decide +kernel
theorem fx_125_61 : xins 125 61 = (12, 662, 7, 1) := by decide +kernel
theorem fx_125_64 : xins 125 64 = (1, 3, 1, 0) := by decide +kernel
theorem fx_125_65 : xins 125 65 = (14, 0, 0, 0) := by decide +kernel
theorem fx_125_66 : xins 125 66 = (4, 0, 2, 1) := by decide +kernel
theorem fx_125_67 : xins 125 67 = (3, 0, 0, 1) := by decide +kernel
theorem fx_125_68 : xins 125 68 = (12, 662, 7, 1) := by decide +kernel
theorem fx_125_71 : xins 125 71 = (1, 3, 1, 0) := by decide +kernel
theorem fx_125_72 : xins 125 72 = (2, 0, 2, 1) := by decide +kernel
theorem fx_125_73 : xins 125 73 = (1, 1, 1, 0) := by decide +kernel
theorem fx_125_74 : xins 125 74 = (7, 0, 0, 0) := by decide +kernel
theorem fx_125_75 : xins 125 75 = (15, 0, 0, 0) := by decide +kernel
theorem fx_125_76 : xins 125 76 = (1, 0, 1, 0) := by decide +kernel
theorem fx_125_77 : xins 125 77 = (4, 0, 3, 1) := by decide +kernel
theorem fx_125_78 : xins 125 78 = (2, 0, 3, 1) := by decide +kernel
theorem fx_125_79 : xins 125 79 = (1, 4, 1, 0) := by decide +kernel
theorem fx_125_80 : xins 125 80 = (10, 0, 3, 301) := by decide +kernel
theorem fx_125_83 : xins 125 83 = (3, 0, 0, 1) := by decide +kernel
theorem fx_125_84 : xins 125 84 = (12, 683, 7, 22) := by decide +kernel
theorem fx_125_87 : xins 125 87 = (1, 2, 1, 0) := by decide +kernel
theorem fx_125_88 : xins 125 88 = (2, 0, 3, 1) := by decide +kernel
theorem fx_125_89 : xins 125 89 = (7, 0, 2, 0) := by decide +kernel
theorem fx_125_90 : xins 125 90 = (14, 0, 0, 0) := by decide +kernel
theorem fx_125_91 : xins 125 91 = (4, 0, 4, 2) := by decide +kernel
theorem fx_125_93 : xins 125 93 = (3, 0, 0, 1) := by decide +kernel
theorem fx_125_94 : xins 125 94 = (12, 683, 7, 22) := by decide +kernel
theorem fx_125_97 : xins 125 97 = (1, 2, 1, 0) := by decide +kernel
theorem fx_125_98 : xins 125 98 = (2, 0, 3, 1) := by decide +kernel
theorem fx_125_99 : xins 125 99 = (7, 0, 2, 0) := by decide +kernel
theorem fx_125_100 : xins 125 100 = (1, 1, 1, 0) := by decide +kernel
theorem fx_125_101 : xins 125 101 = (7, 0, 0, 0) := by decide +kernel
theorem fx_125_102 : xins 125 102 = (14, 0, 0, 0) := by decide +kernel
theorem fx_125_103 : xins 125 103 = (4, 0, 5, 2) := by decide +kernel
theorem fx_125_105 : xins 125 105 = (2, 0, 4, 2) := by decide +kernel
theorem fx_125_107 : xins 125 107 = (1, (-1), 1, 0) := by decide +kernel
theorem fx_125_108 : xins 125 108 = (10, 0, 0, 185) := by decide +kernel
theorem fx_125_111 : xins 125 111 = (2, 0, 5, 2) := by decide +kernel
theorem fx_125_113 : xins 125 113 = (1, (-1), 1, 0) := by decide +kernel
theorem fx_125_114 : xins 125 114 = (10, 0, 0, 185) := by decide +kernel
theorem fx_125_117 : xins 125 117 = (3, 0, 0, 1) := by decide +kernel
theorem fx_125_118 : xins 125 118 = (2, 0, 3, 1) := by decide +kernel
theorem fx_125_119 : xins 125 119 = (28, 804, 110, 2) := by decide +kernel
theorem fx_125_122 : xins 125 122 = (9, 0, 0, 185) := by decide +kernel
theorem fx_125_125 : xins 125 125 = (3, 0, 0, 1) := by decide +kernel
theorem fx_125_126 : xins 125 126 = (2, 0, 4, 2) := by decide +kernel
theorem fx_125_128 : xins 125 128 = (2, 0, 5, 2) := by decide +kernel
theorem fx_125_130 : xins 125 130 = (2, 0, 3, 1) := by decide +kernel
theorem fx_125_131 : xins 125 131 = (28, 829, 116, 4) := by decide +kernel
theorem fx_125_134 : xins 125 134 = (24, 0, 0, 0) := by decide +kernel
theorem fx_125_135 : xins 125 135 = (3, 0, 0, 1) := by decide +kernel
theorem fx_125_136 : xins 125 136 = (12, 673, 7, 12) := by decide +kernel
theorem fx_125_139 : xins 125 139 = (3, 0, 0, 1) := by decide +kernel
theorem fx_125_140 : xins 125 140 = (12, 674, 7, 13) := by decide +kernel
theorem fx_125_143 : xins 125 143 = (7, 0, 1, 0) := by decide +kernel
theorem fx_125_144 : xins 125 144 = (3, 0, 0, 1) := by decide +kernel
theorem fx_125_145 : xins 125 145 = (12, 675, 7, 14) := by decide +kernel
theorem fx_125_148 : xins 125 148 = (7, 0, 1, 0) := by decide +kernel
theorem fx_125_149 : xins 125 149 = (3, 0, 0, 1) := by decide +kernel
theorem fx_125_150 : xins 125 150 = (12, 676, 7, 15) := by decide +kernel
theorem fx_125_153 : xins 125 153 = (7, 0, 1, 0) := by decide +kernel
theorem fx_125_154 : xins 125 154 = (4, 0, 6, 2) := by decide +kernel
theorem fx_125_156 : xins 125 156 = (3, 0, 0, 1) := by decide +kernel
theorem fx_125_157 : xins 125 157 = (2, 0, 4, 2) := by decide +kernel
theorem fx_125_159 : xins 125 159 = (3, 0, 0, 1) := by decide +kernel
theorem fx_125_160 : xins 125 160 = (12, 674, 7, 13) := by decide +kernel
theorem fx_125_163 : xins 125 163 = (3, 0, 0, 1) := by decide +kernel
theorem fx_125_164 : xins 125 164 = (12, 675, 7, 14) := by decide +kernel
theorem fx_125_167 : xins 125 167 = (28, 788, 106, 4) := by decide +kernel
theorem fx_125_170 : xins 125 170 = (3, 0, 0, 1) := by decide +kernel
theorem fx_125_171 : xins 125 171 = (2, 0, 5, 2) := by decide +kernel
theorem fx_125_173 : xins 125 173 = (3, 0, 0, 1) := by decide +kernel
theorem fx_125_174 : xins 125 174 = (12, 676, 7, 15) := by decide +kernel
theorem fx_125_177 : xins 125 177 = (2, 0, 6, 2) := by decide +kernel
theorem fx_125_179 : xins 125 179 = (28, 788, 106, 4) := by decide +kernel
theorem fx_125_182 : xins 125 182 = (11, 0, 0, 261) := by decide +kernel
theorem fx_125_185 : xins 125 185 = (2, 0, 4, 2) := by decide +kernel
theorem fx_125_187 : xins 125 187 = (1, (-1), 1, 0) := by decide +kernel
theorem fx_125_188 : xins 125 188 = (10, 0, 0, 222) := by decide +kernel
theorem fx_125_191 : xins 125 191 = (3, 0, 0, 1) := by decide +kernel
theorem fx_125_192 : xins 125 192 = (2, 0, 4, 2) := by decide +kernel
theorem fx_125_194 : xins 125 194 = (1, 2, 1, 0) := by decide +kernel
theorem fx_125_195 : xins 125 195 = (2, 0, 3, 1) := by decide +kernel
theorem fx_125_196 : xins 125 196 = (7, 0, 2, 0) := by decide +kernel
theorem fx_125_197 : xins 125 197 = (28, 816, 113, 3) := by decide +kernel
theorem fx_125_200 : xins 125 200 = (9, 0, 0, 222) := by decide +kernel
theorem fx_125_203 : xins 125 203 = (3, 0, 0, 1) := by decide +kernel
theorem fx_125_204 : xins 125 204 = (2, 0, 4, 2) := by decide +kernel
theorem fx_125_206 : xins 125 206 = (3, 0, 0, 1) := by decide +kernel
theorem fx_125_207 : xins 125 207 = (12, 672, 7, 11) := by decide +kernel
theorem fx_125_210 : xins 125 210 = (3, 0, 0, 1) := by decide +kernel
theorem fx_125_211 : xins 125 211 = (12, 671, 7, 10) := by decide +kernel
theorem fx_125_214 : xins 125 214 = (3, 0, 0, 1) := by decide +kernel
theorem fx_125_215 : xins 125 215 = (12, 672, 7, 11) := by decide +kernel
theorem fx_125_218 : xins 125 218 = (7, 0, 1, 0) := by decide +kernel
theorem fx_125_219 : xins 125 219 = (28, 788, 106, 4) := by decide +kernel
theorem fx_125_222 : xins 125 222 = (2, 0, 5, 2) := by decide +kernel
theorem fx_125_224 : xins 125 224 = (1, (-1), 1, 0) := by decide +kernel
theorem fx_125_225 : xins 125 225 = (10, 0, 0, 261) := by decide +kernel
theorem fx_125_228 : xins 125 228 = (3, 0, 0, 1) := by decide +kernel
theorem fx_125_229 : xins 125 229 = (2, 0, 5, 2) := by decide +kernel
theorem fx_125_231 : xins 125 231 = (1, 2, 1, 0) := by decide +kernel
theorem fx_125_232 : xins 125 232 = (2, 0, 3, 1) := by decide +kernel
theorem fx_125_233 : xins 125 233 = (7, 0, 2, 0) := by decide +kernel
theorem fx_125_234 : xins 125 234 = (1, 1, 1, 0) := by decide +kernel
theorem fx_125_235 : xins 125 235 = (7, 0, 0, 0) := by decide +kernel
theorem fx_125_236 : xins 125 236 = (28, 816, 113, 3) := by decide +kernel
theorem fx_125_239 : xins 125 239 = (9, 0, 0, 261) := by decide +kernel
theorem fx_125_242 : xins 125 242 = (3, 0, 0, 1) := by decide +kernel
theorem fx_125_243 : xins 125 243 = (2, 0, 5, 2) := by decide +kernel
theorem fx_125_245 : xins 125 245 = (3, 0, 0, 1) := by decide +kernel
theorem fx_125_246 : xins 125 246 = (12, 672, 7, 11) := by decide +kernel
theorem fx_125_249 : xins 125 249 = (3, 0, 0, 1) := by decide +kernel
theorem fx_125_250 : xins 125 250 = (12, 671, 7, 10) := by decide +kernel
theorem fx_125_253 : xins 125 253 = (3, 0, 0, 1) := by decide +kernel
theorem fx_125_254 : xins 125 254 = (12, 672, 7, 11) := by decide +kernel
theorem fx_125_257 : xins 125 257 = (7, 0, 1, 0) := by decide +kernel
theorem fx_125_258 : xins 125 258 = (28, 788, 106, 4) := by decide +kernel
theorem fx_125_261 : xins 125 261 = (2, 0, 4, 2) := by decide +kernel
theorem fx_125_263 : xins 125 263 = (1, (-1), 1, 0) := by decide +kernel
theorem fx_125_264 : xins 125 264 = (10, 0, 0, 277) := by decide +kernel
theorem fx_125_267 : xins 125 267 = (3, 0, 0, 1) := by decide +kernel
theorem fx_125_268 : xins 125 268 = (1, 2, 1, 0) := by decide +kernel
theorem fx_125_269 : xins 125 269 = (2, 0, 3, 1) := by decide +kernel
theorem fx_125_270 : xins 125 270 = (7, 0, 2, 0) := by decide +kernel
theorem fx_125_271 : xins 125 271 = (2, 0, 4, 2) := by decide +kernel
theorem fx_125_273 : xins 125 273 = (2, 0, 2, 1) := by decide +kernel
theorem fx_125_274 : xins 125 274 = (28, 869, 126, 4) := by decide +kernel
theorem fx_125_277 : xins 125 277 = (2, 0, 5, 2) := by decide +kernel
theorem fx_125_279 : xins 125 279 = (1, (-1), 1, 0) := by decide +kernel
theorem fx_125_280 : xins 125 280 = (10, 0, 0, 295) := by decide +kernel
theorem fx_125_283 : xins 125 283 = (3, 0, 0, 1) := by decide +kernel
theorem fx_125_284 : xins 125 284 = (1, 2, 1, 0) := by decide +kernel
theorem fx_125_285 : xins 125 285 = (2, 0, 3, 1) := by decide +kernel
theorem fx_125_286 : xins 125 286 = (7, 0, 2, 0) := by decide +kernel
theorem fx_125_287 : xins 125 287 = (1, 1, 1, 0) := by decide +kernel
theorem fx_125_288 : xins 125 288 = (7, 0, 0, 0) := by decide +kernel
theorem fx_125_289 : xins 125 289 = (2, 0, 5, 2) := by decide +kernel
theorem fx_125_291 : xins 125 291 = (2, 0, 2, 1) := by decide +kernel
theorem fx_125_292 : xins 125 292 = (28, 869, 126, 4) := by decide +kernel
theorem fx_125_295 : xins 125 295 = (6, 1, 3, 0) := by decide +kernel
theorem fx_125_298 : xins 125 298 = (11, 0, 0, 78) := by decide +kernel
theorem fx_125_301 : xins 125 301 = (1, 0, 1, 0) := by decide +kernel
theorem fx_125_302 : xins 125 302 = (4, 0, 3, 1) := by decide +kernel
theorem fx_125_303 : xins 125 303 = (2, 0, 3, 1) := by decide +kernel
theorem fx_125_304 : xins 125 304 = (1, 8, 2, 0) := by decide +kernel
theorem fx_125_306 : xins 125 306 = (10, 0, 3, 324) := by decide +kernel
theorem fx_125_309 : xins 125 309 = (3, 0, 0, 1) := by decide +kernel
theorem fx_125_310 : xins 125 310 = (12, 662, 7, 1) := by decide +kernel
theorem fx_125_313 : xins 125 313 = (1, 4, 1, 0) := by decide +kernel
theorem fx_125_314 : xins 125 314 = (2, 0, 3, 1) := by decide +kernel
theorem fx_125_315 : xins 125 315 = (7, 0, 0, 0) := by decide +kernel
theorem fx_125_316 : xins 125 316 = (1, (-1), 1, 0) := by decide +kernel
theorem fx_125_317 : xins 125 317 = (15, 0, 0, 0) := by decide +kernel
theorem fx_125_318 : xins 125 318 = (6, 1, 3, 0) := by decide +kernel
theorem fx_125_321 : xins 125 321 = (11, 0, 0, 303) := by decide +kernel
theorem fx_125_324 : xins 125 324 = (2, 0, 2, 1) := by decide +kernel
theorem fx_125_325 : xins 125 325 = (29, 0, 0, 0) := by decide +kernel
theorem xq_126 : xnth xprog 126 [] = xk_126 := rfl
theorem fx_126_0 : xins 126 0 = (1, 20, 2, 0) := by decide +kernel
theorem fx_126_2 : xins 126 2 = (1, 7, 2, 0) := by decide +kernel
theorem fx_126_4 : xins 126 4 = (2, 0, 2, 1) := by decide +kernel
theorem fx_126_5 : xins 126 5 = (7, 0, 2, 0) := by decide +kernel
theorem fx_126_6 : xins 126 6 = (7, 0, 0, 0) := by decide +kernel
theorem fx_126_7 : xins 126 7 = (4, 0, 4, 2) := by decide +kernel
theorem fx_126_9 : xins 126 9 = (3, 0, 0, 1) := by decide +kernel
theorem fx_126_10 : xins 126 10 = (12, 662, 7, 1) := by decide +kernel
theorem fx_126_13 : xins 126 13 = (2, 0, 4, 2) := by decide +kernel
theorem fx_126_15 : xins 126 15 = (1, 3, 1, 0) := by decide +kernel
theorem fx_126_16 : xins 126 16 = (7, 0, 0, 0) := by decide +kernel
theorem fx_126_17 : xins 126 17 = (1, 1, 1, 0) := by decide +kernel
theorem fx_126_18 : xins 126 18 = (15, 0, 0, 0) := by decide +kernel
theorem fx_126_19 : xins 126 19 = (3, 0, 0, 1) := by decide +kernel
theorem fx_126_20 : xins 126 20 = (12, 662, 7, 1) := by decide +kernel
theorem fx_126_23 : xins 126 23 = (2, 0, 4, 2) := by decide +kernel
theorem fx_126_25 : xins 126 25 = (1, 4, 1, 0) := by decide +kernel
theorem fx_126_26 : xins 126 26 = (7, 0, 0, 0) := by decide +kernel
theorem fx_126_27 : xins 126 27 = (2, 0, 3, 1) := by decide +kernel
theorem fx_126_28 : xins 126 28 = (15, 0, 0, 0) := by decide +kernel
theorem fx_126_29 : xins 126 29 = (3, 0, 0, 1) := by decide +kernel
theorem fx_126_30 : xins 126 30 = (12, 662, 7, 1) := by decide +kernel
theorem fx_126_33 : xins 126 33 = (2, 0, 4, 2) := by decide +kernel
theorem fx_126_35 : xins 126 35 = (1, 5, 1, 0) := by decide +kernel
theorem fx_126_36 : xins 126 36 = (7, 0, 0, 0) := by decide +kernel
theorem fx_126_37 : xins 126 37 = (2, 0, 1, 1) := by decide +kernel
theorem fx_126_38 : xins 126 38 = (15, 0, 0, 0) := by decide +kernel
theorem fx_126_39 : xins 126 39 = (30, 0, 0, 0) := by decide +kernel
theorem xq_127 : xnth xprog 127 [] = xk_127 := rfl
theorem fx_127_0 : xins 127 0 = (3, 0, 0, 1) := by decide +kernel
theorem fx_127_1 : xins 127 1 = (1, 0, 1, 0) := by decide +kernel
theorem fx_127_2 : xins 127 2 = (13, 661, 7, 0) := by decide +kernel
theorem fx_127_5 : xins 127 5 = (3, 0, 0, 1) := by decide +kernel
theorem fx_127_6 : xins 127 6 = (28, 735, 93, 1) := by decide +kernel
theorem fx_127_9 : xins 127 9 = (3, 0, 0, 1) := by decide +kernel
theorem fx_127_10 : xins 127 10 = (28, 845, 120, 1) := by decide +kernel
theorem fx_127_13 : xins 127 13 = (1, 4, 1, 0) := by decide +kernel
theorem fx_127_14 : xins 127 14 = (4, 0, 1, 1) := by decide +kernel
theorem fx_127_15 : xins 127 15 = (2, 0, 1, 1) := by decide +kernel
theorem fx_127_16 : xins 127 16 = (9, 0, 2, 427) := by decide +kernel
theorem fx_127_19 : xins 127 19 = (2, 0, 1, 1) := by decide +kernel
theorem fx_127_20 : xins 127 20 = (1, 4, 1, 0) := by decide +kernel
theorem fx_127_21 : xins 127 21 = (10, 0, 3, 38) := by decide +kernel
theorem fx_127_24 : xins 127 24 = (3, 0, 0, 1) := by decide +kernel
theorem fx_127_25 : xins 127 25 = (1, 2, 1, 0) := by decide +kernel
theorem fx_127_26 : xins 127 26 = (2, 0, 1, 1) := by decide +kernel
theorem fx_127_27 : xins 127 27 = (7, 0, 2, 0) := by decide +kernel
theorem fx_127_28 : xins 127 28 = (28, 800, 109, 2) := by decide +kernel
theorem fx_127_31 : xins 127 31 = (9, 0, 0, 38) := by decide +kernel
theorem fx_127_34 : xins 127 34 = (1, 1, 1, 0) := by decide +kernel
theorem fx_127_35 : xins 127 35 = (11, 0, 0, 39) := by decide +kernel
theorem fx_127_38 : xins 127 38 = (1, 0, 1, 0) := by decide +kernel
theorem fx_127_39 : xins 127 39 = (4, 0, 2, 1) := by decide +kernel
theorem fx_127_40 : xins 127 40 = (2, 0, 1, 1) := by decide +kernel
theorem fx_127_41 : xins 127 41 = (1, 4, 1, 0) := by decide +kernel
theorem fx_127_42 : xins 127 42 = (10, 0, 3, 61) := by decide +kernel
theorem fx_127_45 : xins 127 45 = (3, 0, 0, 1) := by decide +kernel
theorem fx_127_46 : xins 127 46 = (1, 2, 1, 0) := by decide +kernel
theorem fx_127_47 : xins 127 47 = (2, 0, 1, 1) := by decide +kernel
theorem fx_127_48 : xins 127 48 = (7, 0, 2, 0) := by decide +kernel
theorem fx_127_49 : xins 127 49 = (1, 1, 1, 0) := by decide +kernel
theorem fx_127_50 : xins 127 50 = (7, 0, 0, 0) := by decide +kernel
theorem fx_127_51 : xins 127 51 = (28, 800, 109, 2) := by decide +kernel
theorem fx_127_54 : xins 127 54 = (9, 0, 0, 61) := by decide +kernel
theorem fx_127_57 : xins 127 57 = (1, 1, 1, 0) := by decide +kernel
theorem fx_127_58 : xins 127 58 = (11, 0, 0, 62) := by decide +kernel
theorem fx_127_61 : xins 127 61 = (1, 0, 1, 0) := by decide +kernel
theorem fx_127_62 : xins 127 62 = (4, 0, 3, 1) := by decide +kernel
theorem fx_127_63 : xins 127 63 = (2, 0, 1, 1) := by decide +kernel
theorem fx_127_64 : xins 127 64 = (1, 4, 1, 0) := by decide +kernel
theorem fx_127_65 : xins 127 65 = (10, 0, 0, 72) := by decide +kernel
theorem fx_127_68 : xins 127 68 = (2, 0, 2, 1) := by decide +kernel
theorem fx_127_69 : xins 127 69 = (9, 0, 1, 76) := by decide +kernel
theorem fx_127_72 : xins 127 72 = (1, 0, 1, 0) := by decide +kernel
theorem fx_127_73 : xins 127 73 = (11, 0, 0, 85) := by decide +kernel
theorem fx_127_76 : xins 127 76 = (1, 1000, 3, 0) := by decide +kernel
theorem fx_127_79 : xins 127 79 = (1, 1, 1, 0) := by decide +kernel
theorem fx_127_80 : xins 127 80 = (1, 2, 1, 0) := by decide +kernel
theorem fx_127_81 : xins 127 81 = (2, 0, 1, 1) := by decide +kernel
theorem fx_127_82 : xins 127 82 = (7, 0, 2, 0) := by decide +kernel
theorem fx_127_83 : xins 127 83 = (7, 0, 8, 0) := by decide +kernel
theorem fx_127_84 : xins 127 84 = (7, 0, 0, 0) := by decide +kernel
theorem fx_127_85 : xins 127 85 = (4, 0, 4, 2) := by decide +kernel
theorem fx_127_87 : xins 127 87 = (2, 0, 1, 1) := by decide +kernel
theorem fx_127_88 : xins 127 88 = (1, 4, 1, 0) := by decide +kernel
theorem fx_127_89 : xins 127 89 = (10, 0, 0, 96) := by decide +kernel
theorem fx_127_92 : xins 127 92 = (2, 0, 3, 1) := by decide +kernel
theorem fx_127_93 : xins 127 93 = (9, 0, 1, 100) := by decide +kernel
theorem fx_127_96 : xins 127 96 = (1, 0, 1, 0) := by decide +kernel
theorem fx_127_97 : xins 127 97 = (11, 0, 0, 109) := by decide +kernel
theorem fx_127_100 : xins 127 100 = (1, 1000, 3, 0) := by decide +kernel
theorem fx_127_103 : xins 127 103 = (1, 2, 1, 0) := by decide +kernel
theorem fx_127_104 : xins 127 104 = (1, 2, 1, 0) := by decide +kernel
theorem fx_127_105 : xins 127 105 = (2, 0, 1, 1) := by decide +kernel
theorem fx_127_106 : xins 127 106 = (7, 0, 2, 0) := by decide +kernel
theorem fx_127_107 : xins 127 107 = (7, 0, 8, 0) := by decide +kernel
theorem fx_127_108 : xins 127 108 = (7, 0, 0, 0) := by decide +kernel
theorem fx_127_109 : xins 127 109 = (4, 0, 5, 2) := by decide +kernel
theorem fx_127_111 : xins 127 111 = (1, 0, 1, 0) := by decide +kernel
theorem fx_127_112 : xins 127 112 = (4, 0, 6, 2) := by decide +kernel
theorem fx_127_114 : xins 127 114 = (2, 0, 6, 2) := by decide +kernel
theorem fx_127_116 : xins 127 116 = (1, 4096, 3, 0) := by decide +kernel
theorem fx_127_119 : xins 127 119 = (10, 0, 3, 421) := by decide +kernel
theorem fx_127_122 : xins 127 122 = (1, 4096, 3, 0) := by decide +kernel
theorem fx_127_125 : xins 127 125 = (2, 0, 1, 1) := by decide +kernel
theorem fx_127_126 : xins 127 126 = (1, 1, 1, 0) := by decide +kernel
theorem fx_127_127 : xins 127 127 = (7, 0, 0, 0) := by decide +kernel
theorem fx_127_128 : xins 127 128 = (7, 0, 2, 0) := by decide +kernel
theorem fx_127_129 : xins 127 129 = (4, 0, 7, 2) := by decide +kernel
theorem fx_127_131 : xins 127 131 = (2, 0, 1, 1) := by decide +kernel
theorem fx_127_132 : xins 127 132 = (1, 4, 1, 0) := by decide +kernel
theorem fx_127_133 : xins 127 133 = (10, 0, 1, 140) := by decide +kernel
theorem fx_127_136 : xins 127 136 = (1, 0, 1, 0) := by decide +kernel
theorem fx_127_137 : xins 127 137 = (11, 0, 0, 156) := by decide +kernel
theorem fx_127_140 : xins 127 140 = (2, 0, 4, 2) := by decide +kernel
theorem fx_127_142 : xins 127 142 = (2, 0, 5, 2) := by decide +kernel
theorem fx_127_144 : xins 127 144 = (7, 0, 0, 0) := by decide +kernel
theorem fx_127_145 : xins 127 145 = (3, 0, 0, 1) := by decide +kernel
theorem fx_127_146 : xins 127 146 = (12, 679, 7, 18) := by decide +kernel
theorem fx_127_149 : xins 127 149 = (2, 0, 7, 2) := by decide +kernel
theorem fx_127_151 : xins 127 151 = (2, 0, 6, 2) := by decide +kernel
theorem fx_127_153 : xins 127 153 = (7, 0, 0, 0) := by decide +kernel
theorem fx_127_154 : xins 127 154 = (14, 0, 0, 0) := by decide +kernel
theorem fx_127_155 : xins 127 155 = (7, 0, 0, 0) := by decide +kernel
theorem fx_127_156 : xins 127 156 = (4, 0, 8, 2) := by decide +kernel
theorem fx_127_158 : xins 127 158 = (1, 0, 1, 0) := by decide +kernel
theorem fx_127_159 : xins 127 159 = (4, 0, 9, 2) := by decide +kernel
theorem fx_127_161 : xins 127 161 = (2, 0, 9, 2) := by decide +kernel
theorem fx_127_163 : xins 127 163 = (1, 12, 2, 0) := by decide +kernel
theorem fx_127_165 : xins 127 165 = (10, 0, 3, 400) := by decide +kernel
theorem fx_127_168 : xins 127 168 = (2, 0, 1, 1) := by decide +kernel
theorem fx_127_169 : xins 127 169 = (1, 4, 1, 0) := by decide +kernel
theorem fx_127_170 : xins 127 170 = (10, 0, 3, 400) := by decide +kernel
theorem fx_127_173 : xins 127 173 = (3, 0, 0, 1) := by decide +kernel
theorem fx_127_174 : xins 127 174 = (2, 0, 6, 2) := by decide +kernel
theorem fx_127_176 : xins 127 176 = (2, 0, 9, 2) := by decide +kernel
theorem fx_127_178 : xins 127 178 = (28, 853, 122, 3) := by decide +kernel
theorem fx_127_181 : xins 127 181 = (9, 0, 0, 187) := by decide +kernel
theorem fx_127_184 : xins 127 184 = (11, 0, 0, 394) := by decide +kernel
theorem fx_127_187 : xins 127 187 = (2, 0, 7, 2) := by decide +kernel
theorem fx_127_189 : xins 127 189 = (2, 0, 6, 2) := by decide +kernel
theorem fx_127_191 : xins 127 191 = (1, 1, 1, 0) := by decide +kernel
theorem fx_127_192 : xins 127 192 = (2, 0, 9, 2) := by decide +kernel
theorem fx_127_194 : xins 127 194 = (7, 0, 8, 0) := by decide +kernel
theorem fx_127_195 : xins 127 195 = (7, 0, 6, 0) := by decide +kernel
theorem fx_127_196 : xins 127 196 = (7, 0, 0, 0) := by decide +kernel
theorem fx_127_197 : xins 127 197 = (4, 0, 10, 2) := by decide +kernel
theorem fx_127_199 : xins 127 199 = (2, 0, 2, 1) := by decide +kernel
theorem fx_127_200 : xins 127 200 = (9, 0, 0, 249) := by decide +kernel
theorem fx_127_203 : xins 127 203 = (3, 0, 0, 1) := by decide +kernel
theorem fx_127_204 : xins 127 204 = (12, 677, 7, 16) := by decide +kernel
theorem fx_127_207 : xins 127 207 = (1, 8, 2, 0) := by decide +kernel
theorem fx_127_209 : xins 127 209 = (2, 0, 9, 2) := by decide +kernel
theorem fx_127_211 : xins 127 211 = (7, 0, 2, 0) := by decide +kernel
theorem fx_127_212 : xins 127 212 = (1, 2, 1, 0) := by decide +kernel
theorem fx_127_213 : xins 127 213 = (2, 0, 1, 1) := by decide +kernel
theorem fx_127_214 : xins 127 214 = (7, 0, 2, 0) := by decide +kernel
theorem fx_127_215 : xins 127 215 = (7, 0, 0, 0) := by decide +kernel
theorem fx_127_216 : xins 127 216 = (14, 0, 0, 0) := by decide +kernel
theorem fx_127_217 : xins 127 217 = (1, 1000000, 2, 824) := by decide +kernel
theorem fx_127_219 : xins 127 219 = (10, 0, 3, 249) := by decide +kernel
theorem fx_127_222 : xins 127 222 = (2, 0, 5, 2) := by decide +kernel
theorem fx_127_224 : xins 127 224 = (3, 0, 0, 1) := by decide +kernel
theorem fx_127_225 : xins 127 225 = (12, 679, 7, 18) := by decide +kernel
theorem fx_127_228 : xins 127 228 = (2, 0, 10, 2) := by decide +kernel
theorem fx_127_230 : xins 127 230 = (14, 0, 0, 0) := by decide +kernel
theorem fx_127_231 : xins 127 231 = (7, 0, 0, 0) := by decide +kernel
theorem fx_127_232 : xins 127 232 = (2, 0, 8, 2) := by decide +kernel
theorem fx_127_234 : xins 127 234 = (10, 0, 3, 249) := by decide +kernel
theorem fx_127_237 : xins 127 237 = (2, 0, 5, 2) := by decide +kernel
theorem fx_127_239 : xins 127 239 = (3, 0, 0, 1) := by decide +kernel
theorem fx_127_240 : xins 127 240 = (12, 679, 7, 18) := by decide +kernel
theorem fx_127_243 : xins 127 243 = (2, 0, 10, 2) := by decide +kernel
theorem fx_127_245 : xins 127 245 = (14, 0, 0, 0) := by decide +kernel
theorem fx_127_246 : xins 127 246 = (7, 0, 0, 0) := by decide +kernel
theorem fx_127_247 : xins 127 247 = (4, 0, 8, 2) := by decide +kernel
theorem fx_127_249 : xins 127 249 = (2, 0, 3, 1) := by decide +kernel
theorem fx_127_250 : xins 127 250 = (9, 0, 0, 301) := by decide +kernel
theorem fx_127_253 : xins 127 253 = (3, 0, 0, 1) := by decide +kernel
theorem fx_127_254 : xins 127 254 = (12, 677, 7, 16) := by decide +kernel
theorem fx_127_257 : xins 127 257 = (1, 8, 2, 0) := by decide +kernel
theorem fx_127_259 : xins 127 259 = (2, 0, 9, 2) := by decide +kernel
theorem fx_127_261 : xins 127 261 = (7, 0, 2, 0) := by decide +kernel
theorem fx_127_262 : xins 127 262 = (1, 2, 1, 0) := by decide +kernel
theorem fx_127_263 : xins 127 263 = (2, 0, 1, 1) := by decide +kernel
theorem fx_127_264 : xins 127 264 = (7, 0, 2, 0) := by decide +kernel
theorem fx_127_265 : xins 127 265 = (7, 0, 0, 0) := by decide +kernel
theorem fx_127_266 : xins 127 266 = (1, 1, 1, 0) := by decide +kernel
theorem fx_127_267 : xins 127 267 = (7, 0, 0, 0) := by decide +kernel
theorem fx_127_268 : xins 127 268 = (14, 0, 0, 0) := by decide +kernel
theorem fx_127_269 : xins 127 269 = (1, 1000000, 2, 824) := by decide +kernel
theorem fx_127_271 : xins 127 271 = (10, 0, 3, 301) := by decide +kernel
theorem fx_127_274 : xins 127 274 = (2, 0, 4, 2) := by decide +kernel
theorem fx_127_276 : xins 127 276 = (3, 0, 0, 1) := by decide +kernel
theorem fx_127_277 : xins 127 277 = (12, 679, 7, 18) := by decide +kernel
theorem fx_127_280 : xins 127 280 = (2, 0, 10, 2) := by decide +kernel
theorem fx_127_282 : xins 127 282 = (14, 0, 0, 0) := by decide +kernel
theorem fx_127_283 : xins 127 283 = (7, 0, 0, 0) := by decide +kernel
theorem fx_127_284 : xins 127 284 = (2, 0, 8, 2) := by decide +kernel
theorem fx_127_286 : xins 127 286 = (10, 0, 3, 301) := by decide +kernel
theorem fx_127_289 : xins 127 289 = (2, 0, 4, 2) := by decide +kernel
theorem fx_127_291 : xins 127 291 = (3, 0, 0, 1) := by decide +kernel
theorem fx_127_292 : xins 127 292 = (12, 679, 7, 18) := by decide +kernel
theorem fx_127_295 : xins 127 295 = (2, 0, 10, 2) := by decide +kernel
theorem fx_127_297 : xins 127 297 = (14, 0, 0, 0) := by decide +kernel
theorem fx_127_298 : xins 127 298 = (7, 0, 0, 0) := by decide +kernel
theorem fx_127_299 : xins 127 299 = (4, 0, 8, 2) := by decide +kernel
theorem fx_127_301 : xins 127 301 = (1, 0, 1, 0) := by decide +kernel
theorem fx_127_302 : xins 127 302 = (4, 0, 11, 2) := by decide +kernel
theorem fx_127_304 : xins 127 304 = (2, 0, 11, 2) := by decide +kernel
theorem fx_127_306 : xins 127 306 = (1, 12, 2, 0) := by decide +kernel
theorem fx_127_308 : xins 127 308 = (10, 0, 3, 394) := by decide +kernel
theorem fx_127_311 : xins 127 311 = (2, 0, 2, 1) := by decide +kernel
theorem fx_127_312 : xins 127 312 = (9, 0, 0, 394) := by decide +kernel
theorem fx_127_315 : xins 127 315 = (2, 0, 3, 1) := by decide +kernel
theorem fx_127_316 : xins 127 316 = (9, 0, 0, 394) := by decide +kernel
theorem fx_127_319 : xins 127 319 = (3, 0, 0, 1) := by decide +kernel
theorem fx_127_320 : xins 127 320 = (2, 0, 6, 2) := by decide +kernel
theorem fx_127_322 : xins 127 322 = (2, 0, 11, 2) := by decide +kernel
theorem fx_127_324 : xins 127 324 = (28, 853, 122, 3) := by decide +kernel
theorem fx_127_327 : xins 127 327 = (9, 0, 1, 388) := by decide +kernel
theorem fx_127_330 : xins 127 330 = (3, 0, 0, 1) := by decide +kernel
theorem fx_127_331 : xins 127 331 = (12, 678, 7, 17) := by decide +kernel
theorem fx_127_334 : xins 127 334 = (1, 144, 3, 0) := by decide +kernel
theorem fx_127_337 : xins 127 337 = (2, 0, 1, 1) := by decide +kernel
theorem fx_127_338 : xins 127 338 = (7, 0, 2, 0) := by decide +kernel
theorem fx_127_339 : xins 127 339 = (1, 12, 2, 0) := by decide +kernel
theorem fx_127_341 : xins 127 341 = (2, 0, 9, 2) := by decide +kernel
theorem fx_127_343 : xins 127 343 = (7, 0, 2, 0) := by decide +kernel
theorem fx_127_344 : xins 127 344 = (7, 0, 0, 0) := by decide +kernel
theorem fx_127_345 : xins 127 345 = (2, 0, 11, 2) := by decide +kernel
theorem fx_127_347 : xins 127 347 = (7, 0, 0, 0) := by decide +kernel
theorem fx_127_348 : xins 127 348 = (14, 0, 0, 0) := by decide +kernel
theorem fx_127_349 : xins 127 349 = (1, 1000000, 2, 824) := by decide +kernel
theorem fx_127_351 : xins 127 351 = (10, 0, 2, 357) := by decide +kernel
theorem fx_127_354 : xins 127 354 = (11, 0, 0, 388) := by decide +kernel
theorem fx_127_357 : xins 127 357 = (3, 0, 0, 1) := by decide +kernel
theorem fx_127_358 : xins 127 358 = (12, 679, 7, 18) := by decide +kernel
theorem fx_127_361 : xins 127 361 = (2, 0, 10, 2) := by decide +kernel
theorem fx_127_363 : xins 127 363 = (1, 1, 1, 0) := by decide +kernel
theorem fx_127_364 : xins 127 364 = (2, 0, 11, 2) := by decide +kernel
theorem fx_127_366 : xins 127 366 = (7, 0, 8, 0) := by decide +kernel
theorem fx_127_367 : xins 127 367 = (7, 0, 6, 0) := by decide +kernel
theorem fx_127_368 : xins 127 368 = (14, 0, 0, 0) := by decide +kernel
theorem fx_127_369 : xins 127 369 = (2, 0, 8, 2) := by decide +kernel
theorem fx_127_371 : xins 127 371 = (10, 0, 3, 388) := by decide +kernel
theorem fx_127_374 : xins 127 374 = (3, 0, 0, 1) := by decide +kernel
theorem fx_127_375 : xins 127 375 = (12, 679, 7, 18) := by decide +kernel
theorem fx_127_378 : xins 127 378 = (2, 0, 10, 2) := by decide +kernel
theorem fx_127_380 : xins 127 380 = (1, 1, 1, 0) := by decide +kernel
theorem fx_127_381 : xins 127 381 = (2, 0, 11, 2) := by decide +kernel
theorem fx_127_383 : xins 127 383 = (7, 0, 8, 0) := by decide +kernel
theorem fx_127_384 : xins 127 384 = (7, 0, 6, 0) := by decide +kernel
theorem fx_127_385 : xins 127 385 = (14, 0, 0, 0) := by decide +kernel
theorem fx_127_386 : xins 127 386 = (4, 0, 8, 2) := by decide +kernel
theorem fx_127_388 : xins 127 388 = (6, 1, 11, 0) := by decide +kernel
theorem fx_127_391 : xins 127 391 = (11, 0, 0, 304) := by decide +kernel
theorem fx_127_394 : xins 127 394 = (6, 1, 9, 0) := by decide +kernel
theorem fx_127_397 : xins 127 397 = (11, 0, 0, 161) := by decide +kernel
theorem fx_127_400 : xins 127 400 = (3, 0, 0, 1) := by decide +kernel
theorem fx_127_401 : xins 127 401 = (12, 679, 7, 18) := by decide +kernel
theorem fx_127_404 : xins 127 404 = (1, 4096, 3, 0) := by decide +kernel
theorem fx_127_407 : xins 127 407 = (2, 0, 1, 1) := by decide +kernel
theorem fx_127_408 : xins 127 408 = (7, 0, 2, 0) := by decide +kernel
theorem fx_127_409 : xins 127 409 = (2, 0, 6, 2) := by decide +kernel
theorem fx_127_411 : xins 127 411 = (7, 0, 0, 0) := by decide +kernel
theorem fx_127_412 : xins 127 412 = (2, 0, 8, 2) := by decide +kernel
theorem fx_127_414 : xins 127 414 = (15, 0, 0, 0) := by decide +kernel
theorem fx_127_415 : xins 127 415 = (6, 1, 6, 0) := by decide +kernel
theorem fx_127_418 : xins 127 418 = (11, 0, 0, 114) := by decide +kernel
theorem fx_127_421 : xins 127 421 = (6, (-1), 1, 0) := by decide +kernel
theorem fx_127_424 : xins 127 424 = (11, 0, 0, 15) := by decide +kernel
theorem fx_127_427 : xins 127 427 = (3, 0, 0, 1) := by decide +kernel
theorem fx_127_428 : xins 127 428 = (12, 679, 7, 18) := by decide +kernel
theorem fx_127_431 : xins 127 431 = (1, 0, 1, 0) := by decide +kernel
theorem fx_127_432 : xins 127 432 = (14, 0, 0, 0) := by decide +kernel
theorem fx_127_433 : xins 127 433 = (1, 1000, 3, 0) := by decide +kernel
theorem fx_127_436 : xins 127 436 = (7, 0, 4, 0) := by decide +kernel
theorem fx_127_437 : xins 127 437 = (29, 0, 0, 0) := by decide +kernel
theorem xq_128 : xnth xprog 128 [] = xk_128 := rfl
theorem fx_128_0 : xins 128 0 = (19, 80, 6, 0) := by decide +kernel
theorem fx_128_3 : xins 128 3 = (23, 0, 0, 0) := by decide +kernel
theorem fx_128_4 : xins 128 4 = (28, 82, 0, 1) := by decide +kernel
theorem fx_128_7 : xins 128 7 = (5, 0, 1, 1) := by decide +kernel
theorem fx_128_8 : xins 128 8 = (19, 655, 7, 0) := by decide +kernel
theorem fx_128_11 : xins 128 11 = (23, 0, 0, 0) := by decide +kernel
theorem fx_128_12 : xins 128 12 = (28, 657, 91, 1) := by decide +kernel
theorem fx_128_15 : xins 128 15 = (5, 0, 2, 1) := by decide +kernel
theorem fx_128_16 : xins 128 16 = (1, 0, 1, 0) := by decide +kernel
theorem fx_128_17 : xins 128 17 = (4, 0, 3, 1) := by decide +kernel
theorem fx_128_18 : xins 128 18 = (2, 0, 3, 1) := by decide +kernel
theorem fx_128_19 : xins 128 19 = (3, 0, 0, 1) := by decide +kernel
theorem fx_128_20 : xins 128 20 = (18, 0, 0, 0) := by decide +kernel
theorem fx_128_21 : xins 128 21 = (1, 5, 1, 0) := by decide +kernel
theorem fx_128_22 : xins 128 22 = (7, 0, 1, 0) := by decide +kernel
theorem fx_128_23 : xins 128 23 = (10, 0, 4, 596) := by decide +kernel
theorem fx_128_26 : xins 128 26 = (3, 0, 0, 1) := by decide +kernel
theorem fx_128_27 : xins 128 27 = (2, 0, 3, 1) := by decide +kernel
theorem fx_128_28 : xins 128 28 = (14, 0, 0, 0) := by decide +kernel
theorem fx_128_29 : xins 128 29 = (1, 15, 2, 0) := by decide +kernel
theorem fx_128_31 : xins 128 31 = (7, 0, 5, 0) := by decide +kernel
theorem fx_128_32 : xins 128 32 = (32, 0, 590, 80) := by decide +kernel
theorem fx_128_112 : xins 128 112 = (3, 0, 1, 1) := by decide +kernel
theorem fx_128_113 : xins 128 113 = (3, 0, 0, 1) := by decide +kernel
theorem fx_128_114 : xins 128 114 = (2, 0, 3, 1) := by decide +kernel
theorem fx_128_115 : xins 128 115 = (1, 1, 1, 0) := by decide +kernel
theorem fx_128_116 : xins 128 116 = (7, 0, 0, 0) := by decide +kernel
theorem fx_128_117 : xins 128 117 = (14, 0, 0, 0) := by decide +kernel
theorem fx_128_118 : xins 128 118 = (3, 0, 0, 1) := by decide +kernel
theorem fx_128_119 : xins 128 119 = (2, 0, 3, 1) := by decide +kernel
theorem fx_128_120 : xins 128 120 = (1, 2, 1, 0) := by decide +kernel
theorem fx_128_121 : xins 128 121 = (7, 0, 0, 0) := by decide +kernel
theorem fx_128_122 : xins 128 122 = (14, 0, 0, 0) := by decide +kernel
theorem fx_128_123 : xins 128 123 = (3, 0, 0, 1) := by decide +kernel
theorem fx_128_124 : xins 128 124 = (2, 0, 3, 1) := by decide +kernel
theorem fx_128_125 : xins 128 125 = (1, 3, 1, 0) := by decide +kernel
theorem fx_128_126 : xins 128 126 = (7, 0, 0, 0) := by decide +kernel
theorem fx_128_127 : xins 128 127 = (14, 0, 0, 0) := by decide +kernel
theorem fx_128_128 : xins 128 128 = (28, 281, 8, 4) := by decide +kernel
theorem fx_128_131 : xins 128 131 = (3, 0, 2, 1) := by decide +kernel
theorem fx_128_132 : xins 128 132 = (3, 0, 0, 1) := by decide +kernel
theorem fx_128_133 : xins 128 133 = (2, 0, 3, 1) := by decide +kernel
theorem fx_128_134 : xins 128 134 = (1, 1, 1, 0) := by decide +kernel
theorem fx_128_135 : xins 128 135 = (7, 0, 0, 0) := by decide +kernel
theorem fx_128_136 : xins 128 136 = (14, 0, 0, 0) := by decide +kernel
theorem fx_128_137 : xins 128 137 = (3, 0, 0, 1) := by decide +kernel
theorem fx_128_138 : xins 128 138 = (2, 0, 3, 1) := by decide +kernel
theorem fx_128_139 : xins 128 139 = (1, 2, 1, 0) := by decide +kernel
theorem fx_128_140 : xins 128 140 = (7, 0, 0, 0) := by decide +kernel
theorem fx_128_141 : xins 128 141 = (14, 0, 0, 0) := by decide +kernel
theorem fx_128_142 : xins 128 142 = (3, 0, 0, 1) := by decide +kernel
theorem fx_128_143 : xins 128 143 = (2, 0, 3, 1) := by decide +kernel
theorem fx_128_144 : xins 128 144 = (1, 3, 1, 0) := by decide +kernel
theorem fx_128_145 : xins 128 145 = (7, 0, 0, 0) := by decide +kernel
theorem fx_128_146 : xins 128 146 = (14, 0, 0, 0) := by decide +kernel
theorem fx_128_147 : xins 128 147 = (28, 739, 94, 4) := by decide +kernel
theorem fx_128_150 : xins 128 150 = (10, 0, 0, 590) := by decide +kernel
theorem fx_128_153 : xins 128 153 = (1, 0, 1, 0) := by decide +kernel
theorem fx_128_154 : xins 128 154 = (29, 0, 0, 0) := by decide +kernel
theorem fx_128_155 : xins 128 155 = (3, 0, 1, 1) := by decide +kernel
theorem fx_128_156 : xins 128 156 = (3, 0, 0, 1) := by decide +kernel
theorem fx_128_157 : xins 128 157 = (2, 0, 3, 1) := by decide +kernel
theorem fx_128_158 : xins 128 158 = (1, 1, 1, 0) := by decide +kernel
theorem fx_128_159 : xins 128 159 = (7, 0, 0, 0) := by decide +kernel
theorem fx_128_160 : xins 128 160 = (14, 0, 0, 0) := by decide +kernel
theorem fx_128_161 : xins 128 161 = (28, 318, 17, 2) := by decide +kernel
theorem fx_128_164 : xins 128 164 = (3, 0, 2, 1) := by decide +kernel
theorem fx_128_165 : xins 128 165 = (3, 0, 0, 1) := by decide +kernel
theorem fx_128_166 : xins 128 166 = (2, 0, 3, 1) := by decide +kernel
theorem fx_128_167 : xins 128 167 = (1, 1, 1, 0) := by decide +kernel
theorem fx_128_168 : xins 128 168 = (7, 0, 0, 0) := by decide +kernel
theorem fx_128_169 : xins 128 169 = (14, 0, 0, 0) := by decide +kernel
theorem fx_128_170 : xins 128 170 = (28, 747, 96, 2) := by decide +kernel
theorem fx_128_173 : xins 128 173 = (10, 0, 0, 590) := by decide +kernel
theorem fx_128_176 : xins 128 176 = (1, 0, 1, 0) := by decide +kernel
theorem fx_128_177 : xins 128 177 = (29, 0, 0, 0) := by decide +kernel
theorem fx_128_178 : xins 128 178 = (3, 0, 1, 1) := by decide +kernel
theorem fx_128_179 : xins 128 179 = (3, 0, 0, 1) := by decide +kernel
theorem fx_128_180 : xins 128 180 = (2, 0, 3, 1) := by decide +kernel
theorem fx_128_181 : xins 128 181 = (1, 1, 1, 0) := by decide +kernel
theorem fx_128_182 : xins 128 182 = (7, 0, 0, 0) := by decide +kernel
theorem fx_128_183 : xins 128 183 = (14, 0, 0, 0) := by decide +kernel
theorem fx_128_184 : xins 128 184 = (3, 0, 0, 1) := by decide +kernel
theorem fx_128_185 : xins 128 185 = (2, 0, 3, 1) := by decide +kernel
theorem fx_128_186 : xins 128 186 = (1, 2, 1, 0) := by decide +kernel
theorem fx_128_187 : xins 128 187 = (7, 0, 0, 0) := by decide +kernel
theorem fx_128_188 : xins 128 188 = (14, 0, 0, 0) := by decide +kernel
theorem fx_128_189 : xins 128 189 = (28, 330, 20, 3) := by decide +kernel
theorem fx_128_192 : xins 128 192 = (3, 0, 2, 1) := by decide +kernel
theorem fx_128_193 : xins 128 193 = (3, 0, 0, 1) := by decide +kernel
theorem fx_128_194 : xins 128 194 = (2, 0, 3, 1) := by decide +kernel
theorem fx_128_195 : xins 128 195 = (1, 1, 1, 0) := by decide +kernel
theorem fx_128_196 : xins 128 196 = (7, 0, 0, 0) := by decide +kernel
theorem fx_128_197 : xins 128 197 = (14, 0, 0, 0) := by decide +kernel
theorem fx_128_198 : xins 128 198 = (3, 0, 0, 1) := by decide +kernel
theorem fx_128_199 : xins 128 199 = (2, 0, 3, 1) := by decide +kernel
theorem fx_128_200 : xins 128 200 = (1, 2, 1, 0) := by decide +kernel
theorem fx_128_201 : xins 128 201 = (7, 0, 0, 0) := by decide +kernel
theorem fx_128_202 : xins 128 202 = (14, 0, 0, 0) := by decide +kernel
theorem fx_128_203 : xins 128 203 = (28, 763, 100, 3) := by decide +kernel
theorem fx_128_206 : xins 128 206 = (10, 0, 0, 590) := by decide +kernel
theorem fx_128_209 : xins 128 209 = (1, 0, 1, 0) := by decide +kernel
theorem fx_128_210 : xins 128 210 = (29, 0, 0, 0) := by decide +kernel
theorem fx_128_211 : xins 128 211 = (3, 0, 1, 1) := by decide +kernel
theorem fx_128_212 : xins 128 212 = (3, 0, 0, 1) := by decide +kernel
theorem fx_128_213 : xins 128 213 = (2, 0, 3, 1) := by decide +kernel
theorem fx_128_214 : xins 128 214 = (1, 1, 1, 0) := by decide +kernel
theorem fx_128_215 : xins 128 215 = (7, 0, 0, 0) := by decide +kernel
theorem fx_128_216 : xins 128 216 = (14, 0, 0, 0) := by decide +kernel
theorem fx_128_217 : xins 128 217 = (3, 0, 0, 1) := by decide +kernel
theorem fx_128_218 : xins 128 218 = (2, 0, 3, 1) := by decide +kernel
theorem fx_128_219 : xins 128 219 = (1, 2, 1, 0) := by decide +kernel
theorem fx_128_220 : xins 128 220 = (7, 0, 0, 0) := by decide +kernel
theorem fx_128_221 : xins 128 221 = (14, 0, 0, 0) := by decide +kernel
theorem fx_128_222 : xins 128 222 = (28, 334, 21, 3) := by decide +kernel
theorem fx_128_225 : xins 128 225 = (3, 0, 2, 1) := by decide +kernel
theorem fx_128_226 : xins 128 226 = (3, 0, 0, 1) := by decide +kernel
theorem fx_128_227 : xins 128 227 = (2, 0, 3, 1) := by decide +kernel
theorem fx_128_228 : xins 128 228 = (1, 1, 1, 0) := by decide +kernel
theorem fx_128_229 : xins 128 229 = (7, 0, 0, 0) := by decide +kernel
theorem fx_128_230 : xins 128 230 = (14, 0, 0, 0) := by decide +kernel
theorem fx_128_231 : xins 128 231 = (3, 0, 0, 1) := by decide +kernel
theorem fx_128_232 : xins 128 232 = (2, 0, 3, 1) := by decide +kernel
theorem fx_128_233 : xins 128 233 = (1, 2, 1, 0) := by decide +kernel
theorem fx_128_234 : xins 128 234 = (7, 0, 0, 0) := by decide +kernel
theorem fx_128_235 : xins 128 235 = (14, 0, 0, 0) := by decide +kernel
theorem fx_128_236 : xins 128 236 = (28, 767, 101, 3) := by decide +kernel
theorem fx_128_239 : xins 128 239 = (10, 0, 0, 590) := by decide +kernel
theorem fx_128_242 : xins 128 242 = (1, 0, 1, 0) := by decide +kernel
theorem fx_128_243 : xins 128 243 = (29, 0, 0, 0) := by decide +kernel
theorem fx_128_244 : xins 128 244 = (3, 0, 1, 1) := by decide +kernel
theorem fx_128_245 : xins 128 245 = (3, 0, 0, 1) := by decide +kernel
theorem fx_128_246 : xins 128 246 = (2, 0, 3, 1) := by decide +kernel
theorem fx_128_247 : xins 128 247 = (1, 1, 1, 0) := by decide +kernel
theorem fx_128_248 : xins 128 248 = (7, 0, 0, 0) := by decide +kernel
theorem fx_128_249 : xins 128 249 = (14, 0, 0, 0) := by decide +kernel
theorem fx_128_250 : xins 128 250 = (3, 0, 0, 1) := by decide +kernel
theorem fx_128_251 : xins 128 251 = (2, 0, 3, 1) := by decide +kernel
theorem fx_128_252 : xins 128 252 = (1, 2, 1, 0) := by decide +kernel
theorem fx_128_253 : xins 128 253 = (7, 0, 0, 0) := by decide +kernel
theorem fx_128_254 : xins 128 254 = (14, 0, 0, 0) := by decide +kernel
theorem fx_128_255 : xins 128 255 = (28, 338, 22, 3) := by decide +kernel
theorem fx_128_258 : xins 128 258 = (3, 0, 2, 1) := by decide +kernel
theorem fx_128_259 : xins 128 259 = (3, 0, 0, 1) := by decide +kernel
theorem fx_128_260 : xins 128 260 = (2, 0, 3, 1) := by decide +kernel
theorem fx_128_261 : xins 128 261 = (1, 1, 1, 0) := by decide +kernel
theorem fx_128_262 : xins 128 262 = (7, 0, 0, 0) := by decide +kernel
theorem fx_128_263 : xins 128 263 = (14, 0, 0, 0) := by decide +kernel
theorem fx_128_264 : xins 128 264 = (3, 0, 0, 1) := by decide +kernel
theorem fx_128_265 : xins 128 265 = (2, 0, 3, 1) := by decide +kernel
theorem fx_128_266 : xins 128 266 = (1, 2, 1, 0) := by decide +kernel
theorem fx_128_267 : xins 128 267 = (7, 0, 0, 0) := by decide +kernel
theorem fx_128_268 : xins 128 268 = (14, 0, 0, 0) := by decide +kernel
theorem fx_128_269 : xins 128 269 = (28, 771, 102, 3) := by decide +kernel
theorem fx_128_272 : xins 128 272 = (10, 0, 0, 590) := by decide +kernel
theorem fx_128_275 : xins 128 275 = (1, 0, 1, 0) := by decide +kernel
theorem fx_128_276 : xins 128 276 = (29, 0, 0, 0) := by decide +kernel
theorem fx_128_277 : xins 128 277 = (3, 0, 1, 1) := by decide +kernel
theorem fx_128_278 : xins 128 278 = (3, 0, 0, 1) := by decide +kernel
theorem fx_128_279 : xins 128 279 = (2, 0, 3, 1) := by decide +kernel
theorem fx_128_280 : xins 128 280 = (1, 1, 1, 0) := by decide +kernel
theorem fx_128_281 : xins 128 281 = (7, 0, 0, 0) := by decide +kernel
theorem fx_128_282 : xins 128 282 = (14, 0, 0, 0) := by decide +kernel
theorem fx_128_283 : xins 128 283 = (3, 0, 0, 1) := by decide +kernel
theorem fx_128_284 : xins 128 284 = (2, 0, 3, 1) := by decide +kernel
theorem fx_128_285 : xins 128 285 = (1, 2, 1, 0) := by decide +kernel
theorem fx_128_286 : xins 128 286 = (7, 0, 0, 0) := by decide +kernel
theorem fx_128_287 : xins 128 287 = (14, 0, 0, 0) := by decide +kernel
theorem fx_128_288 : xins 128 288 = (3, 0, 0, 1) := by decide +kernel
theorem fx_128_289 : xins 128 289 = (2, 0, 3, 1) := by decide +kernel
theorem fx_128_290 : xins 128 290 = (1, 3, 1, 0) := by decide +kernel
theorem fx_128_291 : xins 128 291 = (7, 0, 0, 0) := by decide +kernel
theorem fx_128_292 : xins 128 292 = (14, 0, 0, 0) := by decide +kernel
theorem fx_128_293 : xins 128 293 = (28, 344, 23, 4) := by decide +kernel
theorem fx_128_296 : xins 128 296 = (3, 0, 2, 1) := by decide +kernel
theorem fx_128_297 : xins 128 297 = (3, 0, 0, 1) := by decide +kernel
theorem fx_128_298 : xins 128 298 = (2, 0, 3, 1) := by decide +kernel
theorem fx_128_299 : xins 128 299 = (1, 1, 1, 0) := by decide +kernel
theorem fx_128_300 : xins 128 300 = (7, 0, 0, 0) := by decide +kernel
theorem fx_128_301 : xins 128 301 = (14, 0, 0, 0) := by decide +kernel
theorem fx_128_302 : xins 128 302 = (3, 0, 0, 1) := by decide +kernel
theorem fx_128_303 : xins 128 303 = (2, 0, 3, 1) := by decide +kernel
theorem fx_128_304 : xins 128 304 = (1, 2, 1, 0) := by decide +kernel
theorem fx_128_305 : xins 128 305 = (7, 0, 0, 0) := by decide +kernel
theorem fx_128_306 : xins 128 306 = (14, 0, 0, 0) := by decide +kernel
theorem fx_128_307 : xins 128 307 = (3, 0, 0, 1) := by decide +kernel
theorem fx_128_308 : xins 128 308 = (2, 0, 3, 1) := by decide +kernel
theorem fx_128_309 : xins 128 309 = (1, 3, 1, 0) := by decide +kernel
theorem fx_128_310 : xins 128 310 = (7, 0, 0, 0) := by decide +kernel
theorem fx_128_311 : xins 128 311 = (14, 0, 0, 0) := by decide +kernel
theorem fx_128_312 : xins 128 312 = (28, 775, 103, 4) := by decide +kernel
theorem fx_128_315 : xins 128 315 = (10, 0, 0, 590) := by decide +kernel
theorem fx_128_318 : xins 128 318 = (1, 0, 1, 0) := by decide +kernel
theorem fx_128_319 : xins 128 319 = (29, 0, 0, 0) := by decide +kernel
theorem fx_128_320 : xins 128 320 = (3, 0, 1, 1) := by decide +kernel
theorem fx_128_321 : xins 128 321 = (3, 0, 0, 1) := by decide +kernel
theorem fx_128_322 : xins 128 322 = (2, 0, 3, 1) := by decide +kernel
theorem fx_128_323 : xins 128 323 = (1, 1, 1, 0) := by decide +kernel
theorem fx_128_324 : xins 128 324 = (7, 0, 0, 0) := by decide +kernel
theorem fx_128_325 : xins 128 325 = (14, 0, 0, 0) := by decide +kernel
theorem fx_128_326 : xins 128 326 = (3, 0, 0, 1) := by decide +kernel
theorem fx_128_327 : xins 128 327 = (2, 0, 3, 1) := by decide +kernel
theorem fx_128_328 : xins 128 328 = (1, 2, 1, 0) := by decide +kernel
theorem fx_128_329 : xins 128 329 = (7, 0, 0, 0) := by decide +kernel
theorem fx_128_330 : xins 128 330 = (14, 0, 0, 0) := by decide +kernel
theorem fx_128_331 : xins 128 331 = (3, 0, 0, 1) := by decide +kernel
theorem fx_128_332 : xins 128 332 = (2, 0, 3, 1) := by decide +kernel
theorem fx_128_333 : xins 128 333 = (1, 3, 1, 0) := by decide +kernel
theorem fx_128_334 : xins 128 334 = (7, 0, 0, 0) := by decide +kernel
theorem fx_128_335 : xins 128 335 = (14, 0, 0, 0) := by decide +kernel
theorem fx_128_336 : xins 128 336 = (28, 348, 24, 4) := by decide +kernel
theorem fx_128_339 : xins 128 339 = (3, 0, 2, 1) := by decide +kernel
theorem fx_128_340 : xins 128 340 = (3, 0, 0, 1) := by decide +kernel
theorem fx_128_341 : xins 128 341 = (2, 0, 3, 1) := by decide +kernel
theorem fx_128_342 : xins 128 342 = (1, 1, 1, 0) := by decide +kernel
theorem fx_128_343 : xins 128 343 = (7, 0, 0, 0) := by decide +kernel
theorem fx_128_344 : xins 128 344 = (14, 0, 0, 0) := by decide +kernel
theorem fx_128_345 : xins 128 345 = (3, 0, 0, 1) := by decide +kernel
theorem fx_128_346 : xins 128 346 = (2, 0, 3, 1) := by decide +kernel
theorem fx_128_347 : xins 128 347 = (1, 2, 1, 0) := by decide +kernel
theorem fx_128_348 : xins 128 348 = (7, 0, 0, 0) := by decide +kernel
theorem fx_128_349 : xins 128 349 = (14, 0, 0, 0) := by decide +kernel
theorem fx_128_350 : xins 128 350 = (3, 0, 0, 1) := by decide +kernel
theorem fx_128_351 : xins 128 351 = (2, 0, 3, 1) := by decide +kernel
theorem fx_128_352 : xins 128 352 = (1, 3, 1, 0) := by decide +kernel
theorem fx_128_353 : xins 128 353 = (7, 0, 0, 0) := by decide +kernel
theorem fx_128_354 : xins 128 354 = (14, 0, 0, 0) := by decide +kernel
theorem fx_128_355 : xins 128 355 = (28, 779, 104, 4) := by decide +kernel
theorem fx_128_358 : xins 128 358 = (10, 0, 0, 590) := by decide +kernel
theorem fx_128_361 : xins 128 361 = (1, 0, 1, 0) := by decide +kernel
theorem fx_128_362 : xins 128 362 = (29, 0, 0, 0) := by decide +kernel
theorem fx_128_363 : xins 128 363 = (3, 0, 1, 1) := by decide +kernel
theorem fx_128_364 : xins 128 364 = (3, 0, 0, 1) := by decide +kernel
theorem fx_128_365 : xins 128 365 = (2, 0, 3, 1) := by decide +kernel
theorem fx_128_366 : xins 128 366 = (1, 1, 1, 0) := by decide +kernel
theorem fx_128_367 : xins 128 367 = (7, 0, 0, 0) := by decide +kernel
theorem fx_128_368 : xins 128 368 = (14, 0, 0, 0) := by decide +kernel
theorem fx_128_369 : xins 128 369 = (28, 362, 27, 2) := by decide +kernel
theorem fx_128_372 : xins 128 372 = (3, 0, 2, 1) := by decide +kernel
theorem fx_128_373 : xins 128 373 = (3, 0, 0, 1) := by decide +kernel
theorem fx_128_374 : xins 128 374 = (2, 0, 3, 1) := by decide +kernel
theorem fx_128_375 : xins 128 375 = (1, 1, 1, 0) := by decide +kernel
theorem fx_128_376 : xins 128 376 = (7, 0, 0, 0) := by decide +kernel
theorem fx_128_377 : xins 128 377 = (14, 0, 0, 0) := by decide +kernel
theorem fx_128_378 : xins 128 378 = (28, 796, 108, 2) := by decide +kernel
theorem fx_128_381 : xins 128 381 = (10, 0, 0, 590) := by decide +kernel
theorem fx_128_384 : xins 128 384 = (1, 0, 1, 0) := by decide +kernel
theorem fx_128_385 : xins 128 385 = (29, 0, 0, 0) := by decide +kernel
theorem fx_128_386 : xins 128 386 = (3, 0, 1, 1) := by decide +kernel
theorem fx_128_387 : xins 128 387 = (3, 0, 0, 1) := by decide +kernel
theorem fx_128_388 : xins 128 388 = (2, 0, 3, 1) := by decide +kernel
theorem fx_128_389 : xins 128 389 = (1, 1, 1, 0) := by decide +kernel
theorem fx_128_390 : xins 128 390 = (7, 0, 0, 0) := by decide +kernel
theorem fx_128_391 : xins 128 391 = (14, 0, 0, 0) := by decide +kernel
theorem fx_128_392 : xins 128 392 = (3, 0, 0, 1) := by decide +kernel
theorem fx_128_393 : xins 128 393 = (2, 0, 3, 1) := by decide +kernel
theorem fx_128_394 : xins 128 394 = (1, 2, 1, 0) := by decide +kernel
theorem fx_128_395 : xins 128 395 = (7, 0, 0, 0) := by decide +kernel
theorem fx_128_396 : xins 128 396 = (14, 0, 0, 0) := by decide +kernel
theorem fx_128_397 : xins 128 397 = (28, 393, 34, 3) := by decide +kernel
theorem fx_128_400 : xins 128 400 = (3, 0, 2, 1) := by decide +kernel
theorem fx_128_401 : xins 128 401 = (3, 0, 0, 1) := by decide +kernel
theorem fx_128_402 : xins 128 402 = (2, 0, 3, 1) := by decide +kernel
theorem fx_128_403 : xins 128 403 = (1, 1, 1, 0) := by decide +kernel
theorem fx_128_404 : xins 128 404 = (7, 0, 0, 0) := by decide +kernel
theorem fx_128_405 : xins 128 405 = (14, 0, 0, 0) := by decide +kernel
theorem fx_128_406 : xins 128 406 = (3, 0, 0, 1) := by decide +kernel
theorem fx_128_407 : xins 128 407 = (2, 0, 3, 1) := by decide +kernel
theorem fx_128_408 : xins 128 408 = (1, 2, 1, 0) := by decide +kernel
theorem fx_128_409 : xins 128 409 = (7, 0, 0, 0) := by decide +kernel
theorem fx_128_410 : xins 128 410 = (14, 0, 0, 0) := by decide +kernel
theorem fx_128_411 : xins 128 411 = (28, 808, 111, 3) := by decide +kernel
theorem fx_128_414 : xins 128 414 = (10, 0, 0, 590) := by decide +kernel
theorem fx_128_417 : xins 128 417 = (1, 0, 1, 0) := by decide +kernel
theorem fx_128_418 : xins 128 418 = (29, 0, 0, 0) := by decide +kernel
theorem fx_128_419 : xins 128 419 = (3, 0, 1, 1) := by decide +kernel
theorem fx_128_420 : xins 128 420 = (3, 0, 0, 1) := by decide +kernel
theorem fx_128_421 : xins 128 421 = (2, 0, 3, 1) := by decide +kernel
theorem fx_128_422 : xins 128 422 = (1, 1, 1, 0) := by decide +kernel
theorem fx_128_423 : xins 128 423 = (7, 0, 0, 0) := by decide +kernel
theorem fx_128_424 : xins 128 424 = (14, 0, 0, 0) := by decide +kernel
theorem fx_128_425 : xins 128 425 = (3, 0, 0, 1) := by decide +kernel
theorem fx_128_426 : xins 128 426 = (2, 0, 3, 1) := by decide +kernel
theorem fx_128_427 : xins 128 427 = (1, 2, 1, 0) := by decide +kernel
theorem fx_128_428 : xins 128 428 = (7, 0, 0, 0) := by decide +kernel
theorem fx_128_429 : xins 128 429 = (14, 0, 0, 0) := by decide +kernel
theorem fx_128_430 : xins 128 430 = (3, 0, 0, 1) := by decide +kernel
theorem fx_128_431 : xins 128 431 = (2, 0, 3, 1) := by decide +kernel
theorem fx_128_432 : xins 128 432 = (1, 3, 1, 0) := by decide +kernel
theorem fx_128_433 : xins 128 433 = (7, 0, 0, 0) := by decide +kernel
theorem fx_128_434 : xins 128 434 = (14, 0, 0, 0) := by decide +kernel
theorem fx_128_435 : xins 128 435 = (28, 398, 35, 4) := by decide +kernel
theorem fx_128_438 : xins 128 438 = (3, 0, 2, 1) := by decide +kernel
theorem fx_128_439 : xins 128 439 = (3, 0, 0, 1) := by decide +kernel
theorem fx_128_440 : xins 128 440 = (2, 0, 3, 1) := by decide +kernel
theorem fx_128_441 : xins 128 441 = (1, 1, 1, 0) := by decide +kernel
theorem fx_128_442 : xins 128 442 = (7, 0, 0, 0) := by decide +kernel
theorem fx_128_443 : xins 128 443 = (14, 0, 0, 0) := by decide +kernel
theorem fx_128_444 : xins 128 444 = (3, 0, 0, 1) := by decide +kernel
theorem fx_128_445 : xins 128 445 = (2, 0, 3, 1) := by decide +kernel
theorem fx_128_446 : xins 128 446 = (1, 2, 1, 0) := by decide +kernel
theorem fx_128_447 : xins 128 447 = (7, 0, 0, 0) := by decide +kernel
theorem fx_128_448 : xins 128 448 = (14, 0, 0, 0) := by decide +kernel
theorem fx_128_449 : xins 128 449 = (3, 0, 0, 1) := by decide +kernel
theorem fx_128_450 : xins 128 450 = (2, 0, 3, 1) := by decide +kernel
theorem fx_128_451 : xins 128 451 = (1, 3, 1, 0) := by decide +kernel
theorem fx_128_452 : xins 128 452 = (7, 0, 0, 0) := by decide +kernel
theorem fx_128_453 : xins 128 453 = (14, 0, 0, 0) := by decide +kernel
theorem fx_128_454 : xins 128 454 = (28, 812, 112, 4) := by decide +kernel
theorem fx_128_457 : xins 128 457 = (10, 0, 0, 590) := by decide +kernel
theorem fx_128_460 : xins 128 460 = (1, 0, 1, 0) := by decide +kernel
theorem fx_128_461 : xins 128 461 = (29, 0, 0, 0) := by decide +kernel
theorem fx_128_462 : xins 128 462 = (3, 0, 1, 1) := by decide +kernel
theorem fx_128_463 : xins 128 463 = (3, 0, 0, 1) := by decide +kernel
theorem fx_128_464 : xins 128 464 = (2, 0, 3, 1) := by decide +kernel
theorem fx_128_465 : xins 128 465 = (1, 1, 1, 0) := by decide +kernel
theorem fx_128_466 : xins 128 466 = (7, 0, 0, 0) := by decide +kernel
theorem fx_128_467 : xins 128 467 = (14, 0, 0, 0) := by decide +kernel
theorem fx_128_468 : xins 128 468 = (3, 0, 0, 1) := by decide +kernel
theorem fx_128_469 : xins 128 469 = (2, 0, 3, 1) := by decide +kernel
theorem fx_128_470 : xins 128 470 = (1, 2, 1, 0) := by decide +kernel
theorem fx_128_471 : xins 128 471 = (7, 0, 0, 0) := by decide +kernel
theorem fx_128_472 : xins 128 472 = (14, 0, 0, 0) := by decide +kernel
theorem fx_128_473 : xins 128 473 = (3, 0, 0, 1) := by decide +kernel
theorem fx_128_474 : xins 128 474 = (2, 0, 3, 1) := by decide +kernel
theorem fx_128_475 : xins 128 475 = (1, 3, 1, 0) := by decide +kernel
theorem fx_128_476 : xins 128 476 = (7, 0, 0, 0) := by decide +kernel
theorem fx_128_477 : xins 128 477 = (14, 0, 0, 0) := by decide +kernel
theorem fx_128_478 : xins 128 478 = (3, 0, 0, 1) := by decide +kernel
theorem fx_128_479 : xins 128 479 = (2, 0, 3, 1) := by decide +kernel
theorem fx_128_480 : xins 128 480 = (1, 4, 1, 0) := by decide +kernel
theorem fx_128_481 : xins 128 481 = (7, 0, 0, 0) := by decide +kernel
theorem fx_128_482 : xins 128 482 = (14, 0, 0, 0) := by decide +kernel
theorem fx_128_483 : xins 128 483 = (28, 427, 42, 5) := by decide +kernel
theorem fx_128_486 : xins 128 486 = (3, 0, 2, 1) := by decide +kernel
theorem fx_128_487 : xins 128 487 = (3, 0, 0, 1) := by decide +kernel
theorem fx_128_488 : xins 128 488 = (2, 0, 3, 1) := by decide +kernel
theorem fx_128_489 : xins 128 489 = (1, 1, 1, 0) := by decide +kernel
theorem fx_128_490 : xins 128 490 = (7, 0, 0, 0) := by decide +kernel
theorem fx_128_491 : xins 128 491 = (14, 0, 0, 0) := by decide +kernel
theorem fx_128_492 : xins 128 492 = (3, 0, 0, 1) := by decide +kernel
theorem fx_128_493 : xins 128 493 = (2, 0, 3, 1) := by decide +kernel
theorem fx_128_494 : xins 128 494 = (1, 2, 1, 0) := by decide +kernel
theorem fx_128_495 : xins 128 495 = (7, 0, 0, 0) := by decide +kernel
theorem fx_128_496 : xins 128 496 = (14, 0, 0, 0) := by decide +kernel
theorem fx_128_497 : xins 128 497 = (3, 0, 0, 1) := by decide +kernel
theorem fx_128_498 : xins 128 498 = (2, 0, 3, 1) := by decide +kernel
theorem fx_128_499 : xins 128 499 = (1, 3, 1, 0) := by decide +kernel
theorem fx_128_500 : xins 128 500 = (7, 0, 0, 0) := by decide +kernel
theorem fx_128_501 : xins 128 501 = (14, 0, 0, 0) := by decide +kernel
theorem fx_128_502 : xins 128 502 = (3, 0, 0, 1) := by decide +kernel
theorem fx_128_503 : xins 128 503 = (2, 0, 3, 1) := by decide +kernel
theorem fx_128_504 : xins 128 504 = (1, 4, 1, 0) := by decide +kernel
theorem fx_128_505 : xins 128 505 = (7, 0, 0, 0) := by decide +kernel
theorem fx_128_506 : xins 128 506 = (14, 0, 0, 0) := by decide +kernel
theorem fx_128_507 : xins 128 507 = (28, 825, 115, 5) := by decide +kernel
theorem fx_128_510 : xins 128 510 = (10, 0, 0, 590) := by decide +kernel
theorem fx_128_513 : xins 128 513 = (1, 0, 1, 0) := by decide +kernel
theorem fx_128_514 : xins 128 514 = (29, 0, 0, 0) := by decide +kernel
theorem fx_128_515 : xins 128 515 = (3, 0, 1, 1) := by decide +kernel
theorem fx_128_516 : xins 128 516 = (3, 0, 0, 1) := by decide +kernel
theorem fx_128_517 : xins 128 517 = (2, 0, 3, 1) := by decide +kernel
theorem fx_128_518 : xins 128 518 = (1, 1, 1, 0) := by decide +kernel
theorem fx_128_519 : xins 128 519 = (7, 0, 0, 0) := by decide +kernel
theorem fx_128_520 : xins 128 520 = (14, 0, 0, 0) := by decide +kernel
theorem fx_128_521 : xins 128 521 = (28, 481, 56, 2) := by decide +kernel
theorem fx_128_524 : xins 128 524 = (3, 0, 2, 1) := by decide +kernel
theorem fx_128_525 : xins 128 525 = (3, 0, 0, 1) := by decide +kernel
theorem fx_128_526 : xins 128 526 = (2, 0, 3, 1) := by decide +kernel
theorem fx_128_527 : xins 128 527 = (1, 1, 1, 0) := by decide +kernel
theorem fx_128_528 : xins 128 528 = (7, 0, 0, 0) := by decide +kernel
theorem fx_128_529 : xins 128 529 = (14, 0, 0, 0) := by decide +kernel
theorem fx_128_530 : xins 128 530 = (28, 833, 117, 2) := by decide +kernel
theorem fx_128_533 : xins 128 533 = (10, 0, 0, 590) := by decide +kernel
theorem fx_128_536 : xins 128 536 = (1, 0, 1, 0) := by decide +kernel
theorem fx_128_537 : xins 128 537 = (29, 0, 0, 0) := by decide +kernel
theorem fx_128_538 : xins 128 538 = (3, 0, 1, 1) := by decide +kernel
theorem fx_128_539 : xins 128 539 = (28, 581, 76, 1) := by decide +kernel
theorem fx_128_542 : xins 128 542 = (3, 0, 2, 1) := by decide +kernel
theorem fx_128_543 : xins 128 543 = (28, 861, 124, 1) := by decide +kernel
theorem fx_128_546 : xins 128 546 = (10, 0, 0, 590) := by decide +kernel
theorem fx_128_549 : xins 128 549 = (1, 0, 1, 0) := by decide +kernel
theorem fx_128_550 : xins 128 550 = (29, 0, 0, 0) := by decide +kernel
theorem fx_128_551 : xins 128 551 = (3, 0, 1, 1) := by decide +kernel
theorem fx_128_552 : xins 128 552 = (28, 585, 77, 1) := by decide +kernel
theorem fx_128_555 : xins 128 555 = (3, 0, 2, 1) := by decide +kernel
theorem fx_128_556 : xins 128 556 = (28, 865, 125, 1) := by decide +kernel
theorem fx_128_559 : xins 128 559 = (10, 0, 0, 590) := by decide +kernel
theorem fx_128_562 : xins 128 562 = (1, 0, 1, 0) := by decide +kernel
theorem fx_128_563 : xins 128 563 = (29, 0, 0, 0) := by decide +kernel
theorem fx_128_564 : xins 128 564 = (3, 0, 1, 1) := by decide +kernel
theorem fx_128_565 : xins 128 565 = (28, 615, 82, 1) := by decide +kernel
theorem fx_128_568 : xins 128 568 = (3, 0, 2, 1) := by decide +kernel
theorem fx_128_569 : xins 128 569 = (28, 873, 127, 1) := by decide +kernel
theorem fx_128_572 : xins 128 572 = (10, 0, 0, 590) := by decide +kernel
theorem fx_128_575 : xins 128 575 = (1, 0, 1, 0) := by decide +kernel
theorem fx_128_576 : xins 128 576 = (29, 0, 0, 0) := by decide +kernel
theorem fx_128_577 : xins 128 577 = (3, 0, 1, 1) := by decide +kernel
theorem fx_128_578 : xins 128 578 = (28, 647, 89, 1) := by decide +kernel
theorem fx_128_581 : xins 128 581 = (3, 0, 2, 1) := by decide +kernel
theorem fx_128_582 : xins 128 582 = (28, 731, 92, 1) := by decide +kernel
theorem fx_128_585 : xins 128 585 = (10, 0, 0, 590) := by decide +kernel
theorem fx_128_588 : xins 128 588 = (1, 0, 1, 0) := by decide +kernel
theorem fx_128_589 : xins 128 589 = (29, 0, 0, 0) := by decide +kernel
theorem fx_128_590 : xins 128 590 = (6, 5, 3, 0) := by decide +kernel
theorem fx_128_593 : xins 128 593 = (11, 0, 0, 18) := by decide +kernel
theorem fx_128_596 : xins 128 596 = (1, 1, 1, 0) := by decide +kernel
theorem fx_128_597 : xins 128 597 = (29, 0, 0, 0) := by decide +kernel
end
section
/-! ===== arithmetic of the pure machine ===== -/
theorem xo_nI {x : Int} (h : 0 ≤ x) : Int32.ofInt x = nI x.toNat := by
  unfold nI
  rw [← Int32.ofInt_eq_ofNat]
  congr 1
  omega
theorem xo_nat (n : Nat) : Int32.ofInt (n : Int) = nI n := by rw [xo_nI (by omega)]; rfl
theorem xb_div {x y : Int} (h0 : 0 ≤ x) (h1 : x ≤ 2147483647) (h2 : 0 < y) (h3 : y ≤ 2147483647) : xbin 3 x y = some (x / y) := by
  have hy : ¬ (Int32.ofInt y) = 0 := by rw [xo_nI (by omega)]; exact nI_ne0 (by omega) (by omega)
  have e : xbin 3 x y = if (Int32.ofInt y) = 0 then none else some (Int32.ofInt x / Int32.ofInt y).toInt := rfl
  rw [e, if_neg hy, xo_nI h0, xo_nI (show 0 ≤ y by omega), pk_div (by omega) (by omega) (by omega), nI_toInt (Nat.lt_of_le_of_lt (Nat.div_le_self _ _) (by omega))]
  congr 1
  rw [Int.natCast_ediv, Int.toNat_of_nonneg h0, Int.toNat_of_nonneg (by omega)]
theorem xb_rem {x y : Int} (h0 : 0 ≤ x) (h1 : x ≤ 2147483647) (h2 : 0 < y) (h3 : y ≤ 2147483647) : xbin 4 x y = some (x % y) := by
  have hy : ¬ (Int32.ofInt y) = 0 := by rw [xo_nI (by omega)]; exact nI_ne0 (by omega) (by omega)
  have e : xbin 4 x y = if (Int32.ofInt y) = 0 then none else some (Int32.ofInt x - Int32.ofInt x / Int32.ofInt y * Int32.ofInt y).toInt := rfl
  rw [e, if_neg hy, xo_nI h0, xo_nI (show 0 ≤ y by omega), pk_rem (by omega) (by omega) (by omega), nI_toInt (Nat.lt_of_le_of_lt (Nat.mod_le _ _) (by omega))]
  congr 1
  rw [Int.natCast_emod, Int.toNat_of_nonneg h0, Int.toNat_of_nonneg (by omega)]
theorem xo_toNat {n : Nat} (h : n < 2 ^ 31) : (nI n).toBitVec.toNat = n := pk_tn (by omega)
theorem xi_of_bv {z : Int32} {n : Nat} (h : z.toBitVec.toNat = n) (hn : n < 2 ^ 31) : z.toInt = n := by
  have : z = nI n := by
    apply Int32.toBitVec_inj.mp
    apply BitVec.eq_of_toNat_eq
    rw [h, xo_toNat hn]
  rw [this, nI_toInt hn]
theorem xb_and {x y : Nat} (h1 : x < 2 ^ 31) (h2 : y < 2 ^ 31) : xbin 5 x y = some ((x &&& y : Nat) : Int) := by
  have e : xbin 5 x y = some (Int32.ofInt x &&& Int32.ofInt y).toInt := rfl
  rw [e, xo_nat, xo_nat, xi_of_bv (n := x &&& y) ?_ (Nat.lt_of_le_of_lt Nat.and_le_left h1)]
  rw [Int32.toBitVec_and, BitVec.toNat_and, xo_toNat h1, xo_toNat h2]
theorem xb_or {x y : Nat} (h1 : x < 2 ^ 31) (h2 : y < 2 ^ 31) : xbin 6 x y = some ((x ||| y : Nat) : Int) := by
  have e : xbin 6 x y = some (Int32.ofInt x ||| Int32.ofInt y).toInt := rfl
  rw [e, xo_nat, xo_nat, xi_of_bv (n := x ||| y) ?_ (Nat.or_lt_two_pow h1 h2)]
  rw [Int32.toBitVec_or, BitVec.toNat_or, xo_toNat h1, xo_toNat h2]
theorem xb_xor {x y : Nat} (h1 : x < 2 ^ 31) (h2 : y < 2 ^ 31) : xbin 7 x y = some ((x ^^^ y : Nat) : Int) := by
  have e : xbin 7 x y = some (Int32.ofInt x ^^^ Int32.ofInt y).toInt := rfl
  rw [e, xo_nat, xo_nat, xi_of_bv (n := x ^^^ y) ?_ (Nat.xor_lt_two_pow h1 h2)]
  rw [Int32.toBitVec_xor, BitVec.toNat_xor, xo_toNat h1, xo_toNat h2]
theorem xs_and : ∀ k : Nat, k < 32 → ((nI k &&& 31).toBitVec.smod 32).toNat = k := by decide +kernel
theorem xs_and2 : ∀ k : Nat, k < 32 → nI k &&& 31 = nI k := by decide +kernel
theorem xb_shl {x k : Nat} (hk : k < 32) (h : x * 2 ^ k < 2 ^ 31) : xbin 8 x k = some ((x * 2 ^ k : Nat) : Int) := by
  have e : xbin 8 x k = some (Int32.ofInt x <<< (Int32.ofInt k &&& 31)).toInt := rfl
  rw [e, xo_nat, xo_nat, pk_shlN _ k (xs_and k hk) (by omega), nI_toInt h]
theorem xb_shr {x k : Nat} (hk : k < 32) (h : x < 2 ^ 31) : xbin 9 x k = some ((x / 2 ^ k : Nat) : Int) := by
  have e : xbin 9 x k = some (Int32.ofInt x >>> (Int32.ofInt k &&& 31)).toInt := rfl
  rw [e, xo_nat, xo_nat, pk_shrN h _ k (xs_and k hk), nI_toInt (Nat.lt_of_le_of_lt (Nat.div_le_self _ _) h)]
theorem xs_ush : ∀ k : Nat, k < 32 → (((nI k).toUInt32 &&& Int32.toUInt32 31).toBitVec % 32).toNat = k := by decide +kernel
theorem xb_ushr {x k : Nat} (hk : k < 32) (h : x < 2 ^ 31) : xbin 10 x k = some ((x / 2 ^ k : Nat) : Int) := by
  have e : xbin 10 x k = some ((Int32.ofInt x).toUInt32 >>> ((Int32.ofInt k).toUInt32 &&& Int32.toUInt32 31)).toInt32.toInt := rfl
  rw [e, xo_nat, xo_nat, pk_ushrN (by omega) _ k (xs_ush k hk), nI_toInt (Nat.lt_of_le_of_lt (Nat.div_le_self _ _) h)]
theorem xb_not (x : Int) : xbin 7 x (-1) = some (Int32.ofInt (-x - 1)).toInt := by
  have e : xbin 7 x (-1) = some (Int32.ofInt x ^^^ Int32.ofInt (-1)).toInt := rfl
  rw [e]
  congr 2
  rw [show Int32.ofInt (-x - 1) = -(Int32.ofInt x) - 1 by rw [Int32.ofInt_sub, Int32.ofInt_neg]; rfl]
  rw [show (Int32.ofInt (-1)) = -1 from rfl]
  rw [show Int32.ofInt x ^^^ -1 = ~~~ (Int32.ofInt x) by rw [Int32.xor_neg_one]]
  rw [Int32.not_eq_neg_sub]
/-- x less the bits of y -/
theorem xb_andn {x y : Nat} (h1 : x < 2 ^ 31) (h2 : y < 2 ^ 31) : xbin 5 x (Int32.ofInt (-(y : Int) - 1)).toInt = some ((x ^^^ (x &&& y) : Nat) : Int) := by
  have e : xbin 5 x (Int32.ofInt (-(y : Int) - 1)).toInt = some (Int32.ofInt x &&& Int32.ofInt (Int32.ofInt (-(y : Int) - 1)).toInt).toInt := rfl
  have e2 : Int32.ofInt (-(y : Int) - 1) = ~~~ (nI y) := by
    rw [Int32.ofInt_sub, Int32.ofInt_neg, xo_nat, Int32.not_eq_neg_sub]; rfl
  rw [e, Int32.ofInt_toInt, e2, xo_nat]
  have hlt : x ^^^ (x &&& y) < 2 ^ 31 := Nat.xor_lt_two_pow h1 (Nat.lt_of_le_of_lt Nat.and_le_left h1)
  rw [xi_of_bv (n := x ^^^ (x &&& y)) ?_ hlt]
  rw [Int32.toBitVec_and, Int32.toBitVec_not, BitVec.toNat_and]
  apply Nat.eq_of_testBit_eq
  intro i
  rw [Nat.testBit_and, Nat.testBit_xor, Nat.testBit_and]
  have hb : (~~~ (nI y).toBitVec).toNat.testBit i = (decide (i < 32) && !(y.testBit i)) := by
    rw [← BitVec.getLsbD, BitVec.getLsbD_not, BitVec.getLsbD, xo_toNat h2]
  rw [hb, xo_toNat h1]
  by_cases hi : i < 32
  · simp [hi]
    cases x.testBit i <;> cases y.testBit i <;> rfl
  · have : x.testBit i = false := Nat.testBit_lt_two_pow (Nat.lt_of_lt_of_le h1 (Nat.pow_le_pow_right (by omega) (by omega)))
    simp [this]
end
section
/-! ===== the shapes behind the constructors ===== -/
def SHL (L : Nat) : List xC := [(0, 0, fun _ => 0), (5, L, fun _ => 0), (5, 24, fun _ => 0), (16, 4, fun i => xnth [4, 21, 125, 141] i 0), (14, 8, fun i => xnth [5, 6, 7, 8] i 0), (2, 12, fun i => xnth [9, 10, 11, 12, 13, 14, 15, 16, 17, 18, 19, 20] i 0), (1, 8, fun _ => 0), (1, 4, fun _ => 0), (1, 4, fun _ => 0), (13, 7, fun _ => 0), (13, 7, fun _ => 0), (13, 7, fun _ => 0), (13, 7, fun _ => 0), (13, 7, fun _ => 0), (13, 7, fun _ => 0), (13, 7, fun _ => 0), (13, 7, fun _ => 0), (13, 7, fun _ => 0), (13, 7, fun _ => 0), (13, 7, fun _ => 0), (13, 7, fun _ => 0), (11, 3, fun i => xnth [22] i 0), (3, 6, fun i => xnth [23, 40, 57, 74, 91, 108] i 0), (14, 8, fun i => xnth [24, 25, 26, 27] i 0), (2, 12, fun i => xnth [28, 29, 30, 31, 32, 33, 34, 35, 36, 37, 38, 39] i 0), (1, 8, fun _ => 0), (1, 4, fun _ => 0), (1, 4, fun _ => 0), (13, 7, fun _ => 0), (13, 7, fun _ => 0), (13, 7, fun _ => 0), (13, 7, fun _ => 0), (13, 7, fun _ => 0), (13, 7, fun _ => 0), (13, 7, fun _ => 0), (13, 7, fun _ => 0), (13, 7, fun _ => 0), (13, 7, fun _ => 0), (13, 7, fun _ => 0), (13, 7, fun _ => 0), (14, 8, fun i => xnth [41, 42, 43, 44] i 0), (2, 12, fun i => xnth [45, 46, 47, 48, 49, 50, 51, 52, 53, 54, 55, 56] i 0), (1, 8, fun _ => 0), (1, 4, fun _ => 0), (1, 4, fun _ => 0), (13, 7, fun _ => 0), (13, 7, fun _ => 0), (13, 7, fun _ => 0), (13, 7, fun _ => 0), (13, 7, fun _ => 0), (13, 7, fun _ => 0), (13, 7, fun _ => 0), (13, 7, fun _ => 0), (13, 7, fun _ => 0), (13, 7, fun _ => 0), (13, 7, fun _ => 0), (13, 7, fun _ => 0), (14, 8, fun i => xnth [58, 59, 60, 61] i 0), (2, 12, fun i => xnth [62, 63, 64, 65, 66, 67, 68, 69, 70, 71, 72, 73] i 0), (1, 8, fun _ => 0), (1, 4, fun _ => 0), (1, 4, fun _ => 0), (13, 7, fun _ => 0), (13, 7, fun _ => 0), (13, 7, fun _ => 0), (13, 7, fun _ => 0), (13, 7, fun _ => 0), (13, 7, fun _ => 0), (13, 7, fun _ => 0), (13, 7, fun _ => 0), (13, 7, fun _ => 0), (13, 7, fun _ => 0), (13, 7, fun _ => 0), (13, 7, fun _ => 0), (14, 8, fun i => xnth [75, 76, 77, 78] i 0), (2, 12, fun i => xnth [79, 80, 81, 82, 83, 84, 85, 86, 87, 88, 89, 90] i 0), (1, 8, fun _ => 0), (1, 4, fun _ => 0), (1, 4, fun _ => 0), (13, 7, fun _ => 0), (13, 7, fun _ => 0), (13, 7, fun _ => 0), (13, 7, fun _ => 0), (13, 7, fun _ => 0), (13, 7, fun _ => 0), (13, 7, fun _ => 0), (13, 7, fun _ => 0), (13, 7, fun _ => 0), (13, 7, fun _ => 0), (13, 7, fun _ => 0), (13, 7, fun _ => 0), (14, 8, fun i => xnth [92, 93, 94, 95] i 0), (2, 12, fun i => xnth [96, 97, 98, 99, 100, 101, 102, 103, 104, 105, 106, 107] i 0), (1, 8, fun _ => 0), (1, 4, fun _ => 0), (1, 4, fun _ => 0), (13, 7, fun _ => 0), (13, 7, fun _ => 0), (13, 7, fun _ => 0), (13, 7, fun _ => 0), (13, 7, fun _ => 0), (13, 7, fun _ => 0), (13, 7, fun _ => 0), (13, 7, fun _ => 0), (13, 7, fun _ => 0), (13, 7, fun _ => 0), (13, 7, fun _ => 0), (13, 7, fun _ => 0), (14, 8, fun i => xnth [109, 110, 111, 112] i 0), (2, 12, fun i => xnth [113, 114, 115, 116, 117, 118, 119, 120, 121, 122, 123, 124] i 0), (1, 8, fun _ => 0), (1, 4, fun _ => 0), (1, 4, fun _ => 0), (13, 7, fun _ => 0), (13, 7, fun _ => 0), (13, 7, fun _ => 0), (13, 7, fun _ => 0), (13, 7, fun _ => 0), (13, 7, fun _ => 0), (13, 7, fun _ => 0), (13, 7, fun _ => 0), (13, 7, fun _ => 0), (13, 7, fun _ => 0), (13, 7, fun _ => 0), (13, 7, fun _ => 0), (15, 3, fun i => xnth [126, 139, 140] i 0), (4, 12, fun i => xnth [127, 128, 129, 130, 131, 132, 133, 134, 135, 136, 137, 138] i 0), (1, 101, fun _ => 0), (1, 101, fun _ => 0), (1, 101, fun _ => 0), (1, 101, fun _ => 0), (1, 101, fun _ => 0), (1, 101, fun _ => 0), (1, 101, fun _ => 0), (1, 101, fun _ => 0), (1, 101, fun _ => 0), (1, 101, fun _ => 0), (1, 101, fun _ => 0), (1, 101, fun _ => 0), (1, 101, fun _ => 0), (1, 101, fun _ => 0), (12, 9, fun i => xnth [142, 145, 146, 147, 148] i 0), (10, 2, fun i => xnth [143, 144] i 0), (1, 96, fun _ => 0), (1, 576, fun _ => 0), (1, 4096, fun _ => 0), (1, 4096, fun _ => 0), (1, 8, fun _ => 0), (1, 8, fun _ => 0), (17, 23, fun i => xnth [0, 150, 151, 0, 0, 152, 153, 154, 155, 156, 0, 0, 0, 0, 0, 0, 157, 158, 159, 160, 0, 0, 161] i 0), (1, 112, fun _ => 0), (1, 672, fun _ => 0), (1, 8, fun _ => 0), (1, 8, fun _ => 0), (1, 8, fun _ => 0), (1, 202, fun _ => 0), (1, 202, fun _ => 0), (1, 96, fun _ => 0), (1, 576, fun _ => 0), (1, 20480, fun _ => 0), (1, 20480, fun _ => 0), (1, 8, fun _ => 0)]
section SH
variable {L : Nat}
theorem kd_0 : xkd (SHL L) 0 = 0 := rfl
theorem kd_1 : xkd (SHL L) 1 = 5 := rfl
theorem ln_1 : xln (SHL L) 1 = L := rfl
theorem kd_2 : xkd (SHL L) 2 = 5 := rfl
theorem ln_2 : xln (SHL L) 2 = 24 := rfl
theorem kd_3 : xkd (SHL L) 3 = 16 := rfl
theorem rr_3_0 : xrr (SHL L) 3 0 = 4 := rfl
theorem rr_3_1 : xrr (SHL L) 3 1 = 21 := rfl
theorem rr_3_2 : xrr (SHL L) 3 2 = 125 := rfl
theorem rr_3_3 : xrr (SHL L) 3 3 = 141 := rfl
theorem kd_4 : xkd (SHL L) 4 = 14 := rfl
theorem rr_4_0 : xrr (SHL L) 4 0 = 5 := rfl
theorem rr_4_1 : xrr (SHL L) 4 1 = 6 := rfl
theorem rr_4_2 : xrr (SHL L) 4 2 = 7 := rfl
theorem rr_4_3 : xrr (SHL L) 4 3 = 8 := rfl
theorem kd_5 : xkd (SHL L) 5 = 2 := rfl
theorem ln_5 : xln (SHL L) 5 = 12 := rfl
theorem kd_6 : xkd (SHL L) 6 = 1 := rfl
theorem ln_6 : xln (SHL L) 6 = 8 := rfl
theorem kd_7 : xkd (SHL L) 7 = 1 := rfl
theorem ln_7 : xln (SHL L) 7 = 4 := rfl
theorem kd_8 : xkd (SHL L) 8 = 1 := rfl
theorem ln_8 : xln (SHL L) 8 = 4 := rfl
theorem kd_9 : xkd (SHL L) 9 = 13 := rfl
theorem kd_10 : xkd (SHL L) 10 = 13 := rfl
theorem kd_11 : xkd (SHL L) 11 = 13 := rfl
theorem kd_12 : xkd (SHL L) 12 = 13 := rfl
theorem kd_13 : xkd (SHL L) 13 = 13 := rfl
theorem kd_14 : xkd (SHL L) 14 = 13 := rfl
theorem kd_15 : xkd (SHL L) 15 = 13 := rfl
theorem kd_16 : xkd (SHL L) 16 = 13 := rfl
theorem kd_17 : xkd (SHL L) 17 = 13 := rfl
theorem kd_18 : xkd (SHL L) 18 = 13 := rfl
theorem kd_19 : xkd (SHL L) 19 = 13 := rfl
theorem kd_20 : xkd (SHL L) 20 = 13 := rfl
theorem kd_21 : xkd (SHL L) 21 = 11 := rfl
theorem rr_21_0 : xrr (SHL L) 21 0 = 22 := rfl
theorem kd_22 : xkd (SHL L) 22 = 3 := rfl
theorem ln_22 : xln (SHL L) 22 = 6 := rfl
theorem kd_23 : xkd (SHL L) 23 = 14 := rfl
theorem rr_23_0 : xrr (SHL L) 23 0 = 24 := rfl
theorem rr_23_1 : xrr (SHL L) 23 1 = 25 := rfl
theorem rr_23_2 : xrr (SHL L) 23 2 = 26 := rfl
theorem rr_23_3 : xrr (SHL L) 23 3 = 27 := rfl
theorem kd_24 : xkd (SHL L) 24 = 2 := rfl
theorem ln_24 : xln (SHL L) 24 = 12 := rfl
theorem kd_25 : xkd (SHL L) 25 = 1 := rfl
theorem ln_25 : xln (SHL L) 25 = 8 := rfl
theorem kd_26 : xkd (SHL L) 26 = 1 := rfl
theorem ln_26 : xln (SHL L) 26 = 4 := rfl
theorem kd_27 : xkd (SHL L) 27 = 1 := rfl
theorem ln_27 : xln (SHL L) 27 = 4 := rfl
theorem kd_28 : xkd (SHL L) 28 = 13 := rfl
theorem kd_29 : xkd (SHL L) 29 = 13 := rfl
theorem kd_30 : xkd (SHL L) 30 = 13 := rfl
theorem kd_31 : xkd (SHL L) 31 = 13 := rfl
theorem kd_32 : xkd (SHL L) 32 = 13 := rfl
theorem kd_33 : xkd (SHL L) 33 = 13 := rfl
theorem kd_34 : xkd (SHL L) 34 = 13 := rfl
theorem kd_35 : xkd (SHL L) 35 = 13 := rfl
theorem kd_36 : xkd (SHL L) 36 = 13 := rfl
theorem kd_37 : xkd (SHL L) 37 = 13 := rfl
theorem kd_38 : xkd (SHL L) 38 = 13 := rfl
theorem kd_39 : xkd (SHL L) 39 = 13 := rfl
theorem kd_40 : xkd (SHL L) 40 = 14 := rfl
theorem rr_40_0 : xrr (SHL L) 40 0 = 41 := rfl
theorem rr_40_1 : xrr (SHL L) 40 1 = 42 := rfl
theorem rr_40_2 : xrr (SHL L) 40 2 = 43 := rfl
theorem rr_40_3 : xrr (SHL L) 40 3 = 44 := rfl
theorem kd_41 : xkd (SHL L) 41 = 2 := rfl
theorem ln_41 : xln (SHL L) 41 = 12 := rfl
theorem kd_42 : xkd (SHL L) 42 = 1 := rfl
theorem ln_42 : xln (SHL L) 42 = 8 := rfl
theorem kd_43 : xkd (SHL L) 43 = 1 := rfl
theorem ln_43 : xln (SHL L) 43 = 4 := rfl
theorem kd_44 : xkd (SHL L) 44 = 1 := rfl
theorem ln_44 : xln (SHL L) 44 = 4 := rfl
theorem kd_45 : xkd (SHL L) 45 = 13 := rfl
theorem kd_46 : xkd (SHL L) 46 = 13 := rfl
theorem kd_47 : xkd (SHL L) 47 = 13 := rfl
theorem kd_48 : xkd (SHL L) 48 = 13 := rfl
theorem kd_49 : xkd (SHL L) 49 = 13 := rfl
theorem kd_50 : xkd (SHL L) 50 = 13 := rfl
theorem kd_51 : xkd (SHL L) 51 = 13 := rfl
theorem kd_52 : xkd (SHL L) 52 = 13 := rfl
theorem kd_53 : xkd (SHL L) 53 = 13 := rfl
theorem kd_54 : xkd (SHL L) 54 = 13 := rfl
theorem kd_55 : xkd (SHL L) 55 = 13 := rfl
theorem kd_56 : xkd (SHL L) 56 = 13 := rfl
theorem kd_57 : xkd (SHL L) 57 = 14 := rfl
theorem rr_57_0 : xrr (SHL L) 57 0 = 58 := rfl
theorem rr_57_1 : xrr (SHL L) 57 1 = 59 := rfl
theorem rr_57_2 : xrr (SHL L) 57 2 = 60 := rfl
theorem rr_57_3 : xrr (SHL L) 57 3 = 61 := rfl
theorem kd_58 : xkd (SHL L) 58 = 2 := rfl
theorem ln_58 : xln (SHL L) 58 = 12 := rfl
theorem kd_59 : xkd (SHL L) 59 = 1 := rfl
theorem ln_59 : xln (SHL L) 59 = 8 := rfl
theorem kd_60 : xkd (SHL L) 60 = 1 := rfl
theorem ln_60 : xln (SHL L) 60 = 4 := rfl
theorem kd_61 : xkd (SHL L) 61 = 1 := rfl
theorem ln_61 : xln (SHL L) 61 = 4 := rfl
theorem kd_62 : xkd (SHL L) 62 = 13 := rfl
theorem kd_63 : xkd (SHL L) 63 = 13 := rfl
theorem kd_64 : xkd (SHL L) 64 = 13 := rfl
theorem kd_65 : xkd (SHL L) 65 = 13 := rfl
theorem kd_66 : xkd (SHL L) 66 = 13 := rfl
theorem kd_67 : xkd (SHL L) 67 = 13 := rfl
theorem kd_68 : xkd (SHL L) 68 = 13 := rfl
theorem kd_69 : xkd (SHL L) 69 = 13 := rfl
theorem kd_70 : xkd (SHL L) 70 = 13 := rfl
theorem kd_71 : xkd (SHL L) 71 = 13 := rfl
theorem kd_72 : xkd (SHL L) 72 = 13 := rfl
theorem kd_73 : xkd (SHL L) 73 = 13 := rfl
theorem kd_74 : xkd (SHL L) 74 = 14 := rfl
theorem rr_74_0 : xrr (SHL L) 74 0 = 75 := rfl
theorem rr_74_1 : xrr (SHL L) 74 1 = 76 := rfl
theorem rr_74_2 : xrr (SHL L) 74 2 = 77 := rfl
theorem rr_74_3 : xrr (SHL L) 74 3 = 78 := rfl
theorem kd_75 : xkd (SHL L) 75 = 2 := rfl
theorem ln_75 : xln (SHL L) 75 = 12 := rfl
theorem kd_76 : xkd (SHL L) 76 = 1 := rfl
theorem ln_76 : xln (SHL L) 76 = 8 := rfl
theorem kd_77 : xkd (SHL L) 77 = 1 := rfl
theorem ln_77 : xln (SHL L) 77 = 4 := rfl
theorem kd_78 : xkd (SHL L) 78 = 1 := rfl
theorem ln_78 : xln (SHL L) 78 = 4 := rfl
theorem kd_79 : xkd (SHL L) 79 = 13 := rfl
theorem kd_80 : xkd (SHL L) 80 = 13 := rfl
theorem kd_81 : xkd (SHL L) 81 = 13 := rfl
theorem kd_82 : xkd (SHL L) 82 = 13 := rfl
theorem kd_83 : xkd (SHL L) 83 = 13 := rfl
theorem kd_84 : xkd (SHL L) 84 = 13 := rfl
theorem kd_85 : xkd (SHL L) 85 = 13 := rfl
theorem kd_86 : xkd (SHL L) 86 = 13 := rfl
theorem kd_87 : xkd (SHL L) 87 = 13 := rfl
theorem kd_88 : xkd (SHL L) 88 = 13 := rfl
theorem kd_89 : xkd (SHL L) 89 = 13 := rfl
theorem kd_90 : xkd (SHL L) 90 = 13 := rfl
theorem kd_91 : xkd (SHL L) 91 = 14 := rfl
theorem rr_91_0 : xrr (SHL L) 91 0 = 92 := rfl
theorem rr_91_1 : xrr (SHL L) 91 1 = 93 := rfl
theorem rr_91_2 : xrr (SHL L) 91 2 = 94 := rfl
theorem rr_91_3 : xrr (SHL L) 91 3 = 95 := rfl
theorem kd_92 : xkd (SHL L) 92 = 2 := rfl
theorem ln_92 : xln (SHL L) 92 = 12 := rfl
theorem kd_93 : xkd (SHL L) 93 = 1 := rfl
theorem ln_93 : xln (SHL L) 93 = 8 := rfl
theorem kd_94 : xkd (SHL L) 94 = 1 := rfl
theorem ln_94 : xln (SHL L) 94 = 4 := rfl
theorem kd_95 : xkd (SHL L) 95 = 1 := rfl
theorem ln_95 : xln (SHL L) 95 = 4 := rfl
theorem kd_96 : xkd (SHL L) 96 = 13 := rfl
theorem kd_97 : xkd (SHL L) 97 = 13 := rfl
theorem kd_98 : xkd (SHL L) 98 = 13 := rfl
theorem kd_99 : xkd (SHL L) 99 = 13 := rfl
theorem kd_100 : xkd (SHL L) 100 = 13 := rfl
theorem kd_101 : xkd (SHL L) 101 = 13 := rfl
theorem kd_102 : xkd (SHL L) 102 = 13 := rfl
theorem kd_103 : xkd (SHL L) 103 = 13 := rfl
theorem kd_104 : xkd (SHL L) 104 = 13 := rfl
theorem kd_105 : xkd (SHL L) 105 = 13 := rfl
theorem kd_106 : xkd (SHL L) 106 = 13 := rfl
theorem kd_107 : xkd (SHL L) 107 = 13 := rfl
theorem kd_108 : xkd (SHL L) 108 = 14 := rfl
theorem rr_108_0 : xrr (SHL L) 108 0 = 109 := rfl
theorem rr_108_1 : xrr (SHL L) 108 1 = 110 := rfl
theorem rr_108_2 : xrr (SHL L) 108 2 = 111 := rfl
theorem rr_108_3 : xrr (SHL L) 108 3 = 112 := rfl
theorem kd_109 : xkd (SHL L) 109 = 2 := rfl
theorem ln_109 : xln (SHL L) 109 = 12 := rfl
theorem kd_110 : xkd (SHL L) 110 = 1 := rfl
theorem ln_110 : xln (SHL L) 110 = 8 := rfl
theorem kd_111 : xkd (SHL L) 111 = 1 := rfl
theorem ln_111 : xln (SHL L) 111 = 4 := rfl
theorem kd_112 : xkd (SHL L) 112 = 1 := rfl
theorem ln_112 : xln (SHL L) 112 = 4 := rfl
theorem kd_113 : xkd (SHL L) 113 = 13 := rfl
theorem kd_114 : xkd (SHL L) 114 = 13 := rfl
theorem kd_115 : xkd (SHL L) 115 = 13 := rfl
theorem kd_116 : xkd (SHL L) 116 = 13 := rfl
theorem kd_117 : xkd (SHL L) 117 = 13 := rfl
theorem kd_118 : xkd (SHL L) 118 = 13 := rfl
theorem kd_119 : xkd (SHL L) 119 = 13 := rfl
theorem kd_120 : xkd (SHL L) 120 = 13 := rfl
theorem kd_121 : xkd (SHL L) 121 = 13 := rfl
theorem kd_122 : xkd (SHL L) 122 = 13 := rfl
theorem kd_123 : xkd (SHL L) 123 = 13 := rfl
theorem kd_124 : xkd (SHL L) 124 = 13 := rfl
theorem kd_125 : xkd (SHL L) 125 = 15 := rfl
theorem rr_125_0 : xrr (SHL L) 125 0 = 126 := rfl
theorem rr_125_1 : xrr (SHL L) 125 1 = 139 := rfl
theorem rr_125_2 : xrr (SHL L) 125 2 = 140 := rfl
theorem kd_126 : xkd (SHL L) 126 = 4 := rfl
theorem ln_126 : xln (SHL L) 126 = 12 := rfl
theorem kd_127 : xkd (SHL L) 127 = 1 := rfl
theorem ln_127 : xln (SHL L) 127 = 101 := rfl
theorem kd_128 : xkd (SHL L) 128 = 1 := rfl
theorem ln_128 : xln (SHL L) 128 = 101 := rfl
theorem kd_129 : xkd (SHL L) 129 = 1 := rfl
theorem ln_129 : xln (SHL L) 129 = 101 := rfl
theorem kd_130 : xkd (SHL L) 130 = 1 := rfl
theorem ln_130 : xln (SHL L) 130 = 101 := rfl
theorem kd_131 : xkd (SHL L) 131 = 1 := rfl
theorem ln_131 : xln (SHL L) 131 = 101 := rfl
theorem kd_132 : xkd (SHL L) 132 = 1 := rfl
theorem ln_132 : xln (SHL L) 132 = 101 := rfl
theorem kd_133 : xkd (SHL L) 133 = 1 := rfl
theorem ln_133 : xln (SHL L) 133 = 101 := rfl
theorem kd_134 : xkd (SHL L) 134 = 1 := rfl
theorem ln_134 : xln (SHL L) 134 = 101 := rfl
theorem kd_135 : xkd (SHL L) 135 = 1 := rfl
theorem ln_135 : xln (SHL L) 135 = 101 := rfl
theorem kd_136 : xkd (SHL L) 136 = 1 := rfl
theorem ln_136 : xln (SHL L) 136 = 101 := rfl
theorem kd_137 : xkd (SHL L) 137 = 1 := rfl
theorem ln_137 : xln (SHL L) 137 = 101 := rfl
theorem kd_138 : xkd (SHL L) 138 = 1 := rfl
theorem ln_138 : xln (SHL L) 138 = 101 := rfl
theorem kd_139 : xkd (SHL L) 139 = 1 := rfl
theorem ln_139 : xln (SHL L) 139 = 101 := rfl
theorem kd_140 : xkd (SHL L) 140 = 1 := rfl
theorem ln_140 : xln (SHL L) 140 = 101 := rfl
theorem kd_141 : xkd (SHL L) 141 = 12 := rfl
theorem rr_141_0 : xrr (SHL L) 141 0 = 142 := rfl
theorem rr_141_1 : xrr (SHL L) 141 1 = 145 := rfl
theorem rr_141_2 : xrr (SHL L) 141 2 = 146 := rfl
theorem rr_141_3 : xrr (SHL L) 141 3 = 147 := rfl
theorem rr_141_4 : xrr (SHL L) 141 4 = 148 := rfl
theorem kd_142 : xkd (SHL L) 142 = 10 := rfl
theorem rr_142_0 : xrr (SHL L) 142 0 = 143 := rfl
theorem rr_142_1 : xrr (SHL L) 142 1 = 144 := rfl
theorem kd_143 : xkd (SHL L) 143 = 1 := rfl
theorem ln_143 : xln (SHL L) 143 = 96 := rfl
theorem kd_144 : xkd (SHL L) 144 = 1 := rfl
theorem ln_144 : xln (SHL L) 144 = 576 := rfl
theorem kd_145 : xkd (SHL L) 145 = 1 := rfl
theorem ln_145 : xln (SHL L) 145 = 4096 := rfl
theorem kd_146 : xkd (SHL L) 146 = 1 := rfl
theorem ln_146 : xln (SHL L) 146 = 4096 := rfl
theorem kd_147 : xkd (SHL L) 147 = 1 := rfl
theorem ln_147 : xln (SHL L) 147 = 8 := rfl
theorem kd_148 : xkd (SHL L) 148 = 1 := rfl
theorem ln_148 : xln (SHL L) 148 = 8 := rfl
theorem kd_149 : xkd (SHL L) 149 = 17 := rfl
theorem rr_149_1 : xrr (SHL L) 149 1 = 150 := rfl
theorem rr_149_2 : xrr (SHL L) 149 2 = 151 := rfl
theorem rr_149_5 : xrr (SHL L) 149 5 = 152 := rfl
theorem rr_149_6 : xrr (SHL L) 149 6 = 153 := rfl
theorem rr_149_7 : xrr (SHL L) 149 7 = 154 := rfl
theorem rr_149_8 : xrr (SHL L) 149 8 = 155 := rfl
theorem rr_149_9 : xrr (SHL L) 149 9 = 156 := rfl
theorem rr_149_16 : xrr (SHL L) 149 16 = 157 := rfl
theorem rr_149_17 : xrr (SHL L) 149 17 = 158 := rfl
theorem rr_149_18 : xrr (SHL L) 149 18 = 159 := rfl
theorem rr_149_19 : xrr (SHL L) 149 19 = 160 := rfl
theorem rr_149_22 : xrr (SHL L) 149 22 = 161 := rfl
theorem kd_150 : xkd (SHL L) 150 = 1 := rfl
theorem ln_150 : xln (SHL L) 150 = 112 := rfl
theorem kd_151 : xkd (SHL L) 151 = 1 := rfl
theorem ln_151 : xln (SHL L) 151 = 672 := rfl
theorem kd_152 : xkd (SHL L) 152 = 1 := rfl
theorem ln_152 : xln (SHL L) 152 = 8 := rfl
theorem kd_153 : xkd (SHL L) 153 = 1 := rfl
theorem ln_153 : xln (SHL L) 153 = 8 := rfl
theorem kd_154 : xkd (SHL L) 154 = 1 := rfl
theorem ln_154 : xln (SHL L) 154 = 8 := rfl
theorem kd_155 : xkd (SHL L) 155 = 1 := rfl
theorem ln_155 : xln (SHL L) 155 = 202 := rfl
theorem kd_156 : xkd (SHL L) 156 = 1 := rfl
theorem ln_156 : xln (SHL L) 156 = 202 := rfl
theorem kd_157 : xkd (SHL L) 157 = 1 := rfl
theorem ln_157 : xln (SHL L) 157 = 96 := rfl
theorem kd_158 : xkd (SHL L) 158 = 1 := rfl
theorem ln_158 : xln (SHL L) 158 = 576 := rfl
theorem kd_159 : xkd (SHL L) 159 = 1 := rfl
theorem ln_159 : xln (SHL L) 159 = 20480 := rfl
theorem kd_160 : xkd (SHL L) 160 = 1 := rfl
theorem ln_160 : xln (SHL L) 160 = 20480 := rfl
theorem kd_161 : xkd (SHL L) 161 = 1 := rfl
theorem ln_161 : xln (SHL L) 161 = 8 := rfl
theorem x12 {P : Nat → Prop} (h : P 0 ∧ P 1 ∧ P 2 ∧ P 3 ∧ P 4 ∧ P 5 ∧ P 6 ∧ P 7 ∧ P 8 ∧ P 9 ∧ P 10 ∧ P 11) : ∀ r, r < 12 → P r := by
  intro r hr
  obtain ⟨h0, h1, h2, h3, h4, h5, h6, h7, h8, h9, h10, h11⟩ := h
  rcases (show r = 0 ∨ r = 1 ∨ r = 2 ∨ r = 3 ∨ r = 4 ∨ r = 5 ∨ r = 6 ∨ r = 7 ∨ r = 8 ∨ r = 9 ∨ r = 10 ∨ r = 11 by omega) with rfl | rfl | rfl | rfl | rfl | rfl | rfl | rfl | rfl | rfl | rfl | rfl <;> assumption
theorem x6 {P : Nat → Prop} (h : P 0 ∧ P 1 ∧ P 2 ∧ P 3 ∧ P 4 ∧ P 5) : ∀ r, r < 6 → P r := by
  intro r hr
  obtain ⟨h0, h1, h2, h3, h4, h5⟩ := h
  rcases (show r = 0 ∨ r = 1 ∨ r = 2 ∨ r = 3 ∨ r = 4 ∨ r = 5 by omega) with rfl | rfl | rfl | rfl | rfl | rfl <;> assumption
theorem kd_reed : ∀ r, r < 12 → xkd (SHL L) (9 + r) = 13 := x12 ⟨rfl, rfl, rfl, rfl, rfl, rfl, rfl, rfl, rfl, rfl, rfl, rfl⟩
theorem rr_reed : ∀ r, r < 12 → xrr (SHL L) 5 r = 9 + r := x12 ⟨rfl, rfl, rfl, rfl, rfl, rfl, rfl, rfl, rfl, rfl, rfl, rfl⟩
theorem kd_first : ∀ r, r < 12 → xkd (SHL L) (127 + r) = 1 := x12 ⟨rfl, rfl, rfl, rfl, rfl, rfl, rfl, rfl, rfl, rfl, rfl, rfl⟩
theorem ln_first : ∀ r, r < 12 → xln (SHL L) (127 + r) = 101 := x12 ⟨rfl, rfl, rfl, rfl, rfl, rfl, rfl, rfl, rfl, rfl, rfl, rfl⟩
theorem rr_first : ∀ r, r < 12 → xrr (SHL L) 126 r = 127 + r := x12 ⟨rfl, rfl, rfl, rfl, rfl, rfl, rfl, rfl, rfl, rfl, rfl, rfl⟩
theorem rr_ring : ∀ t, t < 6 → xrr (SHL L) 22 t = 23 + 17 * t := x6 ⟨rfl, rfl, rfl, rfl, rfl, rfl⟩
theorem kd_ring : ∀ t, t < 6 → xkd (SHL L) (23 + 17 * t) = 14 := x6 ⟨rfl, rfl, rfl, rfl, rfl, rfl⟩
end SH
end
section
/-! ===== leaves of the class ===== -/
theorem xb_m31 {x : Nat} (h : x < 2 ^ 31) : xbin 5 x 31 = some ((x % 32 : Nat) : Int) := by
  have := xb_and (x := x) (y := 31) h (by decide)
  rw [show (31 : Int) = ((31 : Nat) : Int) from rfl, this, Nat.and_two_pow_sub_one_eq_mod (n := 5)]
theorem x256 : ∀ s : Nat, s < 8 → 1 * 2 ^ s < 2 ^ 31 := by decide

def dr (t : Int) : Nat → Int
  | 0 => 0
  | n + 1 => dr t n + (t - n)
section LF
variable {L : Nat} {f : xF} {Q : List xV → xF → Prop}
theorem C_9 {x a b : Int} (hx : xok x) (ha : xok a) (hb : xok b) (K1 : a ≤ x ∧ x ≤ b → Q [.inl 1] f) (K0 : ¬ (a ≤ x ∧ x ≤ b) → Q [.inl 0] f) : Rf (SHL L) 9 0 (xloc 9 [.inl x, .inl a, .inl b]) [] f Q := by
  refine R_il fx_9_0 rfl ?_
  refine R_il fx_9_1 rfl ?_
  refine R_iclt fx_9_2 (by omega) (fun hc => ?_) (fun hc => ?_)
  · refine R_push fx_9_14 ?_
    refine R_ret fx_9_15 (by decide) ?_
    first | exact K1 (by omega) | exact K0 (by omega)
  · refine R_il fx_9_5 rfl ?_
    refine R_il fx_9_6 rfl ?_
    refine R_icgt fx_9_7 (by omega) (fun hc => ?_) (fun hc => ?_)
    · refine R_push fx_9_14 ?_
      refine R_ret fx_9_15 (by decide) ?_
      first | exact K1 (by omega) | exact K0 (by omega)
    · refine R_push fx_9_10 ?_
      refine R_goto fx_9_11 ?_
      refine R_ret fx_9_15 (by decide) ?_
      first | exact K1 (by omega) | exact K0 (by omega)
theorem C_19 {r : Int} (hr : xok r) (hm : 0 ≤ f 4 4 ∧ f 4 4 ≤ 12) (K1 : 0 ≤ r ∧ r < f 4 4 → Q [.inl 1] f) (K0 : ¬ (0 ≤ r ∧ r < f 4 4) → Q [.inl 0] f) : Rf (SHL L) 19 0 (xloc 19 [.inr 4, .inl r]) [] f Q := by
  refine R_il fx_19_0 rfl ?_
  refine R_iflt fx_19_1 (by omega) (fun hc => ?_) (fun hc => ?_)
  · refine R_push fx_19_22 ?_
    refine R_ret fx_19_23 (by decide) ?_
    first | exact K1 (by omega) | exact K0 (by omega)
  · refine R_il fx_19_4 rfl ?_
    refine R_al fx_19_5 rfl (by omega) ?_
    refine R_gf fx_19_6 kd_4 rfl ?_
    refine R_icge fx_19_9 (by omega) (fun hc => ?_) (fun hc => ?_)
    · refine R_push fx_19_22 ?_
      refine R_ret fx_19_23 (by decide) ?_
      first | exact K1 (by omega) | exact K0 (by omega)
    · refine R_il fx_19_12 rfl ?_
      refine R_push fx_19_13 ?_
      refine R_icge fx_19_15 (by omega) (fun hc => ?_) (fun hc => ?_)
      · refine R_push fx_19_22 ?_
        refine R_ret fx_19_23 (by decide) ?_
        first | exact K1 (by omega) | exact K0 (by omega)
      · refine R_push fx_19_18 ?_
        refine R_goto fx_19_19 ?_
        refine R_ret fx_19_23 (by decide) ?_
        first | exact K1 (by omega) | exact K0 (by omega)
theorem C_18 {r : Int} (hr : xok r) (hm : 0 ≤ f 4 4 ∧ f 4 4 ≤ 12) (hp : ∀ j : Nat, j < 12 → (j : Int) < f 4 4 → xok (f (9 + j) 3)) (K1 : (0 ≤ r ∧ r < f 4 4) ∧ f (9 + r.toNat) 3 = 0 → Q [.inl 1] f) (K0 : ¬ ((0 ≤ r ∧ r < f 4 4) ∧ f (9 + r.toNat) 3 = 0) → Q [.inl 0] f) : Rf (SHL L) 18 0 (xloc 18 [.inr 4, .inl r]) [] f Q := by
  refine R_al fx_18_0 rfl (by omega) ?_
  refine R_il fx_18_1 rfl ?_
  refine R_cv fx_18_2 rfl rfl rfl rfl kd_4 ?_
  refine C_19 (by omega) (by omega) (fun hc => ?_) (fun hc => ?_)
  · refine R_ifeq fx_18_5 (by decide) (fun h => absurd h (by decide)) (fun _ => ?_)
    refine R_al fx_18_8 rfl (by omega) ?_
    refine R_gr fx_18_9 kd_4 rfl rr_4_0 ?_
    refine R_il fx_18_12 rfl ?_
    refine R_aa fx_18_13 (Or.inl kd_5) (by omega) (by rw [ln_5]; omega) (by omega) (rr_reed _ (by omega)) ?_
    refine R_gf fx_18_14 (kd_reed _ (by omega)) rfl ?_
    refine R_ifne fx_18_17 (Or.inl (hp _ (by omega) (by omega))) (fun hc => ?_) (fun hc => ?_)
    · refine R_push fx_18_24 ?_
      refine R_ret fx_18_25 (by decide) ?_
      first | exact K1 (by omega) | exact K0 (by omega)
    · refine R_push fx_18_20 ?_
      refine R_goto fx_18_21 ?_
      refine R_ret fx_18_25 (by decide) ?_
      first | exact K1 (by omega) | exact K0 (by omega)
  · refine R_ifeq fx_18_5 (by decide) (fun _ => ?_) (fun h => absurd h (by decide))
    refine R_push fx_18_24 ?_
    refine R_ret fx_18_25 (by decide) ?_
    first | exact K1 (by omega) | exact K0 (by omega)
theorem C_33 {s : Int} (hs : xok s) (hw : ∀ j, j < 8 → xok (f 6 j)) (K1 : (0 ≤ s ∧ s < 8) ∧ f 6 s.toNat ≠ -1 → Q [.inl 1] f) (K0 : ¬ ((0 ≤ s ∧ s < 8) ∧ f 6 s.toNat ≠ -1) → Q [.inl 0] f) : Rf (SHL L) 33 0 (xloc 33 [.inr 4, .inl s]) [] f Q := by
  refine R_il fx_33_0 rfl ?_
  refine R_iflt fx_33_1 (by omega) (fun hc => ?_) (fun hc => ?_)
  · refine R_push fx_33_24 ?_
    refine R_ret fx_33_25 (by decide) ?_
    first | exact K1 (by omega) | exact K0 (by omega)
  · refine R_il fx_33_4 rfl ?_
    refine R_push fx_33_5 ?_
    refine R_icge fx_33_7 (by omega) (fun hc => ?_) (fun hc => ?_)
    · refine R_push fx_33_24 ?_
      refine R_ret fx_33_25 (by decide) ?_
      first | exact K1 (by omega) | exact K0 (by omega)
    · refine R_al fx_33_10 rfl (by omega) ?_
      refine R_gr fx_33_11 kd_4 rfl rr_4_1 ?_
      refine R_il fx_33_14 rfl ?_
      refine R_ia fx_33_15 (Or.inl kd_6) (by omega) (by rw [ln_6]; omega) (by omega) ?_
      refine R_push fx_33_16 ?_
      refine R_iceq fx_33_17 (Or.inl ⟨hw _ (by omega), by omega⟩) (fun hc => ?_) (fun hc => ?_)
      · refine R_push fx_33_24 ?_
        refine R_ret fx_33_25 (by decide) ?_
        first | exact K1 (by omega) | exact K0 (by omega)
      · refine R_push fx_33_20 ?_
        refine R_goto fx_33_21 ?_
        refine R_ret fx_33_25 (by decide) ?_
        first | exact K1 (by omega) | exact K0 (by omega)
theorem C_29 {k : Int} (hk : xok k) (hb : ∀ j, j < 4 → xok (f 7 j) ∧ xok (f 8 j)) (K1 : (0 ≤ k ∧ k < 4) ∧ f 7 k.toNat ≤ f 8 k.toNat → Q [.inl 1] f) (K0 : ¬ ((0 ≤ k ∧ k < 4) ∧ f 7 k.toNat ≤ f 8 k.toNat) → Q [.inl 0] f) : Rf (SHL L) 29 0 (xloc 29 [.inr 4, .inl k]) [] f Q := by
  refine R_il fx_29_0 rfl ?_
  refine R_iflt fx_29_1 (by omega) (fun hc => ?_) (fun hc => ?_)
  · refine R_push fx_29_28 ?_
    refine R_ret fx_29_29 (by decide) ?_
    first | exact K1 (by omega) | exact K0 (by omega)
  · refine R_il fx_29_4 rfl ?_
    refine R_push fx_29_5 ?_
    refine R_icge fx_29_6 (by omega) (fun hc => ?_) (fun hc => ?_)
    · refine R_push fx_29_28 ?_
      refine R_ret fx_29_29 (by decide) ?_
      first | exact K1 (by omega) | exact K0 (by omega)
    · refine R_al fx_29_9 rfl (by omega) ?_
      refine R_gr fx_29_10 kd_4 rfl rr_4_2 ?_
      refine R_il fx_29_13 rfl ?_
      refine R_ia fx_29_14 (Or.inl kd_7) (by omega) (by rw [ln_7]; omega) (by omega) ?_
      refine R_al fx_29_15 rfl (by omega) ?_
      refine R_gr fx_29_16 kd_4 rfl rr_4_3 ?_
      refine R_il fx_29_19 rfl ?_
      refine R_ia fx_29_20 (Or.inl kd_8) (by omega) (by rw [ln_8]; omega) (by omega) ?_
      refine R_icgt fx_29_21 (hb _ (by omega)) (fun hc => ?_) (fun hc => ?_)
      · refine R_push fx_29_28 ?_
        refine R_ret fx_29_29 (by decide) ?_
        first | exact K1 (by omega) | exact K0 (by omega)
      · refine R_push fx_29_24 ?_
        refine R_goto fx_29_25 ?_
        refine R_ret fx_29_29 (by decide) ?_
        first | exact K1 (by omega) | exact K0 (by omega)
theorem C_43 {k : Int} (hk : xok k) (hw : ∀ j, j < 8 → xok (f 6 j)) (K1 : (0 ≤ k ∧ k < 4) ∧ f 6 (2 * k).toNat ≠ -1 ∧ f 6 (2 * k + 1).toNat ≠ -1 → Q [.inl 1] f) (K0 : ¬ ((0 ≤ k ∧ k < 4) ∧ f 6 (2 * k).toNat ≠ -1 ∧ f 6 (2 * k + 1).toNat ≠ -1) → Q [.inl 0] f) : Rf (SHL L) 43 0 (xloc 43 [.inr 4, .inl k]) [] f Q := by
  refine R_il fx_43_0 rfl ?_
  refine R_iflt fx_43_1 (by omega) (fun hc => ?_) (fun hc => ?_)
  · refine R_push fx_43_35 ?_
    refine R_ret fx_43_36 (by decide) ?_
    first | exact K1 (by omega) | exact K0 (by omega)
  · refine R_il fx_43_4 rfl ?_
    refine R_push fx_43_5 ?_
    refine R_icge fx_43_6 (by omega) (fun hc => ?_) (fun hc => ?_)
    · refine R_push fx_43_35 ?_
      refine R_ret fx_43_36 (by decide) ?_
      first | exact K1 (by omega) | exact K0 (by omega)
    · refine R_al fx_43_9 rfl (by omega) ?_
      refine R_push fx_43_10 ?_
      refine R_il fx_43_11 rfl ?_
      refine R_mul fx_43_12 ?_
      refine R_cv fx_43_13 rfl rfl rfl rfl kd_4 ?_
      refine C_33 (by omega) hw (fun hc => ?_) (fun hc => ?_)
      · refine R_ifeq fx_43_16 (by decide) (fun h => absurd h (by decide)) (fun _ => ?_)
        refine R_al fx_43_19 rfl (by omega) ?_
        refine R_push fx_43_20 ?_
        refine R_il fx_43_21 rfl ?_
        refine R_mul fx_43_22 ?_
        refine R_push fx_43_23 ?_
        refine R_add fx_43_24 ?_
        refine R_cv fx_43_25 rfl rfl rfl rfl kd_4 ?_
        refine C_33 (by omega) hw (fun hc => ?_) (fun hc => ?_)
        · refine R_ifeq fx_43_28 (by decide) (fun h => absurd h (by decide)) (fun _ => ?_)
          refine R_push fx_43_31 ?_
          refine R_goto fx_43_32 ?_
          refine R_ret fx_43_36 (by decide) ?_
          first | exact K1 (by omega) | exact K0 (by omega)
        · refine R_ifeq fx_43_28 (by decide) (fun _ => ?_) (fun h => absurd h (by decide))
          refine R_push fx_43_35 ?_
          refine R_ret fx_43_36 (by decide) ?_
          first | exact K1 (by omega) | exact K0 (by omega)
      · refine R_ifeq fx_43_16 (by decide) (fun _ => ?_) (fun h => absurd h (by decide))
        refine R_push fx_43_35 ?_
        refine R_ret fx_43_36 (by decide) ?_
        first | exact K1 (by omega) | exact K0 (by omega)
theorem C_60 {k : Int} (hk : xok k) (hw : ∀ j, j < 8 → xok (f 6 j)) (hb : ∀ j, j < 4 → xok (f 7 j) ∧ xok (f 8 j)) (K1 : (0 ≤ k ∧ k < 4) ∧ f 7 k.toNat ≤ f 8 k.toNat ∧ f 6 (2 * k).toNat ≠ -1 ∧ f 6 (2 * k + 1).toNat ≠ -1 → Q [.inl 1] f) (K0 : ¬ ((0 ≤ k ∧ k < 4) ∧ f 7 k.toNat ≤ f 8 k.toNat ∧ f 6 (2 * k).toNat ≠ -1 ∧ f 6 (2 * k + 1).toNat ≠ -1) → Q [.inl 0] f) : Rf (SHL L) 60 0 (xloc 60 [.inr 4, .inl k]) [] f Q := by
  refine R_al fx_60_0 rfl (by omega) ?_
  refine R_il fx_60_1 rfl ?_
  refine R_cv fx_60_2 rfl rfl rfl rfl kd_4 ?_
  refine C_29 (by omega) hb (fun hc => ?_) (fun hc => ?_)
  · refine R_ifeq fx_60_5 (by decide) (fun h => absurd h (by decide)) (fun _ => ?_)
    refine R_al fx_60_8 rfl (by omega) ?_
    refine R_il fx_60_9 rfl ?_
    refine R_cv fx_60_10 rfl rfl rfl rfl kd_4 ?_
    refine C_43 (by omega) hw (fun hc => ?_) (fun hc => ?_)
    · refine R_ifeq fx_60_13 (by decide) (fun h => absurd h (by decide)) (fun _ => ?_)
      refine R_push fx_60_16 ?_
      refine R_goto fx_60_17 ?_
      refine R_ret fx_60_21 (by decide) ?_
      first | exact K1 (by omega) | exact K0 (by omega)
    · refine R_ifeq fx_60_13 (by decide) (fun _ => ?_) (fun h => absurd h (by decide))
      refine R_push fx_60_20 ?_
      refine R_ret fx_60_21 (by decide) ?_
      first | exact K1 (by omega) | exact K0 (by omega)
  · refine R_ifeq fx_60_5 (by decide) (fun _ => ?_) (fun h => absurd h (by decide))
    refine R_push fx_60_20 ?_
    refine R_ret fx_60_21 (by decide) ?_
    first | exact K1 (by omega) | exact K0 (by omega)
theorem C_38 {i j : Int} (K : Q [.inl ((i + j) * 32 + i)] f) : Rf (SHL L) 38 0 (xloc 38 [.inl i, .inl j]) [] f Q := by
  refine R_il fx_38_0 rfl ?_
  refine R_il fx_38_1 rfl ?_
  refine R_add fx_38_2 ?_
  refine R_push fx_38_3 ?_
  refine R_mul fx_38_5 ?_
  refine R_il fx_38_6 rfl ?_
  refine R_add fx_38_7 ?_
  refine R_ret fx_38_8 (Or.inl rfl) ?_
  exact K
theorem C_39 {x : Int} (h : 0 ≤ x ∧ x ≤ 2147483647) (K : Q [.inl (x / 32)] f) : Rf (SHL L) 39 0 (xloc 39 [.inl x]) [] f Q := by
  refine R_il fx_39_0 rfl ?_
  refine R_push fx_39_1 ?_
  refine R_bin fx_39_3 (xb_div (by omega) (by omega) (by omega) (by omega)) ?_
  refine R_ret fx_39_4 (Or.inl rfl) ?_
  exact K
theorem C_40 {x : Int} (h : 0 ≤ x ∧ x ≤ 2147483647) (K : Q [.inl (x % 32)] f) : Rf (SHL L) 40 0 (xloc 40 [.inl x]) [] f Q := by
  refine R_il fx_40_0 rfl ?_
  refine R_push fx_40_1 ?_
  refine R_bin fx_40_3 (xb_rem (by omega) (by omega) (by omega) (by omega)) ?_
  refine R_ret fx_40_4 (Or.inl rfl) ?_
  exact K
theorem C_41 {x : Int} (h : 0 ≤ x ∧ x ≤ 2147483647) (K : Q [.inl (x / 32 - x % 32)] f) : Rf (SHL L) 41 0 (xloc 41 [.inl x]) [] f Q := by
  refine R_il fx_41_0 rfl ?_
  refine R_cs fx_41_1 rfl rfl rfl rfl ?_
  refine C_39 (by omega) ?_
  refine R_il fx_41_4 rfl ?_
  refine R_cs fx_41_5 rfl rfl rfl rfl ?_
  refine C_40 (by omega) ?_
  refine R_sub fx_41_8 ?_
  refine R_ret fx_41_9 (Or.inl rfl) ?_
  exact K
theorem C_50 {x y : Int} (h : 0 ≤ x ∧ x ≤ 2147483647) (h2 : 0 ≤ y ∧ y ≤ 2147483647) (K : Q [.inl ((((x / 32 + y / 32) * 32 + x % 32) * 32 + (x / 32 - x % 32)) * 32 + y % 32)] f) : Rf (SHL L) 50 0 (xloc 50 [.inl x, .inl y]) [] f Q := by
  refine R_il fx_50_0 rfl ?_
  refine R_cs fx_50_1 rfl rfl rfl rfl ?_
  refine C_39 (by omega) ?_
  refine R_il fx_50_4 rfl ?_
  refine R_cs fx_50_5 rfl rfl rfl rfl ?_
  refine C_39 (by omega) ?_
  refine R_add fx_50_8 ?_
  refine R_is fx_50_9 ?_
  refine R_il fx_50_10 rfl ?_
  refine R_push fx_50_11 ?_
  refine R_mul fx_50_13 ?_
  refine R_il fx_50_14 rfl ?_
  refine R_cs fx_50_15 rfl rfl rfl rfl ?_
  refine C_40 (by omega) ?_
  refine R_add fx_50_18 ?_
  refine R_is fx_50_19 ?_
  refine R_il fx_50_20 rfl ?_
  refine R_push fx_50_21 ?_
  refine R_mul fx_50_23 ?_
  refine R_il fx_50_24 rfl ?_
  refine R_cs fx_50_25 rfl rfl rfl rfl ?_
  refine C_41 (by omega) ?_
  refine R_add fx_50_28 ?_
  refine R_is fx_50_29 ?_
  refine R_il fx_50_30 rfl ?_
  refine R_push fx_50_31 ?_
  refine R_mul fx_50_33 ?_
  refine R_il fx_50_34 rfl ?_
  refine R_cs fx_50_35 rfl rfl rfl rfl ?_
  refine C_40 (by omega) ?_
  refine R_add fx_50_38 ?_
  refine R_ret fx_50_39 (Or.inl rfl) ?_
  exact K
theorem C_51 {x : Nat} (h : x < 2147483648) (K : Q [.inl ((x / 32768 : Nat) : Int)] f) : Rf (SHL L) 51 0 (xloc 51 [.inl x]) [] f Q := by
  refine R_il fx_51_0 rfl ?_
  refine R_push fx_51_1 ?_
  refine R_bin fx_51_3 (xb_shr (k := 15) (by decide) (by omega)) ?_
  refine R_ret fx_51_4 (Or.inl rfl) ?_
  exact K
theorem C_52 {x : Nat} (h : x < 2147483648) (K : Q [.inl ((x / 1024 % 32 : Nat) : Int)] f) : Rf (SHL L) 52 0 (xloc 52 [.inl x]) [] f Q := by
  refine R_il fx_52_0 rfl ?_
  refine R_push fx_52_1 ?_
  refine R_bin fx_52_3 (xb_shr (k := 10) (by decide) (by omega)) ?_
  refine R_push fx_52_4 ?_
  refine R_bin fx_52_6 (xb_m31 (by omega)) ?_
  refine R_ret fx_52_7 (Or.inl rfl) ?_
  exact K
theorem C_53 {x : Nat} (h : x < 2147483648) (K : Q [.inl ((x / 32 % 32 : Nat) : Int)] f) : Rf (SHL L) 53 0 (xloc 53 [.inl x]) [] f Q := by
  refine R_il fx_53_0 rfl ?_
  refine R_push fx_53_1 ?_
  refine R_bin fx_53_2 (xb_shr (k := 5) (by decide) (by omega)) ?_
  refine R_push fx_53_3 ?_
  refine R_bin fx_53_5 (xb_m31 (by omega)) ?_
  refine R_ret fx_53_6 (Or.inl rfl) ?_
  exact K
theorem C_54 {x : Nat} (h : x < 2147483648) (K : Q [.inl ((x % 32 : Nat) : Int)] f) : Rf (SHL L) 54 0 (xloc 54 [.inl x]) [] f Q := by
  refine R_il fx_54_0 rfl ?_
  refine R_push fx_54_1 ?_
  refine R_bin fx_54_3 (xb_m31 (by omega)) ?_
  refine R_ret fx_54_4 (Or.inl rfl) ?_
  exact K
theorem C_55 {x : Nat} (h : x < 2147483648) (K : Q [.inl (((x / 32768 : Nat) : Int) - ((x / 1024 % 32 : Nat) : Int) - ((x / 32 % 32 : Nat) : Int) - ((x % 32 : Nat) : Int))] f) : Rf (SHL L) 55 0 (xloc 55 [.inl x]) [] f Q := by
  refine R_il fx_55_0 rfl ?_
  refine R_cs fx_55_1 rfl rfl rfl rfl ?_
  refine C_51 (by omega) ?_
  refine R_il fx_55_4 rfl ?_
  refine R_cs fx_55_5 rfl rfl rfl rfl ?_
  refine C_52 (by omega) ?_
  refine R_sub fx_55_8 ?_
  refine R_il fx_55_9 rfl ?_
  refine R_cs fx_55_10 rfl rfl rfl rfl ?_
  refine C_53 (by omega) ?_
  refine R_sub fx_55_13 ?_
  refine R_il fx_55_14 rfl ?_
  refine R_cs fx_55_15 rfl rfl rfl rfl ?_
  refine C_54 (by omega) ?_
  refine R_sub fx_55_18 ?_
  refine R_ret fx_55_19 (Or.inl rfl) ?_
  exact K
theorem C_62 {s r : Int} (hs : 0 ≤ s ∧ s < 8) (hr : 0 ≤ r ∧ r < 12) (K : Q [.inl (f 143 (s * 12 + r).toNat)] f) : Rf (SHL L) 62 0 (xloc 62 [.inr 142, .inl s, .inl r]) [] f Q := by
  refine R_al fx_62_0 rfl (by omega) ?_
  refine R_gr fx_62_1 kd_142 rfl rr_142_0 ?_
  refine R_il fx_62_4 rfl ?_
  refine R_push fx_62_5 ?_
  refine R_mul fx_62_7 ?_
  refine R_il fx_62_8 rfl ?_
  refine R_add fx_62_9 ?_
  refine R_ia fx_62_10 (Or.inl kd_143) (by omega) (by rw [ln_143]; omega) (by omega) ?_
  refine R_ret fx_62_11 (Or.inl rfl) ?_
  exact K
theorem C_70 {k r q : Int} (hk : 0 ≤ k ∧ k < 4) (hr : 0 ≤ r ∧ r < 12) (hq : 0 ≤ q ∧ q < 12) (K : Q [.inl (f 144 ((k * 12 + r) * 12 + q).toNat)] f) : Rf (SHL L) 70 0 (xloc 70 [.inr 142, .inl k, .inl r, .inl q]) [] f Q := by
  refine R_al fx_70_0 rfl (by omega) ?_
  refine R_gr fx_70_1 kd_142 rfl rr_142_1 ?_
  refine R_il fx_70_4 rfl ?_
  refine R_push fx_70_5 ?_
  refine R_mul fx_70_7 ?_
  refine R_il fx_70_8 rfl ?_
  refine R_add fx_70_9 ?_
  refine R_push fx_70_10 ?_
  refine R_mul fx_70_12 ?_
  refine R_il fx_70_13 rfl ?_
  refine R_add fx_70_14 ?_
  refine R_ia fx_70_15 (Or.inl kd_144) (by omega) (by rw [ln_144]; omega) (by omega) ?_
  refine R_ret fx_70_16 (Or.inl rfl) ?_
  exact K
theorem C_71 (h : xok (f 141 6)) (K1 : f 141 6 < 268435456 → Q [.inl 1] f) (K0 : ¬ f 141 6 < 268435456 → Q [.inl 0] f) : Rf (SHL L) 71 0 (xloc 71 [.inr 141]) [] f Q := by
  refine R_al fx_71_0 rfl (by omega) ?_
  refine R_gf fx_71_1 kd_141 rfl ?_
  refine R_push fx_71_4 ?_
  refine R_icge fx_71_6 (by omega) (fun hc => ?_) (fun hc => ?_)
  · refine R_push fx_71_13 ?_
    refine R_ret fx_71_14 (by decide) ?_
    first | exact K1 (by omega) | exact K0 (by omega)
  · refine R_push fx_71_9 ?_
    refine R_goto fx_71_10 ?_
    refine R_ret fx_71_14 (by decide) ?_
    first | exact K1 (by omega) | exact K0 (by omega)
theorem C_15 (K : Q [] (xup f 141 8 0)) : Rf (SHL L) 15 0 (xloc 15 [.inr 141]) [] f Q := by
  refine R_al fx_15_0 rfl (by omega) ?_
  refine R_push fx_15_1 ?_
  refine R_pf fx_15_2 kd_141 rfl (fun _ => by omega) ?_
  refine R_retv fx_15_5 rfl ?_
  exact K
theorem C_86 {s : Nat} (hs : s < 8) (K : Q [.inl (256 + ((1 * 2 ^ s : Nat) : Int))] f) : Rf (SHL L) 86 0 (xloc 86 [.inl s]) [] f Q := by
  refine R_push fx_86_0 ?_
  refine R_push fx_86_3 ?_
  refine R_il fx_86_4 rfl ?_
  refine R_bin fx_86_5 (xb_shl (x := 1) (by omega) (x256 s hs)) ?_
  refine R_add fx_86_6 ?_
  refine R_ret fx_86_7 (Or.inl rfl) ?_
  exact K
theorem C_74 {u t c : Int} (hu : 0 ≤ u ∧ u < 4096) (ht : 0 ≤ t ∧ t < 4096) (hc0 : xok c) (hf : ∀ j, j < 4096 → 0 ≤ f 145 j ∧ f 145 j ≤ 268435456) (hs : c = 268435456 ∨ (0 ≤ c ∧ c ≤ 1000)) (K1 : c ≠ 268435456 ∧ f 145 t.toNat ≠ 268435456 ∧ c + f 145 t.toNat = f 145 u.toNat → Q [.inl 1] f) (K0 : ¬ (c ≠ 268435456 ∧ f 145 t.toNat ≠ 268435456 ∧ c + f 145 t.toNat = f 145 u.toNat) → Q [.inl 0] f) : Rf (SHL L) 74 0 (xloc 74 [.inr 141, .inl u, .inl t, .inl c]) [] f Q := by
  have h1 := hf u.toNat (by omega)
  have h2 := hf t.toNat (by omega)
  refine R_il fx_74_0 rfl ?_
  refine R_push fx_74_1 ?_
  refine R_iceq fx_74_3 (by omega) (fun hc => ?_) (fun hc => ?_)
  · refine R_push fx_74_38 ?_
    refine R_ret fx_74_39 (by decide) ?_
    first | exact K1 (by omega) | exact K0 (by omega)
  · refine R_al fx_74_6 rfl (by omega) ?_
    refine R_gr fx_74_7 kd_141 rfl rr_141_1 ?_
    refine R_il fx_74_10 rfl ?_
    refine R_ia fx_74_11 (Or.inl kd_145) (by omega) (by rw [ln_145]; omega) (by omega) ?_
    refine R_push fx_74_12 ?_
    refine R_iceq fx_74_14 (by omega) (fun hc => ?_) (fun hc => ?_)
    · refine R_push fx_74_38 ?_
      refine R_ret fx_74_39 (by decide) ?_
      first | exact K1 (by omega) | exact K0 (by omega)
    · refine R_il fx_74_17 rfl ?_
      refine R_al fx_74_18 rfl (by omega) ?_
      refine R_gr fx_74_19 kd_141 rfl rr_141_1 ?_
      refine R_il fx_74_22 rfl ?_
      refine R_ia fx_74_23 (Or.inl kd_145) (by omega) (by rw [ln_145]; omega) (by omega) ?_
      refine R_add fx_74_24 ?_
      refine R_al fx_74_25 rfl (by omega) ?_
      refine R_gr fx_74_26 kd_141 rfl rr_141_1 ?_
      refine R_il fx_74_29 rfl ?_
      refine R_ia fx_74_30 (Or.inl kd_145) (by omega) (by rw [ln_145]; omega) (by omega) ?_
      refine R_icne fx_74_31 (by omega) (fun hc => ?_) (fun hc => ?_)
      · refine R_push fx_74_38 ?_
        refine R_ret fx_74_39 (by decide) ?_
        first | exact K1 (by omega) | exact K0 (by omega)
      · refine R_push fx_74_34 ?_
        refine R_goto fx_74_35 ?_
        refine R_ret fx_74_39 (by decide) ?_
        first | exact K1 (by omega) | exact K0 (by omega)
theorem C_13 {a b : Nat} (ha : 0 < a) (hb : 0 < b) (hka : xkd (SHL L) a = 13) (hkb : xkd (SHL L) b = 13) (hab : b ≠ a) (K : ∀ f2 : xF, (∀ i, i < 7 → f2 a i = f b i) → (∀ c, c ≠ a → f2 c = f c) → Q [] f2) : Rf (SHL L) 13 0 (xloc 13 [.inr a, .inr b]) [] f Q := by
  refine R_al fx_13_0 rfl (by omega) ?_
  refine R_al fx_13_1 rfl (by omega) ?_
  refine R_gf fx_13_2 (by assumption) rfl ?_
  refine R_pf fx_13_5 (by assumption) rfl (fun h => absurd h (by decide)) ?_
  refine R_al fx_13_8 rfl (by omega) ?_
  refine R_al fx_13_9 rfl (by omega) ?_
  refine R_gf fx_13_10 (by assumption) rfl ?_
  refine R_pf fx_13_13 (by assumption) rfl (fun h => absurd h (by decide)) ?_
  refine R_al fx_13_16 rfl (by omega) ?_
  refine R_al fx_13_17 rfl (by omega) ?_
  refine R_gf fx_13_18 (by assumption) rfl ?_
  refine R_pf fx_13_21 (by assumption) rfl (fun h => absurd h (by decide)) ?_
  refine R_al fx_13_24 rfl (by omega) ?_
  refine R_al fx_13_25 rfl (by omega) ?_
  refine R_gf fx_13_26 (by assumption) rfl ?_
  refine R_pf fx_13_29 (by assumption) rfl (fun h => absurd h (by decide)) ?_
  refine R_al fx_13_32 rfl (by omega) ?_
  refine R_al fx_13_33 rfl (by omega) ?_
  refine R_gf fx_13_34 (by assumption) rfl ?_
  refine R_pf fx_13_37 (by assumption) rfl (fun h => absurd h (by decide)) ?_
  refine R_al fx_13_40 rfl (by omega) ?_
  refine R_al fx_13_41 rfl (by omega) ?_
  refine R_gf fx_13_42 (by assumption) rfl ?_
  refine R_pf fx_13_45 (by assumption) rfl (fun h => absurd h (by decide)) ?_
  refine R_al fx_13_48 rfl (by omega) ?_
  refine R_al fx_13_49 rfl (by omega) ?_
  refine R_gf fx_13_50 (by assumption) rfl ?_
  refine R_pf fx_13_53 (by assumption) rfl (fun h => absurd h (by decide)) ?_
  refine R_retv fx_13_56 rfl ?_
  exact K _ (fun i hi => by rcases (show i = 0 ∨ i = 1 ∨ i = 2 ∨ i = 3 ∨ i = 4 ∨ i = 5 ∨ i = 6 by omega) with rfl | rfl | rfl | rfl | rfl | rfl | rfl <;> simp [xup, hab]) (fun c hc => by funext i; simp [xup, hc])
theorem C_16 {a : Nat} {p t q : Int} (ha : 0 < a) (hka : xkd (SHL L) a = 13) (K : ∀ f2 : xF, (f2 a 0 = p ∧ f2 a 1 = t ∧ f2 a 2 = q ∧ f2 a 3 = 0 ∧ f2 a 4 = -1 ∧ f2 a 5 = -1 ∧ f2 a 6 = 0) → (∀ c, c ≠ a → f2 c = f c) → Q [] f2) : Rf (SHL L) 16 0 (xloc 16 [.inr a, .inl p, .inl t, .inl q]) [] f Q := by
  refine R_al fx_16_0 rfl (by omega) ?_
  refine R_il fx_16_1 rfl ?_
  refine R_pf fx_16_2 (by assumption) rfl (fun h => absurd h (by decide)) ?_
  refine R_al fx_16_5 rfl (by omega) ?_
  refine R_il fx_16_6 rfl ?_
  refine R_pf fx_16_7 (by assumption) rfl (fun h => absurd h (by decide)) ?_
  refine R_al fx_16_10 rfl (by omega) ?_
  refine R_il fx_16_11 rfl ?_
  refine R_pf fx_16_12 (by assumption) rfl (fun h => absurd h (by decide)) ?_
  refine R_al fx_16_15 rfl (by omega) ?_
  refine R_push fx_16_16 ?_
  refine R_pf fx_16_17 (by assumption) rfl (fun h => absurd h (by decide)) ?_
  refine R_al fx_16_20 rfl (by omega) ?_
  refine R_push fx_16_21 ?_
  refine R_pf fx_16_22 (by assumption) rfl (fun h => absurd h (by decide)) ?_
  refine R_al fx_16_25 rfl (by omega) ?_
  refine R_push fx_16_26 ?_
  refine R_pf fx_16_27 (by assumption) rfl (fun h => absurd h (by decide)) ?_
  refine R_al fx_16_30 rfl (by omega) ?_
  refine R_push fx_16_31 ?_
  refine R_pf fx_16_32 (by assumption) rfl (fun h => absurd h (by decide)) ?_
  refine R_retv fx_16_35 rfl ?_
  exact K _ (by simp [xup]) (fun c hc => by funext i; simp [xup, hc])
theorem C_80 {a : Nat} {p s : Int} (ha : 0 < a) (hka : xkd (SHL L) a = 13) (K : Q [] (xup (xup (xup f a 3 1) a 4 p) a 5 s)) : Rf (SHL L) 80 0 (xloc 80 [.inr a, .inl p, .inl s]) [] f Q := by
  refine R_al fx_80_0 rfl (by omega) ?_
  refine R_push fx_80_1 ?_
  refine R_pf fx_80_2 (by assumption) rfl (fun h => absurd h (by decide)) ?_
  refine R_al fx_80_5 rfl (by omega) ?_
  refine R_il fx_80_6 rfl ?_
  refine R_pf fx_80_7 (by assumption) rfl (fun h => absurd h (by decide)) ?_
  refine R_al fx_80_10 rfl (by omega) ?_
  refine R_il fx_80_11 rfl ?_
  refine R_pf fx_80_12 (by assumption) rfl (fun h => absurd h (by decide)) ?_
  refine R_retv fx_80_15 rfl ?_
  exact K
theorem C_25 {a : Nat} {i j : Int} (ha : 0 < a) (hka : xkd (SHL L) a = 13) (hi : xok i) (hj : xok j) (h1 : 1 ≤ f a 1 ∧ f a 1 ≤ 20) (h2 : 0 ≤ f a 2 ∧ f a 2 ≤ 20) (K1 : (0 ≤ i ∧ i ≤ f a 2) ∧ 0 ≤ j ∧ j < f a 1 → Q [.inl 1] f) (K0 : ¬ ((0 ≤ i ∧ i ≤ f a 2) ∧ 0 ≤ j ∧ j < f a 1) → Q [.inl 0] f) : Rf (SHL L) 25 0 (xloc 25 [.inr a, .inl i, .inl j]) [] f Q := by
  refine R_il fx_25_0 rfl ?_
  refine R_push fx_25_1 ?_
  refine R_al fx_25_2 rfl (by omega) ?_
  refine R_gf fx_25_3 (by assumption) rfl ?_
  refine R_cs fx_25_6 rfl rfl rfl rfl ?_
  refine C_9 (by omega) (by omega) (by omega) (fun hc => ?_) (fun hc => ?_)
  · refine R_ifeq fx_25_9 (by decide) (fun h => absurd h (by decide)) (fun _ => ?_)
    refine R_il fx_25_12 rfl ?_
    refine R_push fx_25_13 ?_
    refine R_al fx_25_14 rfl (by omega) ?_
    refine R_gf fx_25_15 (by assumption) rfl ?_
    refine R_push fx_25_18 ?_
    refine R_sub fx_25_19 ?_
    refine R_cs fx_25_20 rfl rfl rfl rfl ?_
    refine C_9 (by omega) (by omega) (by omega) (fun hc => ?_) (fun hc => ?_)
    · refine R_ifeq fx_25_23 (by decide) (fun h => absurd h (by decide)) (fun _ => ?_)
      refine R_push fx_25_26 ?_
      refine R_goto fx_25_27 ?_
      refine R_ret fx_25_31 (by decide) ?_
      first | exact K1 (by omega) | exact K0 (by omega)
    · refine R_ifeq fx_25_23 (by decide) (fun _ => ?_) (fun h => absurd h (by decide))
      refine R_push fx_25_30 ?_
      refine R_ret fx_25_31 (by decide) ?_
      first | exact K1 (by omega) | exact K0 (by omega)
  · refine R_ifeq fx_25_9 (by decide) (fun _ => ?_) (fun h => absurd h (by decide))
    refine R_push fx_25_30 ?_
    refine R_ret fx_25_31 (by decide) ?_
    first | exact K1 (by omega) | exact K0 (by omega)
theorem C_26 {a j : Nat} {i ri : Int} (ha : 0 < a) (hka : xkd (SHL L) a = 13) (hj : j < 100000) (K : ∀ f2 : xF, (f2 a 0 = f a 0 + i * ri - dr (f a 1) j ∧ f2 a 1 = f a 1 - j ∧ f2 a 2 = f a 2 - i ∧ f2 a 3 = f a 3 ∧ f2 a 4 = f a 4 ∧ f2 a 5 = f a 5 ∧ f2 a 6 = f a 6 + (i + j)) → (∀ c, c ≠ a → f2 c = f c) → Q [] f2) : Rf (SHL L) 26 0 (xloc 26 [.inr a, .inl i, .inl (j : Int), .inl ri]) [] f Q := by
  have loop : ∀ (n m : Nat) (g : xF), m + n = j → g a 0 = f a 0 + i * ri - dr (f a 1) m → g a 1 = f a 1 - m → g a 2 = f a 2 - i → g a 3 = f a 3 → g a 4 = f a 4 → g a 5 = f a 5 → g a 6 = f a 6 → (∀ c, c ≠ a → g c = f c) → Rf (SHL L) 26 25 [some (.inr a), some (.inl i), some (.inl (j : Int)), some (.inl ri), some (.inl (m : Int))] [] g Q := by
    intro n
    induction n with
    | zero =>
      intro m g hm e0 e1 e2 e3 e4 e5 e6 ec
      have hmj : m = j := by omega
      subst hmj
      refine R_il fx_26_25 rfl ?_
      refine R_il fx_26_27 rfl ?_
      refine R_icge fx_26_28 (by omega) (fun hc => ?_) (fun hc => by omega)
      refine R_al fx_26_60 rfl (by omega) ?_
      refine R_dup fx_26_61 ?_
      refine R_gf fx_26_62 (by assumption) rfl ?_
      refine R_il fx_26_65 rfl ?_
      refine R_il fx_26_66 rfl ?_
      refine R_add fx_26_67 ?_
      refine R_add fx_26_68 ?_
      refine R_pf fx_26_69 (by assumption) rfl (fun h => absurd h (by decide)) ?_
      refine R_retv fx_26_72 rfl ?_
      exact K _ ⟨by simp [xup, e0], by simp [xup, e1], by simp [xup, e2], by simp [xup, e3], by simp [xup, e4], by simp [xup, e5], by simp [xup, e6]⟩ (fun c hc => by funext z; simp [xup, hc, ec c hc])
    | succ n ih =>
      intro m g hm e0 e1 e2 e3 e4 e5 e6 ec
      refine R_il fx_26_25 rfl ?_
      refine R_il fx_26_27 rfl ?_
      refine R_icge fx_26_28 (by omega) (fun hc => by omega) (fun hc => ?_)
      refine R_al fx_26_31 rfl (by omega) ?_
      refine R_dup fx_26_32 ?_
      refine R_gf fx_26_33 (by assumption) rfl ?_
      refine R_al fx_26_36 rfl (by omega) ?_
      refine R_gf fx_26_37 (by assumption) rfl ?_
      refine R_sub fx_26_40 ?_
      refine R_pf fx_26_41 (by assumption) rfl (fun h => absurd h (by decide)) ?_
      refine R_al fx_26_44 rfl (by omega) ?_
      refine R_dup fx_26_45 ?_
      refine R_gf fx_26_46 (by assumption) rfl ?_
      refine R_push fx_26_49 ?_
      refine R_sub fx_26_50 ?_
      refine R_pf fx_26_51 (by assumption) rfl (fun h => absurd h (by decide)) ?_
      refine R_inc fx_26_54 rfl ?_
      refine R_goto fx_26_57 ?_
      refine ih (m + 1) _ (by omega) ?_ ?_ ?_ ?_ ?_ ?_ ?_ ?_
      · simp [xup, e0, e1, dr]; omega
      · simp [xup, e1]; omega
      · simp [xup, e2]
      · simp [xup, e3]
      · simp [xup, e4]
      · simp [xup, e5]
      · simp [xup, e6]
      · intro c hc; funext z; simp [xup, hc, ec c hc]
  refine R_al fx_26_0 rfl (by omega) ?_
  refine R_dup fx_26_1 ?_
  refine R_gf fx_26_2 (by assumption) rfl ?_
  refine R_il fx_26_5 rfl ?_
  refine R_il fx_26_6 rfl ?_
  refine R_mul fx_26_7 ?_
  refine R_add fx_26_8 ?_
  refine R_pf fx_26_9 (by assumption) rfl (fun h => absurd h (by decide)) ?_
  refine R_al fx_26_12 rfl (by omega) ?_
  refine R_dup fx_26_13 ?_
  refine R_gf fx_26_14 (by assumption) rfl ?_
  refine R_il fx_26_17 rfl ?_
  refine R_sub fx_26_18 ?_
  refine R_pf fx_26_19 (by assumption) rfl (fun h => absurd h (by decide)) ?_
  refine R_push fx_26_22 ?_
  refine R_is fx_26_23 ?_
  refine loop j 0 _ (by omega) ?_ ?_ ?_ ?_ ?_ ?_ ?_ ?_
  · simp [xup, dr]
  · simp [xup]
  · simp [xup]
  · simp [xup]
  · simp [xup]
  · simp [xup]
  · simp [xup]
  · intro c hc; funext z; simp [xup, hc]
end LF
end
section
/-! ===== states, the history ===== -/
def SA (L A : Nat) : Prop := (3 < A ∧ xkd (SHL L) A = 14 ∧ xrr (SHL L) A 0 = A + 1 ∧ xrr (SHL L) A 1 = A + 2 ∧ xrr (SHL L) A 2 = A + 3 ∧ xrr (SHL L) A 3 = A + 4) ∧ (xkd (SHL L) (A + 1) = 2 ∧ xln (SHL L) (A + 1) = 12) ∧ (xkd (SHL L) (A + 2) = 1 ∧ xln (SHL L) (A + 2) = 8) ∧ (xkd (SHL L) (A + 3) = 1 ∧ xln (SHL L) (A + 3) = 4) ∧ (xkd (SHL L) (A + 4) = 1 ∧ xln (SHL L) (A + 4) = 4) ∧ ∀ r, r < 12 → xrr (SHL L) (A + 1) r = A + 5 + r ∧ xkd (SHL L) (A + 5 + r) = 13
theorem SA_4 (L : Nat) : SA L 4 := ⟨⟨by omega, rfl, rfl, rfl, rfl, rfl⟩, ⟨rfl, rfl⟩, ⟨rfl, rfl⟩, ⟨rfl, rfl⟩, ⟨rfl, rfl⟩, x12 ⟨⟨rfl, rfl⟩, ⟨rfl, rfl⟩, ⟨rfl, rfl⟩, ⟨rfl, rfl⟩, ⟨rfl, rfl⟩, ⟨rfl, rfl⟩, ⟨rfl, rfl⟩, ⟨rfl, rfl⟩, ⟨rfl, rfl⟩, ⟨rfl, rfl⟩, ⟨rfl, rfl⟩, ⟨rfl, rfl⟩⟩⟩
theorem SA_23 (L : Nat) : SA L 23 := ⟨⟨by omega, rfl, rfl, rfl, rfl, rfl⟩, ⟨rfl, rfl⟩, ⟨rfl, rfl⟩, ⟨rfl, rfl⟩, ⟨rfl, rfl⟩, x12 ⟨⟨rfl, rfl⟩, ⟨rfl, rfl⟩, ⟨rfl, rfl⟩, ⟨rfl, rfl⟩, ⟨rfl, rfl⟩, ⟨rfl, rfl⟩, ⟨rfl, rfl⟩, ⟨rfl, rfl⟩, ⟨rfl, rfl⟩, ⟨rfl, rfl⟩, ⟨rfl, rfl⟩, ⟨rfl, rfl⟩⟩⟩
theorem SA_40 (L : Nat) : SA L 40 := ⟨⟨by omega, rfl, rfl, rfl, rfl, rfl⟩, ⟨rfl, rfl⟩, ⟨rfl, rfl⟩, ⟨rfl, rfl⟩, ⟨rfl, rfl⟩, x12 ⟨⟨rfl, rfl⟩, ⟨rfl, rfl⟩, ⟨rfl, rfl⟩, ⟨rfl, rfl⟩, ⟨rfl, rfl⟩, ⟨rfl, rfl⟩, ⟨rfl, rfl⟩, ⟨rfl, rfl⟩, ⟨rfl, rfl⟩, ⟨rfl, rfl⟩, ⟨rfl, rfl⟩, ⟨rfl, rfl⟩⟩⟩
theorem SA_57 (L : Nat) : SA L 57 := ⟨⟨by omega, rfl, rfl, rfl, rfl, rfl⟩, ⟨rfl, rfl⟩, ⟨rfl, rfl⟩, ⟨rfl, rfl⟩, ⟨rfl, rfl⟩, x12 ⟨⟨rfl, rfl⟩, ⟨rfl, rfl⟩, ⟨rfl, rfl⟩, ⟨rfl, rfl⟩, ⟨rfl, rfl⟩, ⟨rfl, rfl⟩, ⟨rfl, rfl⟩, ⟨rfl, rfl⟩, ⟨rfl, rfl⟩, ⟨rfl, rfl⟩, ⟨rfl, rfl⟩, ⟨rfl, rfl⟩⟩⟩
theorem SA_74 (L : Nat) : SA L 74 := ⟨⟨by omega, rfl, rfl, rfl, rfl, rfl⟩, ⟨rfl, rfl⟩, ⟨rfl, rfl⟩, ⟨rfl, rfl⟩, ⟨rfl, rfl⟩, x12 ⟨⟨rfl, rfl⟩, ⟨rfl, rfl⟩, ⟨rfl, rfl⟩, ⟨rfl, rfl⟩, ⟨rfl, rfl⟩, ⟨rfl, rfl⟩, ⟨rfl, rfl⟩, ⟨rfl, rfl⟩, ⟨rfl, rfl⟩, ⟨rfl, rfl⟩, ⟨rfl, rfl⟩, ⟨rfl, rfl⟩⟩⟩
theorem SA_91 (L : Nat) : SA L 91 := ⟨⟨by omega, rfl, rfl, rfl, rfl, rfl⟩, ⟨rfl, rfl⟩, ⟨rfl, rfl⟩, ⟨rfl, rfl⟩, ⟨rfl, rfl⟩, x12 ⟨⟨rfl, rfl⟩, ⟨rfl, rfl⟩, ⟨rfl, rfl⟩, ⟨rfl, rfl⟩, ⟨rfl, rfl⟩, ⟨rfl, rfl⟩, ⟨rfl, rfl⟩, ⟨rfl, rfl⟩, ⟨rfl, rfl⟩, ⟨rfl, rfl⟩, ⟨rfl, rfl⟩, ⟨rfl, rfl⟩⟩⟩
theorem SA_108 (L : Nat) : SA L 108 := ⟨⟨by omega, rfl, rfl, rfl, rfl, rfl⟩, ⟨rfl, rfl⟩, ⟨rfl, rfl⟩, ⟨rfl, rfl⟩, ⟨rfl, rfl⟩, x12 ⟨⟨rfl, rfl⟩, ⟨rfl, rfl⟩, ⟨rfl, rfl⟩, ⟨rfl, rfl⟩, ⟨rfl, rfl⟩, ⟨rfl, rfl⟩, ⟨rfl, rfl⟩, ⟨rfl, rfl⟩, ⟨rfl, rfl⟩, ⟨rfl, rfl⟩, ⟨rfl, rfl⟩, ⟨rfl, rfl⟩⟩⟩
theorem SA_ring (L : Nat) : ∀ t, t < 6 → SA L (23 + 17 * t) := x6 ⟨SA_23 L, SA_40 L, SA_57 L, SA_74 L, SA_91 L, SA_108 L⟩
section ST
variable {L : Nat} {f : xF} {Q : List xV → xF → Prop}
theorem C_12 {A D : Nat} (hA : SA L A) (hB : SA L D) (hd : A + 17 ≤ D ∨ D + 17 ≤ A) (K : ∀ f2 : xF, (f2 A 4 = f D 4 ∧ f2 A 5 = f D 5 ∧ f2 A 6 = f D 6 ∧ f2 A 7 = f D 7) → (∀ s, s < 8 → f2 (A + 2) s = f (D + 2) s) → (∀ k, k < 4 → f2 (A + 3) k = f (D + 3) k) → (∀ k, k < 4 → f2 (A + 4) k = f (D + 4) k) → (∀ r, r < 12 → ∀ j, j < 7 → f2 (A + 5 + r) j = f (D + 5 + r) j) → (∀ c, (c < A ∨ A + 17 ≤ c) → f2 c = f c) → Q [] f2) : Rf (SHL L) 12 0 (xloc 12 [.inr A, .inr D]) [] f Q := by
  have h3 : 3 < A ∧ 3 < D := ⟨hA.1.1, hB.1.1⟩
  have loop : ∀ (n m : Nat) (g : xF), m + n = 12 → (∀ r, r < m → ∀ j, j < 7 → g (A + 5 + r) j = f (D + 5 + r) j) → (∀ c, (c < A + 5 ∨ A + 17 ≤ c) → g c = f c) → Rf (SHL L) 12 2 [some (.inr A), some (.inr D), some (.inl (m : Int))] [] g Q := by
    intro n
    induction n with
    | zero =>
      intro m g hm e1 e2
      have hm12 : m = 12 := by omega
      subst hm12
      refine R_il fx_12_2 rfl ?_
      refine R_push fx_12_3 ?_
      refine R_icge fx_12_5 (by omega) (fun hc => ?_) (fun hc => by omega)
      refine R_al fx_12_29 rfl (by omega) ?_
      refine R_gr fx_12_30 hB.1.2.1 rfl hB.1.2.2.2.1 ?_
      refine R_push fx_12_33 ?_
      refine R_al fx_12_34 rfl (by omega) ?_
      refine R_gr fx_12_35 hA.1.2.1 rfl hA.1.2.2.2.1 ?_
      refine R_push fx_12_38 ?_
      refine R_push fx_12_39 ?_
      refine R_cpy fx_12_41 ⟨hB.2.2.1.1, hA.2.2.1.1⟩ (by omega) (by omega) (by omega) (by rw [hB.2.2.1.2]; omega) (by rw [hA.2.2.1.2]; omega) (by decide) ?_
      refine R_al fx_12_44 rfl (by omega) ?_
      refine R_gr fx_12_45 hB.1.2.1 rfl hB.1.2.2.2.2.1 ?_
      refine R_push fx_12_48 ?_
      refine R_al fx_12_49 rfl (by omega) ?_
      refine R_gr fx_12_50 hA.1.2.1 rfl hA.1.2.2.2.2.1 ?_
      refine R_push fx_12_53 ?_
      refine R_push fx_12_54 ?_
      refine R_cpy fx_12_55 ⟨hB.2.2.2.1.1, hA.2.2.2.1.1⟩ (by omega) (by omega) (by omega) (by rw [hB.2.2.2.1.2]; omega) (by rw [hA.2.2.2.1.2]; omega) (by decide) ?_
      refine R_al fx_12_58 rfl (by omega) ?_
      refine R_gr fx_12_59 hB.1.2.1 rfl hB.1.2.2.2.2.2 ?_
      refine R_push fx_12_62 ?_
      refine R_al fx_12_63 rfl (by omega) ?_
      refine R_gr fx_12_64 hA.1.2.1 rfl hA.1.2.2.2.2.2 ?_
      refine R_push fx_12_67 ?_
      refine R_push fx_12_68 ?_
      refine R_cpy fx_12_69 ⟨hB.2.2.2.2.1.1, hA.2.2.2.2.1.1⟩ (by omega) (by omega) (by omega) (by rw [hB.2.2.2.2.1.2]; omega) (by rw [hA.2.2.2.2.1.2]; omega) (by decide) ?_
      refine R_al fx_12_72 rfl (by omega) ?_
      refine R_al fx_12_73 rfl (by omega) ?_
      refine R_gf fx_12_74 hB.1.2.1 rfl ?_
      refine R_pf fx_12_77 hA.1.2.1 rfl (fun h => absurd h (by decide)) ?_
      refine R_al fx_12_80 rfl (by omega) ?_
      refine R_al fx_12_81 rfl (by omega) ?_
      refine R_gf fx_12_82 hB.1.2.1 rfl ?_
      refine R_pf fx_12_85 hA.1.2.1 rfl (fun h => absurd h (by decide)) ?_
      refine R_al fx_12_88 rfl (by omega) ?_
      refine R_al fx_12_89 rfl (by omega) ?_
      refine R_gf fx_12_90 hB.1.2.1 rfl ?_
      refine R_pf fx_12_93 hA.1.2.1 rfl (fun h => absurd h (by decide)) ?_
      refine R_al fx_12_96 rfl (by omega) ?_
      refine R_al fx_12_97 rfl (by omega) ?_
      refine R_gf fx_12_98 hB.1.2.1 rfl ?_
      refine R_pf fx_12_101 hA.1.2.1 rfl (fun h => absurd h (by decide)) ?_
      refine R_retv fx_12_104 rfl ?_
      refine K _ ⟨?_, ?_, ?_, ?_⟩ ?_ ?_ ?_ ?_ ?_
      · simp [xup, e2 D (by omega)]; intro h; omega
      · simp [xup, e2 D (by omega)]; intro h; omega
      · simp [xup, e2 D (by omega)]; intro h; omega
      · simp [xup, e2 D (by omega)]; intro h; omega
      · intro s hs; simp [xup, hs, e2 (D + 2) (by omega)]
      · intro k hk; simp [xup, hk, e2 (D + 3) (by omega)]
        intro h; omega
      · intro k hk; simp [xup, hk, show ¬ D + 1 = A by omega, show ¬ D + 2 = A by omega, e2 (D + 4) (by omega)]
      · intro r hr j hj
        have := e1 r hr j hj
        simp [xup, show ¬ A + 5 + r = A by omega, show ¬ A + 5 + r = A + 2 by omega, show ¬ A + 5 + r = A + 3 by omega, show ¬ A + 5 + r = A + 4 by omega, this]
      · intro c hc
        funext i
        simp [xup, show ¬ c = A by omega, show ¬ c = A + 2 by omega, show ¬ c = A + 3 by omega, show ¬ c = A + 4 by omega, e2 c (by omega)]
    | succ n ih =>
      intro m g hm e1 e2
      refine R_il fx_12_2 rfl ?_
      refine R_push fx_12_3 ?_
      refine R_icge fx_12_5 (by omega) (fun hc => by omega) (fun hc => ?_)
      refine R_al fx_12_8 rfl (by omega) ?_
      refine R_gr fx_12_9 hA.1.2.1 rfl hA.1.2.2.1 ?_
      refine R_il fx_12_12 rfl ?_
      refine R_aa fx_12_13 (Or.inl hA.2.1.1) (by omega) (by rw [hA.2.1.2]; omega) (by omega) (hA.2.2.2.2.2 m (by omega)).1 ?_
      refine R_al fx_12_14 rfl (by omega) ?_
      refine R_gr fx_12_15 hB.1.2.1 rfl hB.1.2.2.1 ?_
      refine R_il fx_12_18 rfl ?_
      refine R_aa fx_12_19 (Or.inl hB.2.1.1) (by omega) (by rw [hB.2.1.2]; omega) (by omega) (hB.2.2.2.2.2 m (by omega)).1 ?_
      refine R_cv fx_12_20 rfl rfl rfl rfl (hA.2.2.2.2.2 m (by omega)).2 ?_
      refine C_13 (by omega) (by omega) (hA.2.2.2.2.2 m (by omega)).2 (hB.2.2.2.2.2 m (by omega)).2 (by omega) (fun f2 h1 h2 => ?_)
      refine R_inc fx_12_23 rfl ?_
      refine R_goto fx_12_26 ?_
      refine ih (m + 1) f2 (by omega) (fun r hr j hj => ?_) (fun c hc => ?_)
      · by_cases e : r = m
        · subst e; rw [h1 j hj, e2 _ (by omega)]
        · rw [h2 _ (by omega)]; exact e1 r (by omega) j hj
      · rw [h2 _ (by omega)]; exact e2 c hc
  refine R_push fx_12_0 ?_
  refine R_is fx_12_1 ?_
  exact loop 12 0 f (by omega) (fun r hr => absurd hr (by omega)) (fun _ _ => rfl)
end ST
end
section
/-! ===== the class state as a vector; the history ===== -/
/-- the vector of a state: 0 came, 1 rise, 2 off, 3 made, 4.. wanted, 12.. low, 16.. high, 20 + 7 r + j the reeds -/
def Sg (f : xF) (A : Nat) (G : Nat → Int) : Prop := (f A 4 = G 0 ∧ f A 5 = G 1 ∧ f A 6 = G 2 ∧ f A 7 = G 3) ∧ (∀ s, s < 8 → f (A + 2) s = G (4 + s)) ∧ (∀ k, k < 4 → f (A + 3) k = G (12 + k)) ∧ (∀ k, k < 4 → f (A + 4) k = G (16 + k)) ∧ ∀ r : Nat, r < 12 → (r : Int) < G 0 → ∀ j, j < 7 → f (A + 5 + r) j = G (20 + 7 * r + j)
theorem Sg.kept {f f2 : xF} {A : Nat} {G : Nat → Int} (h : Sg f A G) (he : ∀ c, A ≤ c → c < A + 17 → f2 c = f c) : Sg f2 A G := by
  obtain ⟨⟨h1, h2, h3, h4⟩, h5, h6, h7, h8⟩ := h
  rw [← he A (by omega) (by omega)] at h1 h2 h3 h4
  exact ⟨⟨h1, h2, h3, h4⟩, fun s hs => by rw [he _ (by omega) (by omega)]; exact h5 s hs, fun s hs => by rw [he _ (by omega) (by omega)]; exact h6 s hs, fun s hs => by rw [he _ (by omega) (by omega)]; exact h7 s hs, fun r hr hg j hj => by rw [he _ (by omega) (by omega)]; exact h8 r hr hg j hj⟩
def Hc (f : xF) (n x : Nat) (hi : Nat → Nat → Int) : Prop := n ≤ 6 ∧ x < 6 ∧ f 21 1 = n ∧ f 21 2 = x ∧ ∀ i, i < n → Sg f (23 + 17 * ((x + 5 - i) % 6)) (hi i)
def consG (G : Nat → Int) (hi : Nat → Nat → Int) : Nat → Nat → Int
  | 0 => G
  | i + 1 => hi i
section HI
variable {L : Nat} {f : xF} {Q : List xV → xF → Prop} {G : Nat → Int} {hi : Nat → Nat → Int} {n x : Nat}
theorem C_11 (hH : Hc f n x hi) (hS : Sg f 4 G) (K : ∀ f2 : xF, Hc f2 (min (n + 1) 6) ((x + 1) % 6) (consG G hi) → (∀ c, (c < 21 ∨ 125 ≤ c) → f2 c = f c) → Q [] f2) : Rf (SHL L) 11 0 (xloc 11 [.inr 21, .inr 4]) [] f Q := by
  obtain ⟨hn, hx, hn1, hn2, hst⟩ := hH
  have hx2 : (f 21 2).toNat = x := by rw [hn2]; exact Int.toNat_natCast x
  refine R_al fx_11_0 rfl (by omega) ?_
  refine R_gr fx_11_1 kd_21 rfl rr_21_0 ?_
  refine R_al fx_11_4 rfl (by omega) ?_
  refine R_gf fx_11_5 kd_21 rfl ?_
  refine R_aa fx_11_8 (Or.inr (Or.inl kd_22)) (by omega) (by rw [ln_22]; omega) (by omega) ((congrArg (xrr (SHL L) 22) hx2).trans (rr_ring x hx)) ?_
  refine R_al fx_11_9 rfl (by omega) ?_
  refine R_cv fx_11_10 rfl rfl rfl rfl (kd_ring x hx) ?_
  refine C_12 (SA_ring L x hx) (SA_4 L) (by omega) (fun f2 g1 g2 g3 g4 g5 g6 => ?_)
  have e1 : f2 21 1 = n := by rw [g6 21 (by omega)]; exact hn1
  have e2 : f2 21 2 = x := by rw [g6 21 (by omega)]; exact hn2
  have hG2 : Sg f2 (23 + 17 * x) G := by
    obtain ⟨⟨h1, h2, h3, h4⟩, h5, h6, h7, h8⟩ := hS
    exact ⟨⟨g1.1.trans h1, g1.2.1.trans h2, g1.2.2.1.trans h3, g1.2.2.2.trans h4⟩, fun s hs => (g2 s hs).trans (h5 s hs), fun s hs => (g3 s hs).trans (h6 s hs), fun s hs => (g4 s hs).trans (h7 s hs), fun r hr hg j hj => (g5 r hr j hj).trans (h8 r hr hg j hj)⟩
  have fin : ∀ f3 : xF, f3 21 1 = ((min (n + 1) 6 : Nat) : Int) → f3 21 2 = (((x + 1) % 6 : Nat) : Int) → (∀ c, c ≠ 21 → f3 c = f2 c) → Q [] f3 := fun f3 k1 k2 k3 => by
    refine K f3 ⟨by omega, by omega, k1, k2, fun i hi9 => ?_⟩ (fun c hc => by rw [k3 c (by omega), g6 c (by omega)])
    cases i with
    | zero =>
      have : (((x + 1) % 6 + 5 - 0) % 6) = x := by omega
      rw [this]
      exact hG2.kept (fun c h1 h2 => k3 c (by omega))
    | succ i =>
      have : (((x + 1) % 6 + 5 - (i + 1)) % 6) = (x + 5 - i) % 6 := by omega
      rw [this]
      have hne : (x + 5 - i) % 6 ≠ x := by omega
      refine (hst i (by omega)).kept (fun c h1 h2 => ?_)
      rw [k3 c (by omega)]
      refine g6 c ?_
      rcases Nat.lt_or_gt_of_ne hne with q | q
      · left; omega
      · right; omega
  refine R_al fx_11_13 rfl (by omega) ?_
  refine R_al fx_11_14 rfl (by omega) ?_
  refine R_gf fx_11_15 kd_21 rfl ?_
  refine R_push fx_11_18 ?_
  refine R_icne fx_11_19 (by omega) (fun hc => ?_) (fun hc => ?_)
  · refine R_al fx_11_26 rfl (by omega) ?_
    refine R_gf fx_11_27 kd_21 rfl ?_
    refine R_push fx_11_30 ?_
    refine R_add fx_11_31 ?_
    refine R_pf fx_11_32 kd_21 rfl (fun h => absurd h (by decide)) ?_
    refine R_al fx_11_35 rfl (by omega) ?_
    refine R_al fx_11_36 rfl (by omega) ?_
    refine R_gf fx_11_37 kd_21 rfl ?_
    refine R_push fx_11_40 ?_
    refine R_add fx_11_41 ?_
    refine R_push fx_11_42 ?_
    refine R_min fx_11_44 (by simp only [xup, e1] <;> omega) (by omega) ⟨by decide, by decide, Nat.le_of_ble_eq_true rfl⟩ ?_
    refine R_pf fx_11_47 kd_21 rfl (fun h => absurd h (by decide)) ?_
    refine R_retv fx_11_50 rfl ?_
    exact fin _ (by simp [xup, e1]; split <;> omega) (by simp [xup, e2]; omega) (fun c hc => by funext i; simp [xup, hc])
  · refine R_push fx_11_22 ?_
    refine R_goto fx_11_23 ?_
    refine R_pf fx_11_32 kd_21 rfl (fun h => absurd h (by decide)) ?_
    refine R_al fx_11_35 rfl (by omega) ?_
    refine R_al fx_11_36 rfl (by omega) ?_
    refine R_gf fx_11_37 kd_21 rfl ?_
    refine R_push fx_11_40 ?_
    refine R_add fx_11_41 ?_
    refine R_push fx_11_42 ?_
    refine R_min fx_11_44 (by simp only [xup, e1] <;> omega) (by omega) ⟨by decide, by decide, Nat.le_of_ble_eq_true rfl⟩ ?_
    refine R_pf fx_11_47 kd_21 rfl (fun h => absurd h (by decide)) ?_
    refine R_retv fx_11_50 rfl ?_
    exact fin _ (by simp [xup, e1]; split <;> omega) (by simp [xup, e2]; omega) (fun c hc => by funext i; simp [xup, hc])
theorem C_10 (hH : Hc f n x hi) (hS : Sg f 4 G) (K : ∀ f2 : xF, Hc f2 (min (n + 1) 6) ((x + 1) % 6) (consG G hi) → f2 141 8 = 0 → (∀ i, i ≠ 8 → f2 141 i = f 141 i) → (∀ c, (c < 21 ∨ 125 ≤ c) ∧ c ≠ 141 → f2 c = f c) → Q [] f2) : Rf (SHL L) 10 0 (xloc 10 [.inr 3]) [] f Q := by
  refine R_al fx_10_0 rfl (by omega) ?_
  refine R_gr fx_10_1 kd_3 rfl rr_3_1 ?_
  refine R_al fx_10_4 rfl (by omega) ?_
  refine R_gr fx_10_5 kd_3 rfl rr_3_0 ?_
  refine R_cv fx_10_8 rfl rfl rfl rfl kd_21 ?_
  refine C_11 hH hS (fun f2 g1 g2 => ?_)
  refine R_al fx_10_11 rfl (by omega) ?_
  refine R_gr fx_10_12 kd_3 rfl rr_3_3 ?_
  refine R_cv fx_10_15 rfl rfl rfl rfl kd_141 ?_
  refine C_15 ?_
  refine R_retv fx_10_18 rfl ?_
  refine K _ ?_ (by simp [xup]) (fun i h9 => by simp [xup, h9, g2 141 (by omega)]) (fun c hc => by rw [← g2 c hc.1]; funext i; simp [xup, hc.2])
  obtain ⟨q1, q2, q3, q4, q5⟩ := g1
  exact ⟨q1, q2, by simp [xup]; exact q3, by simp [xup]; exact q4, fun i h9 => (q5 i h9).kept (fun c h1 h2 => by funext z; simp [xup, show c ≠ 141 by omega])⟩
theorem C_90 (hH : Hc f n x hi) (K1 : 0 < n → ∀ f2 : xF, Sg f2 4 (hi 0) → Hc f2 (n - 1) ((x + 5) % 6) (fun i => hi (i + 1)) → (∀ c, (c < 4 ∨ 22 ≤ c) → f2 c = f c) → Q [.inl 1] f2) (K0 : n = 0 → Q [.inl 0] f) : Rf (SHL L) 90 0 (xloc 90 [.inr 21, .inr 4]) [] f Q := by
  obtain ⟨hn, hx, hn1, hn2, hst⟩ := hH
  have fin : ∀ f2 g : xF, 0 < n → g 21 1 = f 21 1 - 1 → g 21 2 = (((x + 5) % 6 : Nat) : Int) → (∀ c, c ≠ 21 → g c = f c) → (f2 4 4 = g (23 + 17 * ((x + 5) % 6)) 4 ∧ f2 4 5 = g (23 + 17 * ((x + 5) % 6)) 5 ∧ f2 4 6 = g (23 + 17 * ((x + 5) % 6)) 6 ∧ f2 4 7 = g (23 + 17 * ((x + 5) % 6)) 7) → (∀ s, s < 8 → f2 (4 + 2) s = g (23 + 17 * ((x + 5) % 6) + 2) s) → (∀ k, k < 4 → f2 (4 + 3) k = g (23 + 17 * ((x + 5) % 6) + 3) k) → (∀ k, k < 4 → f2 (4 + 4) k = g (23 + 17 * ((x + 5) % 6) + 4) k) → (∀ r, r < 12 → ∀ j, j < 7 → f2 (4 + 5 + r) j = g (23 + 17 * ((x + 5) % 6) + 5 + r) j) → (∀ c, (c < 4 ∨ 4 + 17 ≤ c) → f2 c = g c) → Q [.inl 1] f2 := fun f2 g h0 k1 k2 k3 g1 g2 g3 g4 g5 g6 => by
    have hg : ∀ c, c ≠ 21 → (c < 4 ∨ 21 ≤ c) → f2 c = f c := fun c h1 h2 => by rw [g6 c (by omega), k3 c h1]
    refine K1 h0 f2 ?_ ⟨by omega, by omega, ?_, ?_, fun i h9 => ?_⟩ (fun c hc => hg c (by omega) (by omega))
    · have hs := hst 0 h0
      rw [show (x + 5 - 0) % 6 = (x + 5) % 6 by omega] at hs
      have hs := hs.kept (f2 := g) (fun c h1 h2 => k3 c (by omega))
      obtain ⟨⟨h1, h2, h3, h4⟩, h5, h6, h7, h8⟩ := hs
      exact ⟨⟨g1.1.trans h1, g1.2.1.trans h2, g1.2.2.1.trans h3, g1.2.2.2.trans h4⟩, fun s hs => (g2 s hs).trans (h5 s hs), fun s hs => (g3 s hs).trans (h6 s hs), fun s hs => (g4 s hs).trans (h7 s hs), fun r hr hg j hj => (g5 r hr j hj).trans (h8 r hr hg j hj)⟩
    · rw [g6 21 (by omega), k1, hn1]; omega
    · rw [g6 21 (by omega), k2]
    · rw [show ((x + 5) % 6 + 5 - i) % 6 = (x + 5 - (i + 1)) % 6 by omega]
      exact (hst (i + 1) (by omega)).kept (fun c h1 h2 => hg c (by omega) (by omega))
  refine R_al fx_90_0 rfl (by omega) ?_
  refine R_gf fx_90_1 kd_21 rfl ?_
  refine R_ifne fx_90_4 (by omega) (fun hc => ?_) (fun hc => ?_)
  · refine R_al fx_90_9 rfl (by omega) ?_
    refine R_al fx_90_10 rfl (by omega) ?_
    refine R_gf fx_90_11 kd_21 rfl ?_
    refine R_ifne fx_90_14 (by omega) (fun hc => ?_) (fun hc => ?_)
    · refine R_al fx_90_21 rfl (by omega) ?_
      refine R_gf fx_90_22 kd_21 rfl ?_
      refine R_push fx_90_25 ?_
      refine R_sub fx_90_26 ?_
      refine R_pf fx_90_27 kd_21 rfl (fun h => absurd h (by decide)) ?_
      refine R_al fx_90_30 rfl (by omega) ?_
      refine R_dup fx_90_31 ?_
      refine R_gf fx_90_32 kd_21 rfl ?_
      refine R_push fx_90_35 ?_
      refine R_sub fx_90_36 ?_
      refine R_pf fx_90_37 kd_21 rfl (fun h => absurd h (by decide)) ?_
      refine R_al fx_90_40 rfl (by omega) ?_
      refine R_al fx_90_41 rfl (by omega) ?_
      refine R_gr fx_90_42 kd_21 rfl rr_21_0 ?_
      refine R_al fx_90_45 rfl (by omega) ?_
      refine R_gf fx_90_46 kd_21 rfl ?_
      refine R_aa fx_90_49 (Or.inr (Or.inl kd_22)) (by simp [xup] <;> omega) (by rw [ln_22]; simp [xup] <;> omega) (by simp [xup] <;> omega) ((congrArg (xrr (SHL L) 22) (show _ = (x + 5) % 6 by simp [xup] <;> omega)).trans (rr_ring ((x + 5) % 6) (by omega))) ?_
      refine R_cv fx_90_50 rfl rfl rfl rfl kd_4 ?_
      refine C_12 (SA_4 L) (SA_ring L ((x + 5) % 6) (by omega)) (by omega) (fun f2 g1 g2 g3 g4 g5 g6 => ?_)
      refine R_push fx_90_53 ?_
      refine R_ret fx_90_54 (by decide) ?_
      first | exact K0 (by omega) | exact fin f2 _ (by omega) (by simp [xup]) (by simp [xup] <;> omega) (fun c hc => by funext i; simp [xup, hc]) g1 g2 g3 g4 g5 g6
    · refine R_push fx_90_17 ?_
      refine R_goto fx_90_18 ?_
      refine R_pf fx_90_27 kd_21 rfl (fun h => absurd h (by decide)) ?_
      refine R_al fx_90_30 rfl (by omega) ?_
      refine R_dup fx_90_31 ?_
      refine R_gf fx_90_32 kd_21 rfl ?_
      refine R_push fx_90_35 ?_
      refine R_sub fx_90_36 ?_
      refine R_pf fx_90_37 kd_21 rfl (fun h => absurd h (by decide)) ?_
      refine R_al fx_90_40 rfl (by omega) ?_
      refine R_al fx_90_41 rfl (by omega) ?_
      refine R_gr fx_90_42 kd_21 rfl rr_21_0 ?_
      refine R_al fx_90_45 rfl (by omega) ?_
      refine R_gf fx_90_46 kd_21 rfl ?_
      refine R_aa fx_90_49 (Or.inr (Or.inl kd_22)) (by simp [xup] <;> omega) (by rw [ln_22]; simp [xup] <;> omega) (by simp [xup] <;> omega) ((congrArg (xrr (SHL L) 22) (show _ = (x + 5) % 6 by simp [xup] <;> omega)).trans (rr_ring ((x + 5) % 6) (by omega))) ?_
      refine R_cv fx_90_50 rfl rfl rfl rfl kd_4 ?_
      refine C_12 (SA_4 L) (SA_ring L ((x + 5) % 6) (by omega)) (by omega) (fun f2 g1 g2 g3 g4 g5 g6 => ?_)
      refine R_push fx_90_53 ?_
      refine R_ret fx_90_54 (by decide) ?_
      first | exact K0 (by omega) | exact fin f2 _ (by omega) (by simp [xup]) (by simp [xup] <;> omega) (fun c hc => by funext i; simp [xup, hc]) g1 g2 g3 g4 g5 g6
  · refine R_push fx_90_7 ?_
    refine R_ret fx_90_8 (by decide) ?_
    first | exact K0 (by omega) | exact fin f2 _ (by omega) (by simp [xup]) (by simp [xup] <;> omega) (fun c hc => by funext i; simp [xup, hc]) g1 g2 g3 g4 g5 g6
end HI
end
section
/-! ===== sets; the calls that only look or set ===== -/
def bset (p : Nat → Bool) : Nat → Nat
  | 0 => 0
  | n + 1 => if p n then bset p n + 2 ^ n else bset p n
theorem bset_lt (p : Nat → Bool) : ∀ n, bset p n < 2 ^ n
  | 0 => Nat.one_pos
  | n + 1 => by
    have := bset_lt p n
    unfold bset
    rw [Nat.pow_succ]
    split <;> omega
theorem bset_or (p : Nat → Bool) (n : Nat) : bset p n ||| 1 * 2 ^ n = bset p n + 2 ^ n := by
  rw [Nat.one_mul, Nat.or_comm]
  have := Nat.two_pow_add_eq_or_of_lt (bset_lt p n) 1
  rw [Nat.mul_one] at this
  rw [← this]; omega
theorem bset_bit (p : Nat → Bool) : ∀ n i, (bset p n).testBit i = (decide (i < n) && p i)
  | 0, i => by simp [bset]
  | n + 1, i => by
    have ih := bset_bit p n i
    have hl := bset_lt p n
    unfold bset
    split
    · rename_i hp
      rw [Nat.add_comm]
      by_cases h : i = n
      · subst h
        rw [Nat.testBit_two_pow_add_eq]
        have : (bset p i).testBit i = false := Nat.testBit_lt_two_pow hl
        simp [this, hp]
      · by_cases h2 : i < n
        · rw [Nat.testBit_two_pow_add_gt h2, ih]; simp [h2, Nat.lt_succ_of_lt h2]
        · have h3 : n + 1 ≤ i := by omega
          have : 2 ^ n + bset p n < 2 ^ i := Nat.lt_of_lt_of_le (by rw [Nat.pow_succ]; omega) (Nat.pow_le_pow_right (by omega) h3)
          rw [Nat.testBit_lt_two_pow this]
          simp [show ¬ i < n + 1 by omega]
    · rename_i hp
      rw [ih]
      by_cases h : i = n
      · subst h; simp [hp]
      · by_cases h2 : i < n
        · simp [h2, Nat.lt_succ_of_lt h2]
        · simp [h2, show ¬ i < n + 1 by omega]
theorem x2p : ∀ m : Nat, m < 12 → 2 ^ m ≤ 2048 := by decide
section SE
variable {L : Nat} {f : xF} {Q : List xV → xF → Prop}
end SE
def frp (f : xF) (r : Nat) : Bool := decide ((r : Int) < f 4 4 ∧ f (9 + r) 3 = 0)
def wsp (f : xF) (s : Nat) : Bool := decide (f 6 s ≠ -1)
section SE2
variable {L : Nat} {f : xF} {Q : List xV → xF → Prop}
theorem C_30 (hm : 0 ≤ f 4 4 ∧ f 4 4 ≤ 12) (hp : ∀ j : Nat, j < 12 → (j : Int) < f 4 4 → xok (f (9 + j) 3)) (K : Q [.inl ((bset (frp f) 12 : Nat) : Int)] f) : Rf (SHL L) 30 0 (xloc 30 [.inr 4]) [] f Q := by
  have loop : ∀ (n m : Nat), m + n = 12 → Rf (SHL L) 30 4 [some (.inr 4), some (.inl ((bset (frp f) m : Nat) : Int)), some (.inl (m : Int))] [] f Q := by
    intro n
    induction n with
    | zero =>
      intro m hmn
      have hmj : m = 12 := by omega
      subst hmj
      refine R_il fx_30_4 rfl ?_
      refine R_push fx_30_5 ?_
      refine R_icge fx_30_7 (by omega) (fun hc => ?_) (fun hc => by omega)
      refine R_il fx_30_30 rfl ?_
      refine R_ret fx_30_31 (Or.inl rfl) ?_
      exact K
    | succ n ih =>
      intro m hmn
      have hb := bset_lt (frp f) m
      have hm2 := x2p m (by omega)
      have ih1 : frp f m = true → Rf (SHL L) 30 4 [some (.inr 4), some (.inl ((bset (frp f) m ||| 1 * 2 ^ m : Nat) : Int)), some (.inl ((m : Int) + 1))] [] f Q := fun hq => by
        have := ih (m + 1) (by omega)
        rw [show bset (frp f) (m + 1) = bset (frp f) m ||| 1 * 2 ^ m by rw [bset_or]; simp [bset, hq]] at this
        exact this
      have ih0 : ¬ frp f m = true → Rf (SHL L) 30 4 [some (.inr 4), some (.inl ((bset (frp f) m : Nat) : Int)), some (.inl ((m : Int) + 1))] [] f Q := fun hq => by
        have := ih (m + 1) (by omega)
        rw [show bset (frp f) (m + 1) = bset (frp f) m by simp [bset, hq]] at this
        exact this
      refine R_il fx_30_4 rfl ?_
      refine R_push fx_30_5 ?_
      refine R_icge fx_30_7 (by omega) (fun hc => by omega) (fun hc => ?_)
      refine R_al fx_30_10 rfl (by omega) ?_
      refine R_il fx_30_11 rfl ?_
      refine R_cv fx_30_12 rfl rfl rfl rfl kd_4 ?_
      refine C_18 (by omega) hm hp (fun hc => ?_) (fun hc => ?_)
      · refine R_ifeq fx_30_15 (by decide) (fun h => absurd h (by decide)) (fun _ => ?_)
        refine R_il fx_30_18 rfl ?_
        refine R_push fx_30_19 ?_
        refine R_il fx_30_20 rfl ?_
        refine R_bin fx_30_21 (xb_shl (x := 1) (by omega) (by omega)) ?_
        refine R_bin fx_30_22 (xb_or (by omega) (by omega)) ?_
        refine R_is fx_30_23 ?_
        refine R_inc fx_30_24 rfl ?_
        refine R_goto fx_30_27 ?_
        simp only [Int.toNat_natCast] at hc
        first | exact ih1 (by simp only [frp, decide_eq_true_eq]; omega) | exact ih0 (by simp only [frp, decide_eq_true_eq]; omega)
      · refine R_ifeq fx_30_15 (by decide) (fun _ => ?_) (fun h => absurd h (by decide))
        refine R_inc fx_30_24 rfl ?_
        refine R_goto fx_30_27 ?_
        simp only [Int.toNat_natCast] at hc
        first | exact ih1 (by simp only [frp, decide_eq_true_eq]; omega) | exact ih0 (by simp only [frp, decide_eq_true_eq]; omega)
  refine R_push fx_30_0 ?_
  refine R_is fx_30_1 ?_
  refine R_push fx_30_2 ?_
  refine R_is fx_30_3 ?_
  exact loop 12 0 (by omega)
theorem C_32 (hw : ∀ j, j < 8 → xok (f 6 j)) (K : Q [.inl ((bset (wsp f) 8 : Nat) : Int)] f) : Rf (SHL L) 32 0 (xloc 32 [.inr 4]) [] f Q := by
  have loop : ∀ (n m : Nat), m + n = 8 → Rf (SHL L) 32 4 [some (.inr 4), some (.inl ((bset (wsp f) m : Nat) : Int)), some (.inl (m : Int))] [] f Q := by
    intro n
    induction n with
    | zero =>
      intro m hmn
      have hmj : m = 8 := by omega
      subst hmj
      refine R_il fx_32_4 rfl ?_
      refine R_push fx_32_5 ?_
      refine R_icge fx_32_7 (by omega) (fun hc => ?_) (fun hc => by omega)
      refine R_il fx_32_30 rfl ?_
      refine R_ret fx_32_31 (Or.inl rfl) ?_
      exact K
    | succ n ih =>
      intro m hmn
      have hb := bset_lt (wsp f) m
      have hm2 := x2p m (by omega)
      have ih1 : wsp f m = true → Rf (SHL L) 32 4 [some (.inr 4), some (.inl ((bset (wsp f) m ||| 1 * 2 ^ m : Nat) : Int)), some (.inl ((m : Int) + 1))] [] f Q := fun hq => by
        have := ih (m + 1) (by omega)
        rw [show bset (wsp f) (m + 1) = bset (wsp f) m ||| 1 * 2 ^ m by rw [bset_or]; simp [bset, hq]] at this
        exact this
      have ih0 : ¬ wsp f m = true → Rf (SHL L) 32 4 [some (.inr 4), some (.inl ((bset (wsp f) m : Nat) : Int)), some (.inl ((m : Int) + 1))] [] f Q := fun hq => by
        have := ih (m + 1) (by omega)
        rw [show bset (wsp f) (m + 1) = bset (wsp f) m by simp [bset, hq]] at this
        exact this
      refine R_il fx_32_4 rfl ?_
      refine R_push fx_32_5 ?_
      refine R_icge fx_32_7 (by omega) (fun hc => by omega) (fun hc => ?_)
      refine R_al fx_32_10 rfl (by omega) ?_
      refine R_il fx_32_11 rfl ?_
      refine R_cv fx_32_12 rfl rfl rfl rfl kd_4 ?_
      refine C_33 (by omega) hw (fun hc => ?_) (fun hc => ?_)
      · refine R_ifeq fx_32_15 (by decide) (fun h => absurd h (by decide)) (fun _ => ?_)
        refine R_il fx_32_18 rfl ?_
        refine R_push fx_32_19 ?_
        refine R_il fx_32_20 rfl ?_
        refine R_bin fx_32_21 (xb_shl (x := 1) (by omega) (by omega)) ?_
        refine R_bin fx_32_22 (xb_or (by omega) (by omega)) ?_
        refine R_is fx_32_23 ?_
        refine R_inc fx_32_24 rfl ?_
        refine R_goto fx_32_27 ?_
        simp only [Int.toNat_natCast] at hc
        first | exact ih1 (by simp only [wsp, decide_eq_true_eq]; omega) | exact ih0 (by simp only [wsp, decide_eq_true_eq]; omega)
      · refine R_ifeq fx_32_15 (by decide) (fun _ => ?_) (fun h => absurd h (by decide))
        refine R_inc fx_32_24 rfl ?_
        refine R_goto fx_32_27 ?_
        simp only [Int.toNat_natCast] at hc
        first | exact ih1 (by simp only [wsp, decide_eq_true_eq]; omega) | exact ih0 (by simp only [wsp, decide_eq_true_eq]; omega)
  refine R_push fx_32_0 ?_
  refine R_is fx_32_1 ?_
  refine R_push fx_32_2 ?_
  refine R_is fx_32_3 ?_
  exact loop 8 0 (by omega)
end SE2
end
section
/-! ===== the calls that change the state, but make ===== -/
def upG (G : Nat → Int) (i : Nat) (v : Int) : Nat → Int := fun j => if j = i then v else G j
def upR (G : Nat → Int) (r : Nat) (R : Nat → Int) : Nat → Int := fun i => if 20 + 7 * r ≤ i ∧ i < 27 + 7 * r then R (i - (20 + 7 * r)) else G i
theorem upG_s {G : Nat → Int} {i : Nat} {v : Int} : upG G i v i = v := if_pos rfl
theorem upG_n {G : Nat → Int} {i j : Nat} {v : Int} (h : j ≠ i) : upG G i v j = G j := if_neg h
theorem upR_in {G R : Nat → Int} {r j : Nat} (h : j < 7) : upR G r R (20 + 7 * r + j) = R j := by
  unfold upR; rw [if_pos (by omega)]; congr 1; omega
theorem upR_out {G R : Nat → Int} {r i : Nat} (h : i < 20 + 7 * r ∨ 27 + 7 * r ≤ i) : upR G r R i = G i := if_neg (by omega)
section SG
variable {f f2 : xF} {G : Nat → Int} {v : Int}
theorem Sg.fld (h : Sg f 4 G) (q : Nat) (h0 : 1 ≤ q) (hq : q < 4) : Sg (xup f 4 (4 + q) v) 4 (upG G q v) := by
  obtain ⟨⟨h1, h2, h3, h4⟩, h5, h6, h7, h8⟩ := h
  refine ⟨⟨?_, ?_, ?_, ?_⟩, fun s hs => ?_, fun s hs => ?_, fun s hs => ?_, fun r hr hg j hj => ?_⟩
  · rw [xup_i (by omega), upG_n (by omega)]; exact h1
  · by_cases e : q = 1
    · subst e; rw [xup_s, upG_s]
    · rw [xup_i (by omega), upG_n (by omega)]; exact h2
  · by_cases e : q = 2
    · subst e; rw [xup_s, upG_s]
    · rw [xup_i (by omega), upG_n (by omega)]; exact h3
  · by_cases e : q = 3
    · subst e; rw [xup_s, upG_s]
    · rw [xup_i (by omega), upG_n (by omega)]; exact h4
  · rw [xup_a (by omega), upG_n (by omega)]; exact h5 s hs
  · rw [xup_a (by omega), upG_n (by omega)]; exact h6 s hs
  · rw [xup_a (by omega), upG_n (by omega)]; exact h7 s hs
  · rw [upG_n (by omega)] at hg
    rw [xup_a (by omega), upG_n (by omega)]; exact h8 r hr hg j hj
theorem Sg.want (h : Sg f 4 G) {s : Nat} (hs : s < 8) : Sg (xup f 6 s v) 4 (upG G (4 + s) v) := by
  obtain ⟨⟨h1, h2, h3, h4⟩, h5, h6, h7, h8⟩ := h
  refine ⟨⟨?_, ?_, ?_, ?_⟩, fun t ht => ?_, fun t ht => ?_, fun t ht => ?_, fun r hr hg j hj => ?_⟩
  · rw [xup_a (by omega), upG_n (by omega)]; exact h1
  · rw [xup_a (by omega), upG_n (by omega)]; exact h2
  · rw [xup_a (by omega), upG_n (by omega)]; exact h3
  · rw [xup_a (by omega), upG_n (by omega)]; exact h4
  · by_cases e : t = s
    · subst e; rw [upG_s]; exact xup_s
    · rw [xup_i e, upG_n (by omega)]; exact h5 t ht
  · rw [xup_a (by omega), upG_n (by omega)]; exact h6 t ht
  · rw [xup_a (by omega), upG_n (by omega)]; exact h7 t ht
  · rw [upG_n (by omega)] at hg
    rw [xup_a (by omega), upG_n (by omega)]; exact h8 r hr hg j hj
theorem Sg.low (h : Sg f 4 G) {s : Nat} (hs : s < 4) : Sg (xup f 7 s v) 4 (upG G (12 + s) v) := by
  obtain ⟨⟨h1, h2, h3, h4⟩, h5, h6, h7, h8⟩ := h
  refine ⟨⟨?_, ?_, ?_, ?_⟩, fun t ht => ?_, fun t ht => ?_, fun t ht => ?_, fun r hr hg j hj => ?_⟩
  · rw [xup_a (by omega), upG_n (by omega)]; exact h1
  · rw [xup_a (by omega), upG_n (by omega)]; exact h2
  · rw [xup_a (by omega), upG_n (by omega)]; exact h3
  · rw [xup_a (by omega), upG_n (by omega)]; exact h4
  · rw [xup_a (by omega), upG_n (by omega)]; exact h5 t ht
  · by_cases e : t = s
    · subst e; rw [upG_s]; exact xup_s
    · rw [xup_i e, upG_n (by omega)]; exact h6 t ht
  · rw [xup_a (by omega), upG_n (by omega)]; exact h7 t ht
  · rw [upG_n (by omega)] at hg
    rw [xup_a (by omega), upG_n (by omega)]; exact h8 r hr hg j hj
theorem Sg.high (h : Sg f 4 G) {s : Nat} (hs : s < 4) : Sg (xup f 8 s v) 4 (upG G (16 + s) v) := by
  obtain ⟨⟨h1, h2, h3, h4⟩, h5, h6, h7, h8⟩ := h
  refine ⟨⟨?_, ?_, ?_, ?_⟩, fun t ht => ?_, fun t ht => ?_, fun t ht => ?_, fun r hr hg j hj => ?_⟩
  · rw [xup_a (by omega), upG_n (by omega)]; exact h1
  · rw [xup_a (by omega), upG_n (by omega)]; exact h2
  · rw [xup_a (by omega), upG_n (by omega)]; exact h3
  · rw [xup_a (by omega), upG_n (by omega)]; exact h4
  · rw [xup_a (by omega), upG_n (by omega)]; exact h5 t ht
  · rw [xup_a (by omega), upG_n (by omega)]; exact h6 t ht
  · by_cases e : t = s
    · subst e; rw [upG_s]; exact xup_s
    · rw [xup_i e, upG_n (by omega)]; exact h7 t ht
  · rw [upG_n (by omega)] at hg
    rw [xup_a (by omega), upG_n (by omega)]; exact h8 r hr hg j hj
theorem Sg.reed (h : Sg f 4 G) {r : Nat} (hr : r < 12) {R : Nat → Int} (h1 : ∀ j, j < 7 → f2 (9 + r) j = R j) (h2 : ∀ c, c ≠ 9 + r → f2 c = f c) : Sg f2 4 (upR G r R) := by
  obtain ⟨⟨e1, e2, e3, e4⟩, h5, h6, h7, h8⟩ := h
  refine ⟨⟨?_, ?_, ?_, ?_⟩, fun t ht => ?_, fun t ht => ?_, fun t ht => ?_, fun q hq hg j hj => ?_⟩
  · rw [h2 4 (by omega), upR_out (by omega)]; exact e1
  · rw [h2 4 (by omega), upR_out (by omega)]; exact e2
  · rw [h2 4 (by omega), upR_out (by omega)]; exact e3
  · rw [h2 4 (by omega), upR_out (by omega)]; exact e4
  · rw [h2 _ (by omega), upR_out (by omega)]; exact h5 t ht
  · rw [h2 _ (by omega), upR_out (by omega)]; exact h6 t ht
  · rw [h2 _ (by omega), upR_out (by omega)]; exact h7 t ht
  · rw [upR_out (by omega)] at hg
    by_cases e : q = r
    · subst e; rw [upR_in hj]; exact h1 j hj
    · rw [h2 _ (by omega), upR_out (by omega)]; exact h8 q hq hg j hj
end SG
theorem Hc.kept {f f2 : xF} {n x : Nat} {hi : Nat → Nat → Int} (h : Hc f n x hi) (he : ∀ c, 21 ≤ c → c < 125 → f2 c = f c) : Hc f2 n x hi := by
  obtain ⟨h1, h2, h3, h4, h5⟩ := h
  exact ⟨h1, h2, by rw [he 21 (by omega) (by omega)]; exact h3, by rw [he 21 (by omega) (by omega)]; exact h4, fun i hi9 => (h5 i hi9).kept (fun c q1 q2 => he c (by omega) (by omega))⟩
/-- a call that was done: the state is G2, the one before is kept, the plan is forgotten, the rest stands -/
def Dn (f f2 : xF) (n x : Nat) (hi : Nat → Nat → Int) (G G2 : Nat → Int) : Prop := Sg f2 4 G2 ∧ Hc f2 (min (n + 1) 6) ((x + 1) % 6) (consG G hi) ∧ f2 141 8 = 0 ∧ (∀ i, i ≠ 8 → f2 141 i = f 141 i) ∧ ∀ c, (c < 4 ∨ 125 ≤ c) → c ≠ 141 → f2 c = f c
section AP
variable {L : Nat} {f : xF} {Q : List xV → xF → Prop} {G : Nat → Int} {hi : Nat → Nat → Int} {n x : Nat}
theorem Dn.of {f2 f3 : xF} {G2 : Nat → Int} (g1 : Hc f2 (min (n + 1) 6) ((x + 1) % 6) (consG G hi)) (g2 : f2 141 8 = 0) (g3 : ∀ i, i ≠ 8 → f2 141 i = f 141 i) (g4 : ∀ c, (c < 21 ∨ 125 ≤ c) ∧ c ≠ 141 → f2 c = f c) (h : ∀ c, (c < 4 ∨ 21 ≤ c) → f3 c = f2 c) (hS : Sg f3 4 G2) : Dn f f3 n x hi G G2 :=
  ⟨hS, g1.kept (fun c q1 q2 => h c (by omega)), by rw [h 141 (by omega)]; exact g2, fun i h9 => by rw [h 141 (by omega)]; exact g3 i h9, fun c hc h9 => by rw [h c (by omega)]; exact g4 c (by omega)⟩
theorem C_20 {a b : Int} (hH : Hc f n x hi) (hS : Sg f 4 G) (ha : xok a) (hb : xok b) (K1 : (1 ≤ a ∧ a ≤ 20) ∧ 0 ≤ b ∧ b ≤ 50 → ∀ f2, Dn f f2 n x hi G (upG (upG G 1 a) 2 b) → Q [.inl 1] f2) (K0 : ¬ ((1 ≤ a ∧ a ≤ 20) ∧ 0 ≤ b ∧ b ≤ 50) → Q [.inl 0] f) : Rf (SHL L) 20 0 (xloc 20 [.inr 3, .inl a, .inl b]) [] f Q := by
  refine R_il fx_20_0 rfl ?_
  refine R_push fx_20_1 ?_
  refine R_push fx_20_2 ?_
  refine R_cs fx_20_4 rfl rfl rfl rfl ?_
  refine C_9 (by omega) (by omega) (by omega) (fun hc => ?_) (fun hc => ?_)
  · refine R_ifeq fx_20_7 (by decide) (fun h => absurd h (by decide)) (fun _ => ?_)
    refine R_il fx_20_10 rfl ?_
    refine R_push fx_20_11 ?_
    refine R_push fx_20_12 ?_
    refine R_cs fx_20_14 rfl rfl rfl rfl ?_
    refine C_9 (by omega) (by omega) (by omega) (fun hc => ?_) (fun hc => ?_)
    · refine R_ifne fx_20_17 (by decide) (fun _ => ?_) (fun h => absurd h (by decide))
      refine R_al fx_20_22 rfl (by omega) ?_
      refine R_cv fx_20_23 rfl rfl rfl rfl kd_3 ?_
      refine C_10 hH hS (fun f2 g1 g2 g3 g4 => ?_)
      refine R_al fx_20_26 rfl (by omega) ?_
      refine R_gr fx_20_27 kd_3 rfl rr_3_0 ?_
      refine R_il fx_20_30 rfl ?_
      refine R_pf fx_20_31 kd_4 rfl (fun h => absurd h (by decide)) ?_
      refine R_al fx_20_34 rfl (by omega) ?_
      refine R_gr fx_20_35 kd_3 rfl rr_3_0 ?_
      refine R_il fx_20_38 rfl ?_
      refine R_pf fx_20_39 kd_4 rfl (fun h => absurd h (by decide)) ?_
      refine R_push fx_20_42 ?_
      refine R_ret fx_20_43 (by decide) ?_
      first | exact K0 (by omega) | exact K1 (by omega) _ (Dn.of g1 g2 g3 g4 (fun c hc => by funext i; simp [xup, show c ≠ 4 by omega, show c ≠ 6 by omega, show c ≠ 7 by omega, show c ≠ 8 by omega]) (((hS.kept (f2 := f2) (fun c q1 q2 => g4 c (by omega))).fld 1 (by omega) (by omega)).fld 2 (by omega) (by omega)))
    · refine R_ifne fx_20_17 (by decide) (fun h => absurd h (by decide)) (fun _ => ?_)
      refine R_push fx_20_20 ?_
      refine R_ret fx_20_21 (by decide) ?_
      first | exact K0 (by omega) | exact K1 (by omega) _ (Dn.of g1 g2 g3 g4 (fun c hc => by funext i; simp [xup, show c ≠ 4 by omega, show c ≠ 6 by omega, show c ≠ 7 by omega, show c ≠ 8 by omega]) (((hS.kept (f2 := f2) (fun c q1 q2 => g4 c (by omega))).fld 1 (by omega) (by omega)).fld 2 (by omega) (by omega)))
  · refine R_ifeq fx_20_7 (by decide) (fun _ => ?_) (fun h => absurd h (by decide))
    refine R_push fx_20_20 ?_
    refine R_ret fx_20_21 (by decide) ?_
    first | exact K0 (by omega) | exact K1 (by omega) _ (Dn.of g1 g2 g3 g4 (fun c hc => by funext i; simp [xup, show c ≠ 4 by omega, show c ≠ 6 by omega, show c ≠ 7 by omega, show c ≠ 8 by omega]) (((hS.kept (f2 := f2) (fun c q1 q2 => g4 c (by omega))).fld 1 (by omega) (by omega)).fld 2 (by omega) (by omega)))
theorem C_21 {a b : Int} (hH : Hc f n x hi) (hS : Sg f 4 G) (ha : xok a) (hb : xok b) (K1 : (0 ≤ a ∧ a ≤ 7) ∧ -1 ≤ b ∧ b ≤ 9999 → ∀ f2, Dn f f2 n x hi G (upG G (4 + a.toNat) b) → Q [.inl 1] f2) (K0 : ¬ ((0 ≤ a ∧ a ≤ 7) ∧ -1 ≤ b ∧ b ≤ 9999) → Q [.inl 0] f) : Rf (SHL L) 21 0 (xloc 21 [.inr 3, .inl a, .inl b]) [] f Q := by
  refine R_il fx_21_0 rfl ?_
  refine R_push fx_21_1 ?_
  refine R_push fx_21_2 ?_
  refine R_cs fx_21_4 rfl rfl rfl rfl ?_
  refine C_9 (by omega) (by omega) (by omega) (fun hc => ?_) (fun hc => ?_)
  · refine R_ifeq fx_21_7 (by decide) (fun h => absurd h (by decide)) (fun _ => ?_)
    refine R_il fx_21_10 rfl ?_
    refine R_push fx_21_11 ?_
    refine R_push fx_21_12 ?_
    refine R_cs fx_21_15 rfl rfl rfl rfl ?_
    refine C_9 (by omega) (by omega) (by omega) (fun hc => ?_) (fun hc => ?_)
    · refine R_ifne fx_21_18 (by decide) (fun _ => ?_) (fun h => absurd h (by decide))
      refine R_al fx_21_23 rfl (by omega) ?_
      refine R_cv fx_21_24 rfl rfl rfl rfl kd_3 ?_
      refine C_10 hH hS (fun f2 g1 g2 g3 g4 => ?_)
      refine R_al fx_21_27 rfl (by omega) ?_
      refine R_gr fx_21_28 kd_3 rfl rr_3_0 ?_
      refine R_gr fx_21_31 kd_4 rfl rr_4_1 ?_
      refine R_il fx_21_34 rfl ?_
      refine R_il fx_21_35 rfl ?_
      refine R_ias fx_21_36 kd_6 (by omega) (by rw [ln_6]; omega) (by omega) ?_
      refine R_push fx_21_37 ?_
      refine R_ret fx_21_38 (by decide) ?_
      first | exact K0 (by omega) | exact K1 (by omega) _ (Dn.of g1 g2 g3 g4 (fun c hc => by funext i; simp [xup, show c ≠ 4 by omega, show c ≠ 6 by omega, show c ≠ 7 by omega, show c ≠ 8 by omega]) ((hS.kept (f2 := f2) (fun c q1 q2 => g4 c (by omega))).want (by omega)))
    · refine R_ifne fx_21_18 (by decide) (fun h => absurd h (by decide)) (fun _ => ?_)
      refine R_push fx_21_21 ?_
      refine R_ret fx_21_22 (by decide) ?_
      first | exact K0 (by omega) | exact K1 (by omega) _ (Dn.of g1 g2 g3 g4 (fun c hc => by funext i; simp [xup, show c ≠ 4 by omega, show c ≠ 6 by omega, show c ≠ 7 by omega, show c ≠ 8 by omega]) ((hS.kept (f2 := f2) (fun c q1 q2 => g4 c (by omega))).want (by omega)))
  · refine R_ifeq fx_21_7 (by decide) (fun _ => ?_) (fun h => absurd h (by decide))
    refine R_push fx_21_21 ?_
    refine R_ret fx_21_22 (by decide) ?_
    first | exact K0 (by omega) | exact K1 (by omega) _ (Dn.of g1 g2 g3 g4 (fun c hc => by funext i; simp [xup, show c ≠ 4 by omega, show c ≠ 6 by omega, show c ≠ 7 by omega, show c ≠ 8 by omega]) ((hS.kept (f2 := f2) (fun c q1 q2 => g4 c (by omega))).want (by omega)))
theorem C_23 {k a b : Int} (hH : Hc f n x hi) (hS : Sg f 4 G) (hk : xok k) (ha : xok a) (hb : xok b) (K1 : (0 ≤ k ∧ k ≤ 3) ∧ (-100 ≤ a ∧ a ≤ 100) ∧ -100 ≤ b ∧ b ≤ 100 → ∀ f2, Dn f f2 n x hi G (upG (upG G (12 + k.toNat) a) (16 + k.toNat) b) → Q [.inl 1] f2) (K0 : ¬ ((0 ≤ k ∧ k ≤ 3) ∧ (-100 ≤ a ∧ a ≤ 100) ∧ -100 ≤ b ∧ b ≤ 100) → Q [.inl 0] f) : Rf (SHL L) 23 0 (xloc 23 [.inr 3, .inl k, .inl a, .inl b]) [] f Q := by
  refine R_il fx_23_0 rfl ?_
  refine R_push fx_23_1 ?_
  refine R_push fx_23_2 ?_
  refine R_cs fx_23_3 rfl rfl rfl rfl ?_
  refine C_9 (by omega) (by omega) (by omega) (fun hc => ?_) (fun hc => ?_)
  · refine R_ifeq fx_23_6 (by decide) (fun h => absurd h (by decide)) (fun _ => ?_)
    refine R_il fx_23_9 rfl ?_
    refine R_push fx_23_10 ?_
    refine R_push fx_23_12 ?_
    refine R_cs fx_23_14 rfl rfl rfl rfl ?_
    refine C_9 (by omega) (by omega) (by omega) (fun hc => ?_) (fun hc => ?_)
    · refine R_ifeq fx_23_17 (by decide) (fun h => absurd h (by decide)) (fun _ => ?_)
      refine R_il fx_23_20 rfl ?_
      refine R_push fx_23_21 ?_
      refine R_push fx_23_23 ?_
      refine R_cs fx_23_25 rfl rfl rfl rfl ?_
      refine C_9 (by omega) (by omega) (by omega) (fun hc => ?_) (fun hc => ?_)
      · refine R_ifeq fx_23_28 (by decide) (fun h => absurd h (by decide)) (fun _ => ?_)
        refine R_push fx_23_31 ?_
        refine R_goto fx_23_32 ?_
        refine R_is fx_23_36 ?_
        refine R_il fx_23_38 rfl ?_
        refine R_ifne fx_23_40 (by decide) (fun _ => ?_) (fun h => absurd h (by decide))
        refine R_al fx_23_45 rfl (by omega) ?_
        refine R_cv fx_23_46 rfl rfl rfl rfl kd_3 ?_
        refine C_10 hH hS (fun f2 g1 g2 g3 g4 => ?_)
        refine R_al fx_23_49 rfl (by omega) ?_
        refine R_gr fx_23_50 kd_3 rfl rr_3_0 ?_
        refine R_gr fx_23_53 kd_4 rfl rr_4_2 ?_
        refine R_il fx_23_56 rfl ?_
        refine R_il fx_23_57 rfl ?_
        refine R_ias fx_23_58 kd_7 (by omega) (by rw [ln_7]; omega) (by omega) ?_
        refine R_al fx_23_59 rfl (by omega) ?_
        refine R_gr fx_23_60 kd_3 rfl rr_3_0 ?_
        refine R_gr fx_23_63 kd_4 rfl rr_4_3 ?_
        refine R_il fx_23_66 rfl ?_
        refine R_il fx_23_67 rfl ?_
        refine R_ias fx_23_68 kd_8 (by omega) (by rw [ln_8]; omega) (by omega) ?_
        refine R_push fx_23_69 ?_
        refine R_ret fx_23_70 (by decide) ?_
        first | exact K0 (by omega) | exact K1 (by omega) _ (Dn.of g1 g2 g3 g4 (fun c hc => by funext i; simp [xup, show c ≠ 4 by omega, show c ≠ 6 by omega, show c ≠ 7 by omega, show c ≠ 8 by omega]) (((hS.kept (f2 := f2) (fun c q1 q2 => g4 c (by omega))).low (by omega)).high (by omega)))
      · refine R_ifeq fx_23_28 (by decide) (fun _ => ?_) (fun h => absurd h (by decide))
        refine R_push fx_23_35 ?_
        refine R_is fx_23_36 ?_
        refine R_il fx_23_38 rfl ?_
        refine R_ifne fx_23_40 (by decide) (fun h => absurd h (by decide)) (fun _ => ?_)
        refine R_push fx_23_43 ?_
        refine R_ret fx_23_44 (by decide) ?_
        first | exact K0 (by omega) | exact K1 (by omega) _ (Dn.of g1 g2 g3 g4 (fun c hc => by funext i; simp [xup, show c ≠ 4 by omega, show c ≠ 6 by omega, show c ≠ 7 by omega, show c ≠ 8 by omega]) (((hS.kept (f2 := f2) (fun c q1 q2 => g4 c (by omega))).low (by omega)).high (by omega)))
    · refine R_ifeq fx_23_17 (by decide) (fun _ => ?_) (fun h => absurd h (by decide))
      refine R_push fx_23_35 ?_
      refine R_is fx_23_36 ?_
      refine R_il fx_23_38 rfl ?_
      refine R_ifne fx_23_40 (by decide) (fun h => absurd h (by decide)) (fun _ => ?_)
      refine R_push fx_23_43 ?_
      refine R_ret fx_23_44 (by decide) ?_
      first | exact K0 (by omega) | exact K1 (by omega) _ (Dn.of g1 g2 g3 g4 (fun c hc => by funext i; simp [xup, show c ≠ 4 by omega, show c ≠ 6 by omega, show c ≠ 7 by omega, show c ≠ 8 by omega]) (((hS.kept (f2 := f2) (fun c q1 q2 => g4 c (by omega))).low (by omega)).high (by omega)))
  · refine R_ifeq fx_23_6 (by decide) (fun _ => ?_) (fun h => absurd h (by decide))
    refine R_push fx_23_35 ?_
    refine R_is fx_23_36 ?_
    refine R_il fx_23_38 rfl ?_
    refine R_ifne fx_23_40 (by decide) (fun h => absurd h (by decide)) (fun _ => ?_)
    refine R_push fx_23_43 ?_
    refine R_ret fx_23_44 (by decide) ?_
    first | exact K0 (by omega) | exact K1 (by omega) _ (Dn.of g1 g2 g3 g4 (fun c hc => by funext i; simp [xup, show c ≠ 4 by omega, show c ≠ 6 by omega, show c ≠ 7 by omega, show c ≠ 8 by omega]) (((hS.kept (f2 := f2) (fun c q1 q2 => g4 c (by omega))).low (by omega)).high (by omega)))
theorem C_89 (hH : Hc f n x hi) (K1 : 0 < n → ∀ f2 : xF, Sg f2 4 (hi 0) → Hc f2 (n - 1) ((x + 5) % 6) (fun i => hi (i + 1)) → f2 141 8 = 0 → (∀ i, i ≠ 8 → f2 141 i = f 141 i) → (∀ c, (c < 4 ∨ 125 ≤ c) → c ≠ 141 → f2 c = f c) → Q [.inl 1] f2) (K0 : n = 0 → Q [.inl 0] f) : Rf (SHL L) 89 0 (xloc 89 [.inr 3]) [] f Q := by
  refine R_al fx_89_0 rfl (by omega) ?_
  refine R_gr fx_89_1 kd_3 rfl rr_3_1 ?_
  refine R_al fx_89_4 rfl (by omega) ?_
  refine R_gr fx_89_5 kd_3 rfl rr_3_0 ?_
  refine R_cv fx_89_8 rfl rfl rfl rfl kd_21 ?_
  refine C_90 hH (fun hn0 f2 g1 g2 g3 => ?_) (fun hn0 => ?_)
  · refine R_ifne fx_89_11 (by decide) (fun _ => ?_) (fun h => absurd h (by decide))
    refine R_al fx_89_16 rfl (by omega) ?_
    refine R_gr fx_89_17 kd_3 rfl rr_3_3 ?_
    refine R_cv fx_89_20 rfl rfl rfl rfl kd_141 ?_
    refine C_15 ?_
    refine R_push fx_89_23 ?_
    refine R_ret fx_89_24 (by decide) ?_
    first | exact K0 hn0 | exact K1 hn0 _ (g1.kept (fun c q1 q2 => by funext z; simp [xup, show c ≠ 141 by omega])) (g2.kept (fun c q1 q2 => by funext z; simp [xup, show c ≠ 141 by omega])) (by simp [xup]) (fun i h9 => by simp [xup, h9, g3 141 (by omega)]) (fun c hc h9 => by rw [← g3 c (by omega)]; funext z; simp [xup, h9])
  · refine R_ifne fx_89_11 (by decide) (fun h => absurd h (by decide)) (fun _ => ?_)
    refine R_push fx_89_14 ?_
    refine R_ret fx_89_15 (by decide) ?_
    first | exact K0 hn0 | exact K1 hn0 _ (g1.kept (fun c q1 q2 => by funext z; simp [xup, show c ≠ 141 by omega])) (g2.kept (fun c q1 q2 => by funext z; simp [xup, show c ≠ 141 by omega])) (by simp [xup]) (fun i h9 => by simp [xup, h9, g3 141 (by omega)]) (fun c hc h9 => by rw [← g3 c (by omega)]; funext z; simp [xup, h9])
end AP
end
section
/-! ===== ranges; scrap, file, reed, of, look ===== -/
def VG (G : Nat → Int) : Prop := (0 ≤ G 0 ∧ G 0 ≤ 12) ∧ (1 ≤ G 1 ∧ G 1 ≤ 20) ∧ (0 ≤ G 2 ∧ G 2 ≤ 50) ∧ (∀ s, s < 8 → -1 ≤ G (4 + s) ∧ G (4 + s) ≤ 9999) ∧ (∀ k, k < 4 → (-100 ≤ G (12 + k) ∧ G (12 + k) ≤ 100) ∧ -100 ≤ G (16 + k) ∧ G (16 + k) ≤ 100) ∧ ∀ r : Nat, r < 12 → (r : Int) < G 0 → (1 ≤ G (20 + 7 * r + 1) ∧ G (20 + 7 * r + 1) ≤ 20) ∧ (0 ≤ G (20 + 7 * r + 2) ∧ G (20 + 7 * r + 2) ≤ 20) ∧ (-20 * (20 - G (20 + 7 * r + 1)) ≤ G (20 + 7 * r) ∧ G (20 + 7 * r) ≤ 9999 + 20 * (20 - G (20 + 7 * r + 2))) ∧ 0 ≤ G (20 + 7 * r + 3) ∧ G (20 + 7 * r + 3) ≤ 2
section VV
variable {f : xF} {G : Nat → Int}
theorem Sg.rd (hS : Sg f 4 G) {r : Nat} (hr : r < 12) (hg : (r : Int) < G 0) {j : Nat} (hj : j < 7) : f (9 + r) j = G (20 + 7 * r + j) := hS.2.2.2.2 r hr hg j hj
theorem VG.m (hV : VG G) (hS : Sg f 4 G) : 0 ≤ f 4 4 ∧ f 4 4 ≤ 12 := by rw [hS.1.1]; exact hV.1
theorem VG.p (hV : VG G) (hS : Sg f 4 G) : ∀ j : Nat, j < 12 → (j : Int) < f 4 4 → xok (f (9 + j) 3) := fun j hj hc => by
  rw [hS.1.1] at hc
  rw [hS.rd hj hc (by omega)]
  have := (hV.2.2.2.2.2 j hj hc).2.2.2
  omega
theorem VG.w (hV : VG G) (hS : Sg f 4 G) : ∀ j, j < 8 → xok (f 6 j) := fun j hj => by
  have e := hS.2.1 j hj
  have := hV.2.2.2.1 j hj
  rw [show f 6 j = f (4 + 2) j from rfl, e]
  omega
theorem VG.b (hV : VG G) (hS : Sg f 4 G) : ∀ j, j < 4 → xok (f 7 j) ∧ xok (f 8 j) := fun j hj => by
  have e1 := hS.2.2.1 j hj
  have e2 := hS.2.2.2.1 j hj
  have := hV.2.2.2.2.1 j hj
  rw [show f 7 j = f (4 + 3) j from rfl, show f 8 j = f (4 + 4) j from rfl, e1, e2]
  omega
end VV
section AQ
variable {L : Nat} {f : xF} {Q : List xV → xF → Prop} {G : Nat → Int} {hi : Nat → Nat → Int} {n x : Nat}
theorem C_17 {r : Int} (hV : VG G) (hH : Hc f n x hi) (hS : Sg f 4 G) (hr : xok r) (K1 : (0 ≤ r ∧ r < G 0) → G (20 + 7 * r.toNat + 3) = 0 → ∀ f2, Dn f f2 n x hi G (upR G r.toNat (fun j => if j = 3 then 2 else G (20 + 7 * r.toNat + j))) → Q [.inl 1] f2) (K0 : ¬ ((0 ≤ r ∧ r < G 0) ∧ G (20 + 7 * r.toNat + 3) = 0) → Q [.inl 0] f) : Rf (SHL L) 17 0 (xloc 17 [.inr 3, .inl r]) [] f Q := by
  have hm := hV.m hS
  have hp := hV.p hS
  have h0 := hS.1.1
  refine R_al fx_17_0 rfl (by omega) ?_
  refine R_gr fx_17_1 kd_3 rfl rr_3_0 ?_
  refine R_il fx_17_4 rfl ?_
  refine R_cv fx_17_5 rfl rfl rfl rfl kd_4 ?_
  refine C_18 (by omega) hm hp (fun hc => ?_) (fun hc => ?_)
  · refine R_ifne fx_17_8 (by decide) (fun _ => ?_) (fun h => absurd h (by decide))
    refine R_al fx_17_13 rfl (by omega) ?_
    refine R_cv fx_17_14 rfl rfl rfl rfl kd_3 ?_
    refine C_10 hH hS (fun f2 g1 g2 g3 g4 => ?_)
    refine R_al fx_17_17 rfl (by omega) ?_
    refine R_gr fx_17_18 kd_3 rfl rr_3_0 ?_
    refine R_gr fx_17_21 kd_4 rfl rr_4_0 ?_
    refine R_il fx_17_24 rfl ?_
    refine R_aa fx_17_25 (Or.inl kd_5) (by omega) (by rw [ln_5]; omega) (by omega) (rr_reed _ (by omega)) ?_
    refine R_push fx_17_26 ?_
    refine R_pf fx_17_27 (kd_reed _ (by omega)) rfl (fun h => absurd h (by decide)) ?_
    refine R_push fx_17_30 ?_
    refine R_ret fx_17_31 (by decide) (K1 (by omega) (by rw [← hS.rd (r := r.toNat) (by omega) (by omega) (by omega)]; exact hc.2) _ (Dn.of g1 g2 g3 g4 (fun c hc => by funext i; simp [xup, show c ≠ 9 + r.toNat by omega]) ((hS.kept (f2 := f2) (fun c q1 q2 => g4 c (by omega))).reed (by omega) (fun j hj => ?_) (fun c hc => by funext i; simp [xup, hc]))))
    by_cases e : j = 3
    · subst e; rw [xup_s, if_pos rfl]
    · rw [xup_i e, if_neg e, g4 _ (by omega)]; exact hS.rd (by omega) (by omega) hj
  · refine R_ifne fx_17_8 (by decide) (fun h => absurd h (by decide)) (fun _ => ?_)
    refine R_push fx_17_11 ?_
    exact R_ret fx_17_12 (by decide) (K0 (fun h => hc ⟨by omega, by rw [hS.rd (r := r.toNat) (by omega) (by omega) (by omega)]; exact h.2⟩))
theorem C_26i {a : Nat} {i j ri : Int} (ha : 0 < a) (hka : xkd (SHL L) a = 13) (hj : 0 ≤ j ∧ j < 100000) (K : ∀ f2 : xF, (f2 a 0 = f a 0 + i * ri - dr (f a 1) j.toNat ∧ f2 a 1 = f a 1 - j ∧ f2 a 2 = f a 2 - i ∧ f2 a 3 = f a 3 ∧ f2 a 4 = f a 4 ∧ f2 a 5 = f a 5 ∧ f2 a 6 = f a 6 + (i + j)) → (∀ c, c ≠ a → f2 c = f c) → Q [] f2) : Rf (SHL L) 26 0 (xloc 26 [.inr a, .inl i, .inl j, .inl ri]) [] f Q := by
  obtain ⟨j', rfl⟩ := Int.eq_ofNat_of_zero_le hj.1
  exact C_26 ha hka (by omega) (fun f2 h1 h2 => K f2 h1 h2)
def filed (G : Nat → Int) (r : Nat) (i j : Int) : Nat → Int := fun q => match q with
  | 0 => G (20 + 7 * r) + i * G 1 - dr (G (20 + 7 * r + 1)) j.toNat
  | 1 => G (20 + 7 * r + 1) - j
  | 2 => G (20 + 7 * r + 2) - i
  | 6 => G (20 + 7 * r + 6) + (i + j)
  | q => G (20 + 7 * r + q)
theorem C_24 {r i j : Int} (hV : VG G) (hH : Hc f n x hi) (hS : Sg f 4 G) (hr : xok r) (hi2 : xok i) (hj2 : xok j) (K1 : (0 ≤ r ∧ r < G 0) → G (20 + 7 * r.toNat + 3) = 0 → (0 ≤ i ∧ i ≤ G (20 + 7 * r.toNat + 2)) ∧ 0 ≤ j ∧ j < G (20 + 7 * r.toNat + 1) → ∀ f2, Dn f f2 n x hi G (upR G r.toNat (filed G r.toNat i j)) → Q [.inl (filed G r.toNat i j 0)] f2) (K0 : ¬ ((0 ≤ r ∧ r < G 0) ∧ G (20 + 7 * r.toNat + 3) = 0 ∧ (0 ≤ i ∧ i ≤ G (20 + 7 * r.toNat + 2)) ∧ 0 ≤ j ∧ j < G (20 + 7 * r.toNat + 1)) → Q [.inl (-100000)] f) : Rf (SHL L) 24 0 (xloc 24 [.inr 3, .inl r, .inl i, .inl j]) [] f Q := by
  have hm := hV.m hS
  have hp := hV.p hS
  have h0 := hS.1.1
  have hG : ∀ q, q < 7 → (0 ≤ r ∧ r < G 0) → f (9 + r.toNat) q = G (20 + 7 * r.toNat + q) := fun q hq hc => hS.rd (by omega) (by omega) hq
  have hR : (0 ≤ r ∧ r < G 0) → (1 ≤ G (20 + 7 * r.toNat + 1) ∧ G (20 + 7 * r.toNat + 1) ≤ 20) ∧ (0 ≤ G (20 + 7 * r.toNat + 2) ∧ G (20 + 7 * r.toNat + 2) ≤ 20) := fun hc => ⟨(hV.2.2.2.2.2 r.toNat (by omega) (by omega)).1, (hV.2.2.2.2.2 r.toNat (by omega) (by omega)).2.1⟩
  refine R_al fx_24_0 rfl (by omega) ?_
  refine R_gr fx_24_1 kd_3 rfl rr_3_0 ?_
  refine R_il fx_24_4 rfl ?_
  refine R_cv fx_24_5 rfl rfl rfl rfl kd_4 ?_
  refine C_18 (by omega) hm hp (fun hc => ?_) (fun hc => ?_)
  · refine R_ifeq fx_24_8 (by decide) (fun h => absurd h (by decide)) (fun _ => ?_)
    refine R_al fx_24_11 rfl (by omega) ?_
    refine R_gr fx_24_12 kd_3 rfl rr_3_0 ?_
    refine R_gr fx_24_15 kd_4 rfl rr_4_0 ?_
    refine R_il fx_24_18 rfl ?_
    refine R_aa fx_24_19 (Or.inl kd_5) (by omega) (by rw [ln_5]; omega) (by omega) (rr_reed _ (by omega)) ?_
    refine R_il fx_24_20 rfl ?_
    refine R_il fx_24_21 rfl ?_
    refine R_cv fx_24_22 rfl rfl rfl rfl (kd_reed _ (by omega)) ?_
    refine C_25 (by omega) (kd_reed _ (by omega)) hi2 hj2 (by have := hR (by omega); have := hG 1 (by omega) (by omega); omega) (by have := hR (by omega); have := hG 2 (by omega) (by omega); omega) (fun hc2 => ?_) (fun hc2 => ?_)
    · refine R_ifne fx_24_25 (by decide) (fun _ => ?_) (fun h => absurd h (by decide))
      refine R_al fx_24_31 rfl (by omega) ?_
      refine R_cv fx_24_32 rfl rfl rfl rfl kd_3 ?_
      refine C_10 hH hS (fun f2 g1 g2 g3 g4 => ?_)
      refine R_al fx_24_35 rfl (by omega) ?_
      refine R_gr fx_24_36 kd_3 rfl rr_3_0 ?_
      refine R_gr fx_24_39 kd_4 rfl rr_4_0 ?_
      refine R_il fx_24_42 rfl ?_
      refine R_aa fx_24_43 (Or.inl kd_5) (by omega) (by rw [ln_5]; omega) (by omega) (rr_reed _ (by omega)) ?_
      refine R_il fx_24_44 rfl ?_
      refine R_il fx_24_45 rfl ?_
      refine R_al fx_24_46 rfl (by omega) ?_
      refine R_gr fx_24_47 kd_3 rfl rr_3_0 ?_
      refine R_gf fx_24_50 kd_4 rfl ?_
      refine R_cv fx_24_53 rfl rfl rfl rfl (kd_reed _ (by omega)) ?_
      refine C_26i (by omega) (kd_reed _ (by omega)) (by have := hR (by omega); have := hG 1 (by omega) (by omega); omega) (fun f3 k1 k2 => ?_)
      refine R_al fx_24_56 rfl (by omega) ?_
      refine R_gr fx_24_57 kd_3 rfl rr_3_0 ?_
      refine R_gr fx_24_60 kd_4 rfl rr_4_0 ?_
      refine R_il fx_24_63 rfl ?_
      refine R_aa fx_24_64 (Or.inl kd_5) (by omega) (by rw [ln_5]; omega) (by omega) (rr_reed _ (by omega)) ?_
      refine R_gf fx_24_65 (kd_reed _ (by omega)) rfl ?_
      have e0 := hG 0 (by omega) (by omega)
      have e1 := hG 1 (by omega) (by omega)
      have e2 := hG 2 (by omega) (by omega)
      have e3 := hG 3 (by omega) (by omega)
      have e4 := hG 4 (by omega) (by omega)
      have e5 := hG 5 (by omega) (by omega)
      have e6 := hG 6 (by omega) (by omega)
      have er : f2 4 5 = G 1 := by rw [g4 4 (by omega)]; exact hS.1.2.1
      obtain ⟨a0, a1, a2, a3, a4, a5, a6⟩ := k1
      rw [g4 (9 + r.toNat) (by omega)] at a0 a1 a2 a3 a4 a5 a6
      rw [er] at a0
      have hfl : ∀ q, q < 7 → f3 (9 + r.toNat) q = filed G r.toNat i j q := fun q hq => by
        rcases (show q = 0 ∨ q = 1 ∨ q = 2 ∨ q = 3 ∨ q = 4 ∨ q = 5 ∨ q = 6 by omega) with rfl | rfl | rfl | rfl | rfl | rfl | rfl
        · rw [a0, e0, e1]; rfl
        · rw [a1, e1]; rfl
        · rw [a2, e2]; rfl
        · rw [a3, e3]; rfl
        · rw [a4, e4]; rfl
        · rw [a5, e5]; rfl
        · rw [a6, e6]; rfl
      refine R_ret fx_24_68 (Or.inl rfl) ?_
      rw [hfl 0 (by omega)]
      exact K1 (by omega) (by omega) (by omega) _ (Dn.of g1 g2 g3 g4 (fun c hc => k2 c (by omega)) ((hS.kept (f2 := f2) (fun c q1 q2 => g4 c (by omega))).reed (by omega) hfl k2))
    · refine R_ifne fx_24_25 (by decide) (fun h => absurd h (by decide)) (fun _ => ?_)
      refine R_push fx_24_28 ?_
      refine R_ret fx_24_30 (Or.inl rfl) (K0 (fun h => ?_))
      have e3 := hG 3 (by omega) h.1
      have e1 := hG 1 (by omega) h.1
      have e2 := hG 2 (by omega) h.1
      omega
  · refine R_ifeq fx_24_8 (by decide) (fun _ => ?_) (fun h => absurd h (by decide))
    refine R_push fx_24_28 ?_
    refine R_ret fx_24_30 (Or.inl rfl) (K0 (fun h => ?_))
    have e3 := hG 3 (by omega) h.1
    have e1 := hG 1 (by omega) h.1
    have e2 := hG 2 (by omega) h.1
    omega
end AQ
end
section
/-! ===== reed, of, look ===== -/
def popc (x : Nat) : Nat → Nat
  | 0 => 0
  | n + 1 => popc x n + (if x.testBit n then 1 else 0)
def bc1 (x : Int) : Int := x - (xbin 5 ((xbin 10 x 1).getD 0) 1431655765).getD 0
def bc2 (x : Int) : Int := (xbin 5 x 858993459).getD 0 + (xbin 5 ((xbin 10 x 2).getD 0) 858993459).getD 0
def bc3 (x : Int) : Int := (xbin 5 (x + (xbin 10 x 4).getD 0) 252645135).getD 0
def bc4 (x : Int) : Int := x + (xbin 10 x 8).getD 0
def bc5 (x : Int) : Int := x + (xbin 10 x 16).getD 0
def bc6 (x : Int) : Int := (xbin 5 x 63).getD 0
set_option maxRecDepth 100000 in
theorem bc_all : (List.range 4096).all (fun x => decide (bc6 (bc5 (bc4 (bc3 (bc2 (bc1 (x : Int)))))) = ((popc x 12 : Nat) : Int))) = true := by decide +kernel
theorem Sg.add {f f2 : xF} {G R : Nat → Int} {r : Nat} (h : Sg f 4 G) (hr : r < 12) (h0 : G 0 = r) (h1 : ∀ j, j < 7 → f2 (9 + r) j = R j) (h2 : ∀ c, c ≠ 9 + r → f2 c = f c) : Sg (xup f2 4 4 ((r : Int) + 1)) 4 (upG (upR G r R) 0 ((r : Int) + 1)) := by
  have hR := h.reed hr h1 h2
  obtain ⟨⟨e1, e2, e3, e4⟩, h5, h6, h7, h8⟩ := hR
  refine ⟨⟨?_, ?_, ?_, ?_⟩, fun t ht => ?_, fun t ht => ?_, fun t ht => ?_, fun q hq hg j hj => ?_⟩
  · rw [xup_s, upG_s]
  · rw [xup_i (by omega), upG_n (by omega)]; exact e2
  · rw [xup_i (by omega), upG_n (by omega)]; exact e3
  · rw [xup_i (by omega), upG_n (by omega)]; exact e4
  · rw [xup_a (by omega), upG_n (by omega)]; exact h5 t ht
  · rw [xup_a (by omega), upG_n (by omega)]; exact h6 t ht
  · rw [xup_a (by omega), upG_n (by omega)]; exact h7 t ht
  · rw [upG_s] at hg
    rw [xup_a (by omega), upG_n (by omega)]
    by_cases e : q = r
    · subst e; rw [upR_in hj]; exact h1 j hj
    · exact h8 q hq (by rw [upR_out (by omega)]; omega) j hj
def newR (p t q : Int) : Nat → Int := fun j => match j with
  | 0 => p
  | 1 => t
  | 2 => q
  | 3 => 0
  | 4 => -1
  | 5 => -1
  | _ => 0
section AR
variable {L : Nat} {f : xF} {Q : List xV → xF → Prop} {G : Nat → Int} {hi : Nat → Nat → Int} {n x : Nat}
theorem C_31 {x : Nat} (hx : x < 4096) (K : Q [.inl ((popc x 12 : Nat) : Int)] f) : Rf (SHL L) 31 0 (xloc 31 [.inl x]) [] f Q := by
  have hb := of_decide_eq_true (List.all_eq_true.mp bc_all x (List.mem_range.mpr hx))
  refine R_il fx_31_0 rfl ?_
  refine R_il fx_31_1 rfl ?_
  refine R_push fx_31_2 ?_
  refine R_bin fx_31_3 (z := (xbin 10 _ _).getD 0) rfl ?_
  refine R_push fx_31_4 ?_
  refine R_bin fx_31_7 (z := (xbin 5 _ _).getD 0) rfl ?_
  refine R_sub fx_31_8 ?_
  refine R_is fx_31_9 ?_
  refine R_il fx_31_10 rfl ?_
  refine R_push fx_31_11 ?_
  refine R_bin fx_31_14 (z := (xbin 5 _ _).getD 0) rfl ?_
  refine R_il fx_31_15 rfl ?_
  refine R_push fx_31_16 ?_
  refine R_bin fx_31_17 (z := (xbin 10 _ _).getD 0) rfl ?_
  refine R_push fx_31_18 ?_
  refine R_bin fx_31_21 (z := (xbin 5 _ _).getD 0) rfl ?_
  refine R_add fx_31_22 ?_
  refine R_is fx_31_23 ?_
  refine R_il fx_31_24 rfl ?_
  refine R_il fx_31_25 rfl ?_
  refine R_push fx_31_26 ?_
  refine R_bin fx_31_27 (z := (xbin 10 _ _).getD 0) rfl ?_
  refine R_add fx_31_28 ?_
  refine R_push fx_31_29 ?_
  refine R_bin fx_31_32 (z := (xbin 5 _ _).getD 0) rfl ?_
  refine R_is fx_31_33 ?_
  refine R_il fx_31_34 rfl ?_
  refine R_il fx_31_35 rfl ?_
  refine R_push fx_31_36 ?_
  refine R_bin fx_31_38 (z := (xbin 10 _ _).getD 0) rfl ?_
  refine R_add fx_31_39 ?_
  refine R_is fx_31_40 ?_
  refine R_il fx_31_41 rfl ?_
  refine R_il fx_31_42 rfl ?_
  refine R_push fx_31_43 ?_
  refine R_bin fx_31_45 (z := (xbin 10 _ _).getD 0) rfl ?_
  refine R_add fx_31_46 ?_
  refine R_is fx_31_47 ?_
  refine R_il fx_31_48 rfl ?_
  refine R_push fx_31_49 ?_
  refine R_bin fx_31_51 (z := (xbin 5 _ _).getD 0) rfl ?_
  refine R_ret fx_31_52 (Or.inl rfl) ?_
  rw [← hb] at K; exact K
theorem C_28 {p : Int} (hp0 : 0 ≤ p ∧ p < 8) (hb : ∀ j, j < 4 → xok (f 7 j) ∧ xok (f 8 j)) (K : Q [.inl (if f 7 (p / 2).toNat ≤ f 8 (p / 2).toNat then (if p % 2 = 0 then f 7 (p / 2).toNat else f 8 (p / 2).toNat) else -1001)] f) : Rf (SHL L) 28 0 (xloc 28 [.inr 3, .inl p]) [] f Q := by
  refine R_il fx_28_0 rfl ?_
  refine R_push fx_28_1 ?_
  refine R_bin fx_28_2 (xb_div (by omega) (by omega) (by omega) (by omega)) ?_
  refine R_is fx_28_3 ?_
  refine R_al fx_28_4 rfl (by omega) ?_
  refine R_gr fx_28_5 kd_3 rfl rr_3_0 ?_
  refine R_il fx_28_8 rfl ?_
  refine R_cv fx_28_9 rfl rfl rfl rfl kd_4 ?_
  refine C_29 (by omega) hb (fun hc => ?_) (fun hc => ?_)
  · refine R_ifne fx_28_12 (by decide) (fun _ => ?_) (fun h => absurd h (by decide))
    refine R_il fx_28_19 rfl ?_
    refine R_push fx_28_20 ?_
    refine R_bin fx_28_21 (xb_rem (by omega) (by omega) (by omega) (by omega)) ?_
    refine R_ifne fx_28_22 (by omega) (fun hc => ?_) (fun hc => ?_)
    · refine R_al fx_28_37 rfl (by omega) ?_
      refine R_gr fx_28_38 kd_3 rfl rr_3_0 ?_
      refine R_gr fx_28_41 kd_4 rfl rr_4_3 ?_
      refine R_il fx_28_44 rfl ?_
      refine R_ia fx_28_45 (Or.inl kd_8) (by omega) (by rw [ln_8]; omega) (by omega) ?_
      rw [if_pos (by omega)] at K
      refine R_ret fx_28_46 (Or.inl rfl) ?_
      first | (rw [if_pos (by omega)] at K; exact K) | (rw [if_neg (by omega)] at K; exact K)
    · refine R_al fx_28_25 rfl (by omega) ?_
      refine R_gr fx_28_26 kd_3 rfl rr_3_0 ?_
      refine R_gr fx_28_29 kd_4 rfl rr_4_2 ?_
      refine R_il fx_28_32 rfl ?_
      refine R_ia fx_28_33 (Or.inl kd_7) (by omega) (by rw [ln_7]; omega) (by omega) ?_
      refine R_goto fx_28_34 ?_
      rw [if_pos (by omega)] at K
      refine R_ret fx_28_46 (Or.inl rfl) ?_
      first | (rw [if_pos (by omega)] at K; exact K) | (rw [if_neg (by omega)] at K; exact K)
  · refine R_ifne fx_28_12 (by decide) (fun h => absurd h (by decide)) (fun _ => ?_)
    refine R_push fx_28_15 ?_
    rw [if_neg (by omega)] at K
    exact R_ret fx_28_18 (Or.inl rfl) K
theorem C_34 {r w : Int} (hV : VG G) (hS : Sg f 4 G) (hr : xok r) (hw0 : xok w) (K1 : (0 ≤ r ∧ r < G 0) → (0 ≤ w ∧ w < 7) → Q [.inl (G (20 + 7 * r.toNat + w.toNat))] f) (K0 : ¬ ((0 ≤ r ∧ r < G 0) ∧ 0 ≤ w ∧ w < 7) → Q [.inl (-100000)] f) : Rf (SHL L) 34 0 (xloc 34 [.inr 3, .inl r, .inl w]) [] f Q := by
  have hm := hV.m hS
  have hp := hV.p hS
  have h0 := hS.1.1
  refine R_al fx_34_0 rfl (by omega) ?_
  refine R_gr fx_34_1 kd_3 rfl rr_3_0 ?_
  refine R_il fx_34_4 rfl ?_
  refine R_cv fx_34_5 rfl rfl rfl rfl kd_4 ?_
  refine C_19 (by omega) (by omega) (fun hc => ?_) (fun hc => ?_)
  · refine R_ifne fx_34_8 (by decide) (fun _ => ?_) (fun h => absurd h (by decide))
    refine R_al fx_34_14 rfl (by omega) ?_
    refine R_gr fx_34_15 kd_3 rfl rr_3_0 ?_
    refine R_gr fx_34_18 kd_4 rfl rr_4_0 ?_
    refine R_il fx_34_21 rfl ?_
    refine R_aa fx_34_22 (Or.inl kd_5) (by omega) (by rw [ln_5]; omega) (by omega) (rr_reed _ (by omega)) ?_
    refine R_as fx_34_23 (by omega) ?_
    refine R_il fx_34_24 rfl ?_
    rcases (show w = 0 ∨ w = 1 ∨ w = 2 ∨ w = 3 ∨ w = 4 ∨ w = 5 ∨ w = 6 ∨ (w < 0 ∨ 7 ≤ w) by omega) with rfl | rfl | rfl | rfl | rfl | rfl | rfl | hw
    · refine R_sw fx_34_25 (by decide) rfl ?_
      refine R_al fx_34_68 rfl (by omega) ?_
      refine R_gf fx_34_69 (kd_reed _ (by omega)) rfl ?_
      refine R_ret fx_34_72 (Or.inl rfl) ?_
      rw [hS.rd (by omega) (by omega) (by omega)]
      exact K1 (by omega) (by omega)
    · refine R_sw fx_34_25 (by decide) rfl ?_
      refine R_al fx_34_73 rfl (by omega) ?_
      refine R_gf fx_34_74 (kd_reed _ (by omega)) rfl ?_
      refine R_ret fx_34_77 (Or.inl rfl) ?_
      rw [hS.rd (by omega) (by omega) (by omega)]
      exact K1 (by omega) (by omega)
    · refine R_sw fx_34_25 (by decide) rfl ?_
      refine R_al fx_34_78 rfl (by omega) ?_
      refine R_gf fx_34_79 (kd_reed _ (by omega)) rfl ?_
      refine R_ret fx_34_82 (Or.inl rfl) ?_
      rw [hS.rd (by omega) (by omega) (by omega)]
      exact K1 (by omega) (by omega)
    · refine R_sw fx_34_25 (by decide) rfl ?_
      refine R_al fx_34_83 rfl (by omega) ?_
      refine R_gf fx_34_84 (kd_reed _ (by omega)) rfl ?_
      refine R_ret fx_34_87 (Or.inl rfl) ?_
      rw [hS.rd (by omega) (by omega) (by omega)]
      exact K1 (by omega) (by omega)
    · refine R_sw fx_34_25 (by decide) rfl ?_
      refine R_al fx_34_88 rfl (by omega) ?_
      refine R_gf fx_34_89 (kd_reed _ (by omega)) rfl ?_
      refine R_ret fx_34_92 (Or.inl rfl) ?_
      rw [hS.rd (by omega) (by omega) (by omega)]
      exact K1 (by omega) (by omega)
    · refine R_sw fx_34_25 (by decide) rfl ?_
      refine R_al fx_34_93 rfl (by omega) ?_
      refine R_gf fx_34_94 (kd_reed _ (by omega)) rfl ?_
      refine R_ret fx_34_97 (Or.inl rfl) ?_
      rw [hS.rd (by omega) (by omega) (by omega)]
      exact K1 (by omega) (by omega)
    · refine R_sw fx_34_25 (by decide) rfl ?_
      refine R_al fx_34_98 rfl (by omega) ?_
      refine R_gf fx_34_99 (kd_reed _ (by omega)) rfl ?_
      refine R_ret fx_34_102 (Or.inl rfl) ?_
      rw [hS.rd (by omega) (by omega) (by omega)]
      exact K1 (by omega) (by omega)
    · refine R_sw fx_34_25 hw0 (if_pos (show w < 0 ∨ ((7 : Nat) : Int) ≤ w by omega)) ?_
      refine R_push fx_34_103 ?_
      exact R_ret fx_34_105 (Or.inl rfl) (K0 (by omega))
  · refine R_ifne fx_34_8 (by decide) (fun h => absurd h (by decide)) (fun _ => ?_)
    refine R_push fx_34_11 ?_
    exact R_ret fx_34_13 (Or.inl rfl) (K0 (by omega))
theorem C_8 {p t q : Int} (hV : VG G) (hH : Hc f n x hi) (hS : Sg f 4 G) (h1 : xok p) (h2 : xok t) (h3 : xok q) (K1 : ((0 ≤ p ∧ p ≤ 9999) ∧ (1 ≤ t ∧ t ≤ 20) ∧ 0 ≤ q ∧ q ≤ 20) ∧ G 0 < 12 → ∀ f2, Dn f f2 n x hi G (upG (upR G (G 0).toNat (newR p t q)) 0 (G 0 + 1)) → Q [.inl (G 0)] f2) (K0 : ¬ (((0 ≤ p ∧ p ≤ 9999) ∧ (1 ≤ t ∧ t ≤ 20) ∧ 0 ≤ q ∧ q ≤ 20) ∧ G 0 < 12) → Q [.inl (-1)] f) : Rf (SHL L) 8 0 (xloc 8 [.inr 3, .inl p, .inl t, .inl q]) [] f Q := by
  have hm := hV.m hS
  have hp := hV.p hS
  have h0 := hS.1.1
  refine R_il fx_8_0 rfl ?_
  refine R_push fx_8_1 ?_
  refine R_push fx_8_2 ?_
  refine R_cs fx_8_5 rfl rfl rfl rfl ?_
  refine C_9 (by omega) (by omega) (by omega) (fun hc => ?_) (fun hc => ?_)
  · refine R_ifeq fx_8_8 (by decide) (fun h => absurd h (by decide)) (fun _ => ?_)
    refine R_il fx_8_11 rfl ?_
    refine R_push fx_8_12 ?_
    refine R_push fx_8_13 ?_
    refine R_cs fx_8_15 rfl rfl rfl rfl ?_
    refine C_9 (by omega) (by omega) (by omega) (fun hc => ?_) (fun hc => ?_)
    · refine R_ifeq fx_8_18 (by decide) (fun h => absurd h (by decide)) (fun _ => ?_)
      refine R_il fx_8_21 rfl ?_
      refine R_push fx_8_22 ?_
      refine R_push fx_8_23 ?_
      refine R_cs fx_8_25 rfl rfl rfl rfl ?_
      refine C_9 (by omega) (by omega) (by omega) (fun hc => ?_) (fun hc => ?_)
      · refine R_ifeq fx_8_28 (by decide) (fun h => absurd h (by decide)) (fun _ => ?_)
        refine R_push fx_8_31 ?_
        refine R_goto fx_8_32 ?_
        refine R_is fx_8_36 ?_
        refine R_il fx_8_38 rfl ?_
        refine R_ifeq fx_8_40 (by decide) (fun h => absurd h (by decide)) (fun _ => ?_)
        refine R_al fx_8_43 rfl (by omega) ?_
        refine R_gr fx_8_44 kd_3 rfl rr_3_0 ?_
        refine R_gf fx_8_47 kd_4 rfl ?_
        refine R_push fx_8_50 ?_
        refine R_iclt fx_8_52 (by omega) (fun hc => ?_) (fun hc => ?_)
        · refine R_al fx_8_57 rfl (by omega) ?_
          refine R_cv fx_8_58 rfl rfl rfl rfl kd_3 ?_
          refine C_10 hH hS (fun f2 g1 g2 g3 g4 => ?_)
          have ec : f2 4 4 = G 0 := by rw [g4 4 (by omega)]; exact h0
          refine R_al fx_8_61 rfl (by omega) ?_
          refine R_gr fx_8_62 kd_3 rfl rr_3_0 ?_
          refine R_gf fx_8_65 kd_4 rfl ?_
          refine R_is fx_8_68 ?_
          refine R_al fx_8_70 rfl (by omega) ?_
          refine R_gr fx_8_71 kd_3 rfl rr_3_0 ?_
          refine R_gr fx_8_74 kd_4 rfl rr_4_0 ?_
          refine R_il fx_8_77 rfl ?_
          refine R_aa fx_8_79 (Or.inl kd_5) (by omega) (by rw [ln_5]; omega) (by omega) (rr_reed _ (by omega)) ?_
          refine R_il fx_8_80 rfl ?_
          refine R_il fx_8_81 rfl ?_
          refine R_il fx_8_82 rfl ?_
          refine R_cv fx_8_83 rfl rfl rfl rfl (kd_reed _ (by omega)) ?_
          refine C_16 (by omega) (kd_reed _ (by omega)) (fun f3 k1 k2 => ?_)
          refine R_al fx_8_86 rfl (by omega) ?_
          refine R_gr fx_8_87 kd_3 rfl rr_3_0 ?_
          refine R_il fx_8_90 rfl ?_
          refine R_push fx_8_92 ?_
          refine R_add fx_8_93 ?_
          refine R_pf fx_8_94 kd_4 rfl (fun h => absurd h (by decide)) ?_
          refine R_il fx_8_97 rfl ?_
          rw [ec] at k1 k2 ⊢
          obtain ⟨rr, hrr⟩ := Int.eq_ofNat_of_zero_le hV.1.1
          rw [hrr] at k1 k2 ⊢
          refine R_ret fx_8_99 (Or.inl rfl) ?_
          rw [hrr] at K1
          refine K1 (by omega) _ (Dn.of g1 g2 g3 g4 (fun c hc => ?_) ((hS.kept (f2 := f2) (fun c q1 q2 => g4 c (by omega))).add (R := newR p t q) (by omega) hrr (fun j hj => ?_) k2))
          · funext i; rw [xup_a (by omega), k2 c (by simp only [Int.toNat_natCast]; omega)]
          · simp only [Int.toNat_natCast] at k1
            rcases (show j = 0 ∨ j = 1 ∨ j = 2 ∨ j = 3 ∨ j = 4 ∨ j = 5 ∨ j = 6 by omega) with rfl | rfl | rfl | rfl | rfl | rfl | rfl
            · exact k1.1
            · exact k1.2.1
            · exact k1.2.2.1
            · exact k1.2.2.2.1
            · exact k1.2.2.2.2.1
            · exact k1.2.2.2.2.2.1
            · exact k1.2.2.2.2.2.2
        · refine R_push fx_8_55 ?_
          exact R_ret fx_8_56 (Or.inl rfl) (K0 (by omega))
      · refine R_ifeq fx_8_28 (by decide) (fun _ => ?_) (fun h => absurd h (by decide))
        refine R_push fx_8_35 ?_
        refine R_is fx_8_36 ?_
        refine R_il fx_8_38 rfl ?_
        refine R_ifeq fx_8_40 (by decide) (fun _ => ?_) (fun h => absurd h (by decide))
        refine R_push fx_8_55 ?_
        exact R_ret fx_8_56 (Or.inl rfl) (K0 (by omega))
    · refine R_ifeq fx_8_18 (by decide) (fun _ => ?_) (fun h => absurd h (by decide))
      refine R_push fx_8_35 ?_
      refine R_is fx_8_36 ?_
      refine R_il fx_8_38 rfl ?_
      refine R_ifeq fx_8_40 (by decide) (fun _ => ?_) (fun h => absurd h (by decide))
      refine R_push fx_8_55 ?_
      exact R_ret fx_8_56 (Or.inl rfl) (K0 (by omega))
  · refine R_ifeq fx_8_8 (by decide) (fun _ => ?_) (fun h => absurd h (by decide))
    refine R_push fx_8_35 ?_
    refine R_is fx_8_36 ?_
    refine R_il fx_8_38 rfl ?_
    refine R_ifeq fx_8_40 (by decide) (fun _ => ?_) (fun h => absurd h (by decide))
    refine R_push fx_8_55 ?_
    exact R_ret fx_8_56 (Or.inl rfl) (K0 (by omega))
end AR
end
section
/-! ===== tuning, look ===== -/
def tunG (G : Nat → Int) (kd key : Int) : Nat → Int := fun i => if 4 ≤ i ∧ i < 12 then key + xnth xkeys (kd.toNat * 8 + (i - 4)) 0 else G i
section AS
variable {L : Nat} {f : xF} {Q : List xV → xF → Prop} {G : Nat → Int} {hi : Nat → Nat → Int} {n x : Nat}
theorem C_22l {f2 : xF} {kd key : Int} (hS : Sg f 4 G) (g1 : Hc f2 (min (n + 1) 6) ((x + 1) % 6) (consG G hi)) (g2 : f2 141 8 = 0) (g3 : ∀ i, i ≠ 8 → f2 141 i = f 141 i) (g4 : ∀ c, (c < 21 ∨ 125 ≤ c) ∧ c ≠ 141 → f2 c = f c) (hkey : ∀ i, i < 24 → f 2 i = xnth xkeys i 0) (hc9 : (0 ≤ kd ∧ kd ≤ 2) ∧ 0 ≤ key ∧ key ≤ 8000) (K1 : (0 ≤ kd ∧ kd ≤ 2) ∧ 0 ≤ key ∧ key ≤ 8000 → ∀ f2, Dn f f2 n x hi G (tunG G kd key) → Q [.inl 1] f2) : ∀ (k m : Nat) (g : xF), m + k = 8 → (∀ s, s < m → g 6 s = key + xnth xkeys (kd.toNat * 8 + s) 0) → (∀ c, c ≠ 6 → g c = f2 c) → Rf (SHL L) 22 28 [some (.inr 3), some (.inl kd), some (.inl key), some (.inl (m : Int))] [] g Q := by
    have hk2 : f2 2 = f 2 := g4 2 (by omega)
    intro k
    induction k with
    | zero =>
      intro m g hmn e1 e2
      have hmj : m = 8 := by omega
      subst hmj
      refine R_il fx_22_28 rfl ?_
      refine R_push fx_22_29 ?_
      refine R_icge fx_22_31 (by omega) (fun hc => ?_) (fun hc => by omega)
      refine R_push fx_22_61 ?_
      refine R_ret fx_22_62 (by decide) (K1 (by omega) _ (Dn.of g1 g2 g3 g4 (fun c hc => e2 c (by omega)) ?_))
      have hS2 : Sg f2 4 G := hS.kept (fun c q1 q2 => g4 c (by omega))
      obtain ⟨⟨h1, h2, h3, h4⟩, h5, h6, h7, h8⟩ := hS2
      refine ⟨⟨?_, ?_, ?_, ?_⟩, fun t ht => ?_, fun t ht => ?_, fun t ht => ?_, fun r hr hg j hj => ?_⟩
      · rw [e2 4 (by omega)]; exact h1
      · rw [e2 4 (by omega)]; exact h2
      · rw [e2 4 (by omega)]; exact h3
      · rw [e2 4 (by omega)]; exact h4
      · rw [show tunG G kd key (4 + t) = key + xnth xkeys (kd.toNat * 8 + t) 0 by unfold tunG; rw [if_pos (by omega)]; congr 2; omega]; exact e1 t ht
      · rw [e2 _ (by omega), show tunG G kd key (12 + t) = G (12 + t) from if_neg (by omega)]; exact h6 t ht
      · rw [e2 _ (by omega), show tunG G kd key (16 + t) = G (16 + t) from if_neg (by omega)]; exact h7 t ht
      · rw [show tunG G kd key 0 = G 0 from if_neg (by omega)] at hg
        rw [e2 _ (by omega), show tunG G kd key (20 + 7 * r + j) = G (20 + 7 * r + j) from if_neg (by omega)]; exact h8 r hr hg j hj
    | succ k ih =>
      intro m g hmn e1 e2
      refine R_il fx_22_28 rfl ?_
      refine R_push fx_22_29 ?_
      refine R_icge fx_22_31 (by omega) (fun hc => by omega) (fun hc => ?_)
      refine R_al fx_22_34 rfl (by omega) ?_
      refine R_gr fx_22_35 kd_3 rfl rr_3_0 ?_
      refine R_gr fx_22_38 kd_4 rfl rr_4_1 ?_
      refine R_il fx_22_41 rfl ?_
      refine R_il fx_22_42 rfl ?_
      refine R_key fx_22_43 ?_
      refine R_il fx_22_46 rfl ?_
      refine R_push fx_22_47 ?_
      refine R_mul fx_22_49 ?_
      refine R_il fx_22_50 rfl ?_
      refine R_add fx_22_51 ?_
      refine R_ia fx_22_52 (Or.inr kd_2) (by omega) (by rw [ln_2]; omega) (by omega) ?_
      refine R_add fx_22_53 ?_
      refine R_ias fx_22_54 kd_6 (by omega) (by rw [ln_6]; omega) (by omega) ?_
      refine R_inc fx_22_55 rfl ?_
      refine R_goto fx_22_58 ?_
      refine ih (m + 1) _ (by omega) (fun s hs => ?_) (fun c hc => ?_)
      · by_cases e : s = m
        · subst e
          rw [Int.toNat_natCast, xup_s, e2 2 (by omega), hk2, hkey _ (by omega)]
          congr 2; omega
        · rw [Int.toNat_natCast, xup_i e]; exact e1 s (by omega)
      · funext i; rw [xup_a hc]; exact congrFun (e2 c hc) i
theorem C_22 {kd key : Int} (hH : Hc f n x hi) (hS : Sg f 4 G) (ha : xok kd) (hb : xok key) (hkey : ∀ i, i < 24 → f 2 i = xnth xkeys i 0) (K1 : (0 ≤ kd ∧ kd ≤ 2) ∧ 0 ≤ key ∧ key ≤ 8000 → ∀ f2, Dn f f2 n x hi G (tunG G kd key) → Q [.inl 1] f2) (K0 : ¬ ((0 ≤ kd ∧ kd ≤ 2) ∧ 0 ≤ key ∧ key ≤ 8000) → Q [.inl 0] f) : Rf (SHL L) 22 0 (xloc 22 [.inr 3, .inl kd, .inl key]) [] f Q := by
  refine R_il fx_22_0 rfl ?_
  refine R_push fx_22_1 ?_
  refine R_push fx_22_2 ?_
  refine R_cs fx_22_3 rfl rfl rfl rfl ?_
  refine C_9 (by omega) (by omega) (by omega) (fun hc => ?_) (fun hc => ?_)
  · refine R_ifeq fx_22_6 (by decide) (fun h => absurd h (by decide)) (fun _ => ?_)
    refine R_il fx_22_9 rfl ?_
    refine R_push fx_22_10 ?_
    refine R_push fx_22_11 ?_
    refine R_cs fx_22_14 rfl rfl rfl rfl ?_
    refine C_9 (by omega) (by omega) (by omega) (fun hc => ?_) (fun hc => ?_)
    · refine R_ifne fx_22_17 (by decide) (fun _ => ?_) (fun h => absurd h (by decide))
      refine R_al fx_22_22 rfl (by omega) ?_
      refine R_cv fx_22_23 rfl rfl rfl rfl kd_3 ?_
      refine C_10 hH hS (fun f2 g1 g2 g3 g4 => ?_)
      refine R_push fx_22_26 ?_
      refine R_is fx_22_27 ?_
      exact C_22l hS g1 g2 g3 g4 hkey (by omega) K1 8 0 f2 (by omega) (fun s hs => absurd hs (by omega)) (fun _ _ => rfl)
    · refine R_ifne fx_22_17 (by decide) (fun h => absurd h (by decide)) (fun _ => ?_)
      refine R_push fx_22_20 ?_
      refine R_ret fx_22_21 (by decide) ?_
      exact K0 (by omega)
  · refine R_ifeq fx_22_6 (by decide) (fun _ => ?_) (fun h => absurd h (by decide))
    refine R_push fx_22_20 ?_
    refine R_ret fx_22_21 (by decide) ?_
    exact K0 (by omega)
def lookG (G : Nat → Int) (fr ws : Nat) (w : Int) : Int := if w = 0 then G 0 else if w = 1 then ((popc fr 12 : Nat) : Int) else if w = 2 then G 1 else if w = 3 then G 2 else if w = 4 then ws else if w = 5 then G 3 else if 10 ≤ w ∧ w ≤ 17 then G (4 + (w - 10).toNat) else if 20 ≤ w ∧ w ≤ 27 then (if G (12 + ((w - 20) / 2).toNat) ≤ G (16 + ((w - 20) / 2).toNat) then (if (w - 20) % 2 = 0 then G (12 + ((w - 20) / 2).toNat) else G (16 + ((w - 20) / 2).toNat)) else -1001) else -1001
theorem C_27 {w : Int} (hV : VG G) (hS : Sg f 4 G) (hw0 : xok w) (K : Q [.inl (lookG G (bset (frp f) 12) (bset (wsp f) 8) w)] f) : Rf (SHL L) 27 0 (xloc 27 [.inr 3, .inl w]) [] f Q := by
  have hm := hV.m hS
  have hp := hV.p hS
  have h0 := hS.1.1
  have hw := hV.w hS
  have hb := hV.b hS
  refine R_il fx_27_0 rfl ?_
  refine R_push fx_27_1 ?_
  refine R_push fx_27_3 ?_
  refine R_cs fx_27_5 rfl rfl rfl rfl ?_
  refine C_9 (by omega) (by omega) (by omega) (fun hc => ?_) (fun hc => ?_)
  · refine R_ifeq fx_27_8 (by decide) (fun h => absurd h (by decide)) (fun _ => ?_)
    refine R_al fx_27_11 rfl (by omega) ?_
    refine R_gr fx_27_12 kd_3 rfl rr_3_0 ?_
    refine R_gr fx_27_15 kd_4 rfl rr_4_1 ?_
    refine R_il fx_27_18 rfl ?_
    refine R_push fx_27_19 ?_
    refine R_sub fx_27_21 ?_
    refine R_ia fx_27_22 (Or.inl kd_6) (by omega) (by rw [ln_6]; omega) (by omega) ?_
    refine R_ret fx_27_23 (Or.inl rfl) ?_
    have e := hS.2.1 (w - 10).toNat (by omega)
    have e9 : lookG G (bset (frp f) 12) (bset (wsp f) 8) w = G (4 + (w - 10).toNat) := by unfold lookG; rw [if_neg (by omega), if_neg (by omega), if_neg (by omega), if_neg (by omega), if_neg (by omega), if_neg (by omega), if_pos (by omega)]
    rw [e9, ← e] at K
    exact K
  · refine R_ifeq fx_27_8 (by decide) (fun _ => ?_) (fun h => absurd h (by decide))
    refine R_il fx_27_24 rfl ?_
    refine R_push fx_27_25 ?_
    refine R_push fx_27_27 ?_
    refine R_cs fx_27_29 rfl rfl rfl rfl ?_
    refine C_9 (by omega) (by omega) (by omega) (fun hc => ?_) (fun hc => ?_)
    · refine R_ifeq fx_27_32 (by decide) (fun h => absurd h (by decide)) (fun _ => ?_)
      refine R_al fx_27_35 rfl (by omega) ?_
      refine R_il fx_27_36 rfl ?_
      refine R_push fx_27_37 ?_
      refine R_sub fx_27_39 ?_
      refine R_cv fx_27_40 rfl rfl rfl rfl kd_3 ?_
      refine C_28 (by omega) hb ?_
      refine R_ret fx_27_43 (Or.inl rfl) ?_
      have e1 := hS.2.2.1 ((w - 20) / 2).toNat (by omega)
      have e2 := hS.2.2.2.1 ((w - 20) / 2).toNat (by omega)
      have e9 : lookG G (bset (frp f) 12) (bset (wsp f) 8) w = (if G (12 + ((w - 20) / 2).toNat) ≤ G (16 + ((w - 20) / 2).toNat) then (if (w - 20) % 2 = 0 then G (12 + ((w - 20) / 2).toNat) else G (16 + ((w - 20) / 2).toNat)) else -1001) := by unfold lookG; rw [if_neg (by omega), if_neg (by omega), if_neg (by omega), if_neg (by omega), if_neg (by omega), if_neg (by omega), if_neg (by omega), if_pos (by omega)]
      rw [e9, ← e1, ← e2] at K
      exact K
    · refine R_ifeq fx_27_32 (by decide) (fun _ => ?_) (fun h => absurd h (by decide))
      refine R_il fx_27_44 rfl ?_
      rcases (show w = 0 ∨ w = 1 ∨ w = 2 ∨ w = 3 ∨ w = 4 ∨ w = 5 ∨ (w < 0 ∨ 6 ≤ w) by omega) with rfl | rfl | rfl | rfl | rfl | rfl | hw
      · refine R_sw fx_27_45 (by decide) rfl ?_
        refine R_al fx_27_84 rfl (by omega) ?_
        refine R_gr fx_27_85 kd_3 rfl rr_3_0 ?_
        refine R_gf fx_27_88 kd_4 rfl ?_
        refine R_ret fx_27_91 (Or.inl rfl) ?_
        rw [hS.1.1]; exact K
      · refine R_sw fx_27_45 (by decide) rfl ?_
        refine R_al fx_27_92 rfl (by omega) ?_
        refine R_gr fx_27_93 kd_3 rfl rr_3_0 ?_
        refine R_cv fx_27_96 rfl rfl rfl rfl kd_4 ?_
        refine C_30 hm hp ?_
        refine R_cs fx_27_99 rfl rfl rfl rfl ?_
        refine C_31 (bset_lt (frp f) 12) ?_
        exact R_ret fx_27_102 (Or.inl rfl) K
      · refine R_sw fx_27_45 (by decide) rfl ?_
        refine R_al fx_27_103 rfl (by omega) ?_
        refine R_gr fx_27_104 kd_3 rfl rr_3_0 ?_
        refine R_gf fx_27_107 kd_4 rfl ?_
        refine R_ret fx_27_110 (Or.inl rfl) ?_
        rw [hS.1.2.1]; exact K
      · refine R_sw fx_27_45 (by decide) rfl ?_
        refine R_al fx_27_111 rfl (by omega) ?_
        refine R_gr fx_27_112 kd_3 rfl rr_3_0 ?_
        refine R_gf fx_27_115 kd_4 rfl ?_
        refine R_ret fx_27_118 (Or.inl rfl) ?_
        rw [hS.1.2.2.1]; exact K
      · refine R_sw fx_27_45 (by decide) rfl ?_
        refine R_al fx_27_119 rfl (by omega) ?_
        refine R_gr fx_27_120 kd_3 rfl rr_3_0 ?_
        refine R_cv fx_27_123 rfl rfl rfl rfl kd_4 ?_
        refine C_32 hw ?_
        exact R_ret fx_27_126 (Or.inl rfl) K
      · refine R_sw fx_27_45 (by decide) rfl ?_
        refine R_al fx_27_127 rfl (by omega) ?_
        refine R_gr fx_27_128 kd_3 rfl rr_3_0 ?_
        refine R_gf fx_27_131 kd_4 rfl ?_
        refine R_ret fx_27_134 (Or.inl rfl) ?_
        rw [hS.1.2.2.2]; exact K
      · refine R_sw fx_27_45 hw0 (if_pos (show w < 0 ∨ ((6 : Nat) : Int) ≤ w by omega)) ?_
        refine R_push fx_27_135 ?_
        refine R_ret fx_27_138 (Or.inl rfl) ?_
        have e9 : lookG G (bset (frp f) 12) (bset (wsp f) 8) w = -1001 := by unfold lookG; rw [if_neg (by omega), if_neg (by omega), if_neg (by omega), if_neg (by omega), if_neg (by omega), if_neg (by omega), if_neg (by omega), if_neg (by omega)]
        rw [e9] at K
        exact K
end AS
end
section
/-! ===== the model: its leaves, begins, keep, undo ===== -/
def startG : Nat → Int := fun i => if i = 1 then 6 else if i = 2 then 5 else if 4 ≤ i ∧ i < 12 then -1 else if 12 ≤ i ∧ i < 16 then 1 else 0
def Mg (f : xF) (G : Nat → Int) : Prop := f 149 4 = 1 ∧ ∀ i, i < 112 → f 150 i = G i
def Mst (f : xF) (G : Nat → Int) : Prop := Mg f G ∨ (f 149 4 = 0 ∧ (∀ i, i < 112 → f 150 i = 0) ∧ ∀ i, i < 112 → G i = startG i)
def Mk (f : xF) (n : Nat) (hi : Nat → Nat → Int) : Prop := n ≤ 6 ∧ f 149 3 = n ∧ ∀ i, i < n → ∀ j, j < 112 → f 151 ((n - 1 - i) * 112 + j) = hi i j
section MO
variable {L : Nat} {f : xF} {Q : List xV → xF → Prop} {G : Nat → Int} {hi : Nat → Nat → Int} {n : Nat}
theorem C_99 {r k : Int} (hr : 0 ≤ r ∧ r < 13) (hk : 0 ≤ k ∧ k < 7) (hM : Mg f G) (hr2 : r < 12 ∨ k = 0) (K : Q [.inl (G (20 + 7 * r.toNat + k.toNat))] f) : Rf (SHL L) 99 0 (xloc 99 [.inr 149, .inl r, .inl k]) [] f Q := by
  refine R_al fx_99_0 rfl (by omega) ?_
  refine R_gr fx_99_1 kd_149 rfl rr_149_1 ?_
  refine R_push fx_99_4 ?_
  refine R_push fx_99_6 ?_
  refine R_il fx_99_8 rfl ?_
  refine R_mul fx_99_9 ?_
  refine R_add fx_99_10 ?_
  refine R_il fx_99_11 rfl ?_
  refine R_add fx_99_12 ?_
  refine R_ia fx_99_13 (Or.inl kd_150) (by omega) (by rw [ln_150]; omega) (by omega) ?_
  refine R_ret fx_99_14 (Or.inl rfl) ?_
  rw [hM.2 _ (by omega), show (20 + 7 * r + k).toNat = 20 + 7 * r.toNat + k.toNat by omega]
  exact K
theorem C_97 {r : Int} (hr : xok r) (hM : Mg f G) (h0 : 0 ≤ G 0 ∧ G 0 ≤ 12) (K1 : 0 ≤ r ∧ r < G 0 → Q [.inl 1] f) (K0 : ¬ (0 ≤ r ∧ r < G 0) → Q [.inl 0] f) : Rf (SHL L) 97 0 (xloc 97 [.inr 149, .inl r]) [] f Q := by
  have e0 : f 150 (0 : Int).toNat = G 0 := hM.2 0 (by omega)
  refine R_il fx_97_0 rfl ?_
  refine R_iflt fx_97_1 (by omega) (fun hc => ?_) (fun hc => ?_)
  · refine R_push fx_97_18 ?_
    refine R_ret fx_97_19 (by decide) ?_
    first | exact K1 (by omega) | exact K0 (by omega)
  · refine R_il fx_97_4 rfl ?_
    refine R_al fx_97_5 rfl (by omega) ?_
    refine R_gr fx_97_6 kd_149 rfl rr_149_1 ?_
    refine R_push fx_97_9 ?_
    refine R_ia fx_97_10 (Or.inl kd_150) (by omega) (by rw [ln_150]; omega) (by omega) ?_
    refine R_icge fx_97_11 (by omega) (fun hc => ?_) (fun hc => ?_)
    · refine R_push fx_97_18 ?_
      refine R_ret fx_97_19 (by decide) ?_
      first | exact K1 (by omega) | exact K0 (by omega)
    · refine R_push fx_97_14 ?_
      refine R_goto fx_97_15 ?_
      refine R_ret fx_97_19 (by decide) ?_
      first | exact K1 (by omega) | exact K0 (by omega)
theorem C_98 {r : Int} (hr : 0 ≤ r ∧ r < 12) (hM : Mg f G) (hp : xok (G (20 + 7 * r.toNat + 3))) (K1 : G (20 + 7 * r.toNat + 3) = 0 → Q [.inl 1] f) (K0 : ¬ G (20 + 7 * r.toNat + 3) = 0 → Q [.inl 0] f) : Rf (SHL L) 98 0 (xloc 98 [.inr 149, .inl r]) [] f Q := by
  refine R_al fx_98_0 rfl (by omega) ?_
  refine R_il fx_98_1 rfl ?_
  refine R_push fx_98_2 ?_
  refine R_cv fx_98_3 rfl rfl rfl rfl kd_149 ?_
  refine C_99 (by omega) (by omega) hM (by omega) ?_
  refine R_ifne fx_98_6 (Or.inl hp) (fun hc => ?_) (fun hc => ?_)
  · refine R_push fx_98_13 ?_
    refine R_ret fx_98_14 (by decide) ?_
    first | exact K1 hc | exact K0 hc
  · refine R_push fx_98_9 ?_
    refine R_goto fx_98_10 ?_
    refine R_ret fx_98_14 (by decide) ?_
    first | exact K1 hc | exact K0 hc
def bgn1 (m : Nat) : Nat → Int := fun i => if 4 ≤ i ∧ i < 4 + m then -1 else if i = 1 then 6 else if i = 2 then 5 else 0
def bgn2 (m : Nat) : Nat → Int := fun i => if 12 ≤ i ∧ i < 12 + m then 1 else bgn1 8 i
theorem C_93 (hM : Mst f G) (K : ∀ f2 : xF, Mg f2 G → (∀ i, i ≠ 4 → f2 149 i = f 149 i) → (∀ c, c ≠ 149 ∧ c ≠ 150 → f2 c = f c) → Q [] f2) : Rf (SHL L) 93 0 (xloc 93 [.inr 149]) [] f Q := by
  rcases hM with hG | ⟨h4, hz, hs⟩
  · have h4 := hG.1
    refine R_al fx_93_0 rfl (by omega) ?_
    refine R_gf fx_93_1 kd_149 rfl ?_
    refine R_ifeq fx_93_4 (by omega) (fun hc => by omega) (fun hc => ?_)
    exact R_retv fx_93_7 rfl (K f hG (fun _ _ => rfl) (fun _ _ => rfl))
  · have fin : ∀ g : xF, (∀ i, i < 112 → g 150 i = startG i) → (∀ c, c ≠ 150 → g c = (xup f 149 4 1) c) → Q [] g := fun g q1 q2 => by
      refine K g ⟨by rw [q2 149 (by omega), xup_s], fun i h9 => by rw [q1 i h9, hs i h9]⟩ (fun i h9 => by rw [q2 149 (by omega), xup_i h9]) (fun c hc => by rw [q2 c hc.2]; funext i; rw [xup_a hc.1])
    have loop2 : ∀ (k m : Nat) (g : xF), m + k = 4 → (∀ i, i < 112 → g 150 i = bgn2 m i) → (∀ c, c ≠ 150 → g c = (xup f 149 4 1) c) → Rf (SHL L) 93 53 [some (.inr 149), some (.inl (m : Int))] [] g Q := by
     intro k
     induction k with
     | zero =>
      intro m g hmn e1 e2
      have hmj : m = 4 := by omega
      subst hmj
      refine R_il fx_93_53 rfl ?_
      refine R_push fx_93_54 ?_
      refine R_icge fx_93_55 (by omega) (fun hc => ?_) (fun hc => by omega)
      refine R_retv fx_93_74 rfl (fin g (fun i h9 => ?_) e2)
      rw [e1 i h9]
      unfold bgn2 bgn1 startG
      by_cases h1 : i = 1
      · subst h1; simp
      · by_cases h2 : i = 2
        · subst h2; simp
        · by_cases h3 : 12 ≤ i ∧ i < 16
          · rw [if_pos h3, if_neg h1, if_neg h2, if_neg (by omega), if_pos h3]
          · rw [if_neg (by omega)]
            by_cases h4 : 4 ≤ i ∧ i < 12
            · rw [if_pos (by omega), if_neg h1, if_neg h2, if_pos h4]
            · rw [if_neg (by omega), if_neg h1, if_neg h2, if_neg h4, if_neg h3, if_neg h1, if_neg h2]
     | succ k ih =>
      intro m g hmn e1 e2
      refine R_il fx_93_53 rfl ?_
      refine R_push fx_93_54 ?_
      refine R_icge fx_93_55 (by omega) (fun hc => by omega) (fun hc => ?_)
      refine R_al fx_93_58 rfl (by omega) ?_
      refine R_gr fx_93_59 kd_149 rfl rr_149_1 ?_
      refine R_push fx_93_62 ?_
      refine R_il fx_93_64 rfl ?_
      refine R_add fx_93_65 ?_
      refine R_push fx_93_66 ?_
      refine R_ias fx_93_67 kd_150 (by omega) (by rw [ln_150]; omega) (by omega) ?_
      refine R_inc fx_93_68 rfl ?_
      refine R_goto fx_93_71 ?_
      refine ih (m + 1) _ (by omega) (fun i h9 => ?_) (fun c hc => ?_)
      · by_cases e : i = 12 + m
        · subst e
          rw [show ((12 : Int) + (m : Int)).toNat = 12 + m by omega, xup_s]
          unfold bgn2; rw [if_pos (by omega)]
        · rw [xup_i (by omega), e1 i h9]
          unfold bgn2
          by_cases h4 : 12 ≤ i ∧ i < 12 + m
          · rw [if_pos h4, if_pos (by omega)]
          · rw [if_neg h4, if_neg (by omega)]
      · funext i; rw [xup_a hc]; exact congrFun (e2 c hc) i
    have loop1 : ∀ (k m : Nat) (g : xF), m + k = 8 → (∀ i, i < 112 → g 150 i = bgn1 m i) → (∀ c, c ≠ 150 → g c = (xup f 149 4 1) c) → Rf (SHL L) 93 30 [some (.inr 149), some (.inl (m : Int))] [] g Q := by
     intro k
     induction k with
     | zero =>
      intro m g hmn e1 e2
      have hmj : m = 8 := by omega
      subst hmj
      refine R_il fx_93_30 rfl ?_
      refine R_push fx_93_31 ?_
      refine R_icge fx_93_33 (by omega) (fun hc => ?_) (fun hc => by omega)
      refine R_push fx_93_51 ?_
      refine R_is fx_93_52 ?_
      exact loop2 4 0 g (by omega) (fun i h9 => by rw [e1 i h9]; unfold bgn2; rw [if_neg (by omega)]) e2
     | succ k ih =>
      intro m g hmn e1 e2
      refine R_il fx_93_30 rfl ?_
      refine R_push fx_93_31 ?_
      refine R_icge fx_93_33 (by omega) (fun hc => by omega) (fun hc => ?_)
      refine R_al fx_93_36 rfl (by omega) ?_
      refine R_gr fx_93_37 kd_149 rfl rr_149_1 ?_
      refine R_push fx_93_40 ?_
      refine R_il fx_93_41 rfl ?_
      refine R_add fx_93_42 ?_
      refine R_push fx_93_43 ?_
      refine R_ias fx_93_44 kd_150 (by omega) (by rw [ln_150]; omega) (by omega) ?_
      refine R_inc fx_93_45 rfl ?_
      refine R_goto fx_93_48 ?_
      refine ih (m + 1) _ (by omega) (fun i h9 => ?_) (fun c hc => ?_)
      · by_cases e : i = 4 + m
        · subst e
          rw [show ((4 : Int) + (m : Int)).toNat = 4 + m by omega, xup_s]
          unfold bgn1; rw [if_pos (by omega)]
        · rw [xup_i (by omega), e1 i h9]
          unfold bgn1
          by_cases h4 : 4 ≤ i ∧ i < 4 + m
          · rw [if_pos h4, if_pos (by omega)]
          · rw [if_neg h4, if_neg (show ¬ (4 ≤ i ∧ i < 4 + (m + 1)) by omega)]
      · funext i; rw [xup_a hc]; exact congrFun (e2 c hc) i
    refine R_al fx_93_0 rfl (by omega) ?_
    refine R_gf fx_93_1 kd_149 rfl ?_
    refine R_ifeq fx_93_4 (by omega) (fun hc => ?_) (fun hc => ?_)
    · refine R_al fx_93_8 rfl (by omega) ?_
      refine R_push fx_93_9 ?_
      refine R_pf fx_93_10 kd_149 rfl (fun _ => by omega) ?_
      refine R_al fx_93_13 rfl (by omega) ?_
      refine R_gr fx_93_14 kd_149 rfl rr_149_1 ?_
      refine R_push fx_93_17 ?_
      refine R_push fx_93_18 ?_
      refine R_ias fx_93_20 kd_150 (by omega) (by rw [ln_150]; omega) (by omega) ?_
      refine R_al fx_93_21 rfl (by omega) ?_
      refine R_gr fx_93_22 kd_149 rfl rr_149_1 ?_
      refine R_push fx_93_25 ?_
      refine R_push fx_93_26 ?_
      refine R_ias fx_93_27 kd_150 (by omega) (by rw [ln_150]; omega) (by omega) ?_
      refine R_push fx_93_28 ?_
      refine R_is fx_93_29 ?_
      refine loop1 8 0 _ (by omega) (fun i h9 => ?_) (fun c hc => ?_)
      · rw [show (1 : Int).toNat = 1 from rfl, show (2 : Int).toNat = 2 from rfl]
        unfold bgn1
        rw [if_neg (by omega)]
        by_cases h2 : i = 2
        · subst h2; rw [xup_s]; simp
        · rw [xup_i h2]
          by_cases h1 : i = 1
          · subst h1; rw [xup_s]; simp
          · rw [xup_i h1, xup_a (by omega), hz i h9, if_neg h1, if_neg h2]
      · funext i; rw [xup_a hc, xup_a hc]
    · exact absurd h4 hc
end MO
end
