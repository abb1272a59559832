section
-- ===== PART A: goes FIRST, ahead of the names: the tables' words, and 'selects' of the private methods out of them =====
/-- a private method of a class that the tables say can be made, by its rows of tables_1 -/
def lw_okq (q : MethodName × Nat) : Prop := (q.1.cls ≠ "java/lang/invoke/MethodHandle" ∧ q.1.cls ≠ "java/lang/invoke/VarHandle") ∧ Cond.instantiable q.1.cls q.2 ∈ tables_1 ∧ Cond.privateMethod q.1 ∈ tables_1 ∧ Cond.instanceMethod q.1 ∈ tables_1
theorem lw_p0 : lw_okq (⟨"ReedBench", "remember", "()V"⟩, 4) := ⟨⟨by decide +kernel, by decide +kernel⟩, List.mem_of_getElem? (i := 15) (by decide +kernel), List.mem_of_getElem? (i := 223) (by decide +kernel), List.mem_of_getElem? (i := 224) (by decide +kernel)⟩
theorem lw_p1 : lw_okq (⟨"ReedBench$History", "keep", "(LReedBench$State;)V"⟩, 3) := ⟨⟨by decide +kernel, by decide +kernel⟩, List.mem_of_getElem? (i := 116) (by decide +kernel), List.mem_of_getElem? (i := 227) (by decide +kernel), List.mem_of_getElem? (i := 228) (by decide +kernel)⟩
theorem lw_p2 : lw_okq (⟨"ReedBench$State", "copyFrom", "(LReedBench$State;)V"⟩, 8) := ⟨⟨by decide +kernel, by decide +kernel⟩, List.mem_of_getElem? (i := 23) (by decide +kernel), List.mem_of_getElem? (i := 231) (by decide +kernel), List.mem_of_getElem? (i := 232) (by decide +kernel)⟩
theorem lw_p3 : lw_okq (⟨"ReedBench$Reed", "copyFrom", "(LReedBench$Reed;)V"⟩, 7) := ⟨⟨by decide +kernel, by decide +kernel⟩, List.mem_of_getElem? (i := 30) (by decide +kernel), List.mem_of_getElem? (i := 235) (by decide +kernel), List.mem_of_getElem? (i := 236) (by decide +kernel)⟩
theorem lw_p4 : lw_okq (⟨"ReedBench$Plan", "forget", "()V"⟩, 9) := ⟨⟨by decide +kernel, by decide +kernel⟩, List.mem_of_getElem? (i := 153) (by decide +kernel), List.mem_of_getElem? (i := 245) (by decide +kernel), List.mem_of_getElem? (i := 246) (by decide +kernel)⟩
theorem lw_p5 : lw_okq (⟨"ReedBench$Reed", "begin", "(III)V"⟩, 7) := ⟨⟨by decide +kernel, by decide +kernel⟩, List.mem_of_getElem? (i := 30) (by decide +kernel), List.mem_of_getElem? (i := 249) (by decide +kernel), List.mem_of_getElem? (i := 250) (by decide +kernel)⟩
theorem lw_p6 : lw_okq (⟨"ReedBench$State", "isFree", "(I)Z"⟩, 8) := ⟨⟨by decide +kernel, by decide +kernel⟩, List.mem_of_getElem? (i := 23) (by decide +kernel), List.mem_of_getElem? (i := 257) (by decide +kernel), List.mem_of_getElem? (i := 258) (by decide +kernel)⟩
theorem lw_p7 : lw_okq (⟨"ReedBench$State", "hasReed", "(I)Z"⟩, 8) := ⟨⟨by decide +kernel, by decide +kernel⟩, List.mem_of_getElem? (i := 23) (by decide +kernel), List.mem_of_getElem? (i := 261) (by decide +kernel), List.mem_of_getElem? (i := 262) (by decide +kernel)⟩
theorem lw_p8 : lw_okq (⟨"ReedBench$Reed", "bears", "(II)Z"⟩, 7) := ⟨⟨by decide +kernel, by decide +kernel⟩, List.mem_of_getElem? (i := 30) (by decide +kernel), List.mem_of_getElem? (i := 287) (by decide +kernel), List.mem_of_getElem? (i := 288) (by decide +kernel)⟩
theorem lw_p9 : lw_okq (⟨"ReedBench$Reed", "takeStrokes", "(III)V"⟩, 7) := ⟨⟨by decide +kernel, by decide +kernel⟩, List.mem_of_getElem? (i := 30) (by decide +kernel), List.mem_of_getElem? (i := 293) (by decide +kernel), List.mem_of_getElem? (i := 294) (by decide +kernel)⟩
theorem lw_p10 : lw_okq (⟨"ReedBench", "beatBound", "(I)I"⟩, 4) := ⟨⟨by decide +kernel, by decide +kernel⟩, List.mem_of_getElem? (i := 15) (by decide +kernel), List.mem_of_getElem? (i := 301) (by decide +kernel), List.mem_of_getElem? (i := 302) (by decide +kernel)⟩
theorem lw_p11 : lw_okq (⟨"ReedBench$State", "isBound", "(I)Z"⟩, 8) := ⟨⟨by decide +kernel, by decide +kernel⟩, List.mem_of_getElem? (i := 23) (by decide +kernel), List.mem_of_getElem? (i := 305) (by decide +kernel), List.mem_of_getElem? (i := 306) (by decide +kernel)⟩
theorem lw_p12 : lw_okq (⟨"ReedBench$State", "freeReeds", "()I"⟩, 8) := ⟨⟨by decide +kernel, by decide +kernel⟩, List.mem_of_getElem? (i := 23) (by decide +kernel), List.mem_of_getElem? (i := 309) (by decide +kernel), List.mem_of_getElem? (i := 310) (by decide +kernel)⟩
theorem lw_p13 : lw_okq (⟨"ReedBench$State", "wantedSlots", "()I"⟩, 8) := ⟨⟨by decide +kernel, by decide +kernel⟩, List.mem_of_getElem? (i := 23) (by decide +kernel), List.mem_of_getElem? (i := 320) (by decide +kernel), List.mem_of_getElem? (i := 321) (by decide +kernel)⟩
theorem lw_p14 : lw_okq (⟨"ReedBench$State", "isWanted", "(I)Z"⟩, 8) := ⟨⟨by decide +kernel, by decide +kernel⟩, List.mem_of_getElem? (i := 23) (by decide +kernel), List.mem_of_getElem? (i := 324) (by decide +kernel), List.mem_of_getElem? (i := 325) (by decide +kernel)⟩
theorem lw_p15 : lw_okq (⟨"ReedBench$Works", "slotKey", "(LReedBench$State;II)I"⟩, 3) := ⟨⟨by decide +kernel, by decide +kernel⟩, List.mem_of_getElem? (i := 135) (by decide +kernel), List.mem_of_getElem? (i := 338) (by decide +kernel), List.mem_of_getElem? (i := 339) (by decide +kernel)⟩
def lw_privs_1 : List (MethodName × Nat) := [(⟨"ReedBench", "remember", "()V"⟩, 4), (⟨"ReedBench$History", "keep", "(LReedBench$State;)V"⟩, 3), (⟨"ReedBench$State", "copyFrom", "(LReedBench$State;)V"⟩, 8), (⟨"ReedBench$Reed", "copyFrom", "(LReedBench$Reed;)V"⟩, 7), (⟨"ReedBench$Plan", "forget", "()V"⟩, 9), (⟨"ReedBench$Reed", "begin", "(III)V"⟩, 7), (⟨"ReedBench$State", "isFree", "(I)Z"⟩, 8), (⟨"ReedBench$State", "hasReed", "(I)Z"⟩, 8), (⟨"ReedBench$Reed", "bears", "(II)Z"⟩, 7), (⟨"ReedBench$Reed", "takeStrokes", "(III)V"⟩, 7), (⟨"ReedBench", "beatBound", "(I)I"⟩, 4), (⟨"ReedBench$State", "isBound", "(I)Z"⟩, 8), (⟨"ReedBench$State", "freeReeds", "()I"⟩, 8), (⟨"ReedBench$State", "wantedSlots", "()I"⟩, 8), (⟨"ReedBench$State", "isWanted", "(I)Z"⟩, 8), (⟨"ReedBench$Works", "slotKey", "(LReedBench$State;II)I"⟩, 3)]
theorem lw_r1 : ∀ q ∈ lw_privs_1, lw_okq q := List.forall_mem_cons.mpr ⟨lw_p0, List.forall_mem_cons.mpr ⟨lw_p1, List.forall_mem_cons.mpr ⟨lw_p2, List.forall_mem_cons.mpr ⟨lw_p3, List.forall_mem_cons.mpr ⟨lw_p4, List.forall_mem_cons.mpr ⟨lw_p5, List.forall_mem_cons.mpr ⟨lw_p6, List.forall_mem_cons.mpr ⟨lw_p7, List.forall_mem_cons.mpr ⟨lw_p8, List.forall_mem_cons.mpr ⟨lw_p9, List.forall_mem_cons.mpr ⟨lw_p10, List.forall_mem_cons.mpr ⟨lw_p11, List.forall_mem_cons.mpr ⟨lw_p12, List.forall_mem_cons.mpr ⟨lw_p13, List.forall_mem_cons.mpr ⟨lw_p14, List.forall_mem_cons.mpr ⟨lw_p15, fun _ h => absurd h List.not_mem_nil⟩⟩⟩⟩⟩⟩⟩⟩⟩⟩⟩⟩⟩⟩⟩⟩
theorem lw_p16 : lw_okq (⟨"ReedBench$State", "isWantedPair", "(I)Z"⟩, 8) := ⟨⟨by decide +kernel, by decide +kernel⟩, List.mem_of_getElem? (i := 23) (by decide +kernel), List.mem_of_getElem? (i := 366) (by decide +kernel), List.mem_of_getElem? (i := 367) (by decide +kernel)⟩
theorem lw_p17 : lw_okq (⟨"ReedBench$Works", "pairKey", "(LReedBench$State;III)I"⟩, 3) := ⟨⟨by decide +kernel, by decide +kernel⟩, List.mem_of_getElem? (i := 135) (by decide +kernel), List.mem_of_getElem? (i := 370) (by decide +kernel), List.mem_of_getElem? (i := 371) (by decide +kernel)⟩
theorem lw_p18 : lw_okq (⟨"ReedBench$Works", "fillFirst", "(LReedBench$State;II)V"⟩, 3) := ⟨⟨by decide +kernel, by decide +kernel⟩, List.mem_of_getElem? (i := 135) (by decide +kernel), List.mem_of_getElem? (i := 374) (by decide +kernel), List.mem_of_getElem? (i := 375) (by decide +kernel)⟩
theorem lw_p19 : lw_okq (⟨"ReedBench$Works", "fillPartner", "(LReedBench$State;II)V"⟩, 3) := ⟨⟨by decide +kernel, by decide +kernel⟩, List.mem_of_getElem? (i := 135) (by decide +kernel), List.mem_of_getElem? (i := 378) (by decide +kernel), List.mem_of_getElem? (i := 379) (by decide +kernel)⟩
theorem lw_p20 : lw_okq (⟨"ReedBench$Works", "joinWithPartner", "(LReedBench$State;I)I"⟩, 3) := ⟨⟨by decide +kernel, by decide +kernel⟩, List.mem_of_getElem? (i := 135) (by decide +kernel), List.mem_of_getElem? (i := 389) (by decide +kernel), List.mem_of_getElem? (i := 390) (by decide +kernel)⟩
theorem lw_p21 : lw_okq (⟨"ReedBench$Plan", "settle", "(LReedBench$State;LReedBench$Works;)V"⟩, 9) := ⟨⟨by decide +kernel, by decide +kernel⟩, List.mem_of_getElem? (i := 153) (by decide +kernel), List.mem_of_getElem? (i := 420) (by decide +kernel), List.mem_of_getElem? (i := 421) (by decide +kernel)⟩
theorem lw_p22 : lw_okq (⟨"ReedBench$Costs", "reckon", "(LReedBench$State;LReedBench$Works;)V"⟩, 2) := ⟨⟨by decide +kernel, by decide +kernel⟩, List.mem_of_getElem? (i := 159) (by decide +kernel), List.mem_of_getElem? (i := 424) (by decide +kernel), List.mem_of_getElem? (i := 425) (by decide +kernel)⟩
theorem lw_p23 : lw_okq (⟨"ReedBench$Costs", "reckonSlot", "(LReedBench$State;LReedBench$Works;I)V"⟩, 2) := ⟨⟨by decide +kernel, by decide +kernel⟩, List.mem_of_getElem? (i := 159) (by decide +kernel), List.mem_of_getElem? (i := 431) (by decide +kernel), List.mem_of_getElem? (i := 432) (by decide +kernel)⟩
theorem lw_p24 : lw_okq (⟨"ReedBench$State", "mustBeat", "(I)Z"⟩, 8) := ⟨⟨by decide +kernel, by decide +kernel⟩, List.mem_of_getElem? (i := 23) (by decide +kernel), List.mem_of_getElem? (i := 438) (by decide +kernel), List.mem_of_getElem? (i := 439) (by decide +kernel)⟩
theorem lw_p25 : lw_okq (⟨"ReedBench$Costs", "reckonPair", "(LReedBench$State;LReedBench$Works;I)V"⟩, 2) := ⟨⟨by decide +kernel, by decide +kernel⟩, List.mem_of_getElem? (i := 159) (by decide +kernel), List.mem_of_getElem? (i := 444) (by decide +kernel), List.mem_of_getElem? (i := 445) (by decide +kernel)⟩
theorem lw_p26 : lw_okq (⟨"ReedBench$Costs", "ofSlot", "(II)I"⟩, 2) := ⟨⟨by decide +kernel, by decide +kernel⟩, List.mem_of_getElem? (i := 159) (by decide +kernel), List.mem_of_getElem? (i := 448) (by decide +kernel), List.mem_of_getElem? (i := 449) (by decide +kernel)⟩
theorem lw_p27 : lw_okq (⟨"ReedBench$Costs", "reckonPartner", "(LReedBench$State;LReedBench$Works;II)V"⟩, 2) := ⟨⟨by decide +kernel, by decide +kernel⟩, List.mem_of_getElem? (i := 159) (by decide +kernel), List.mem_of_getElem? (i := 454) (by decide +kernel), List.mem_of_getElem? (i := 455) (by decide +kernel)⟩
theorem lw_p28 : lw_okq (⟨"ReedBench$Plan", "putInOrder", "(LReedBench$State;)V"⟩, 9) := ⟨⟨by decide +kernel, by decide +kernel⟩, List.mem_of_getElem? (i := 153) (by decide +kernel), List.mem_of_getElem? (i := 460) (by decide +kernel), List.mem_of_getElem? (i := 461) (by decide +kernel)⟩
theorem lw_p29 : lw_okq (⟨"ReedBench$Plan", "fillRows", "(LReedBench$State;)V"⟩, 9) := ⟨⟨by decide +kernel, by decide +kernel⟩, List.mem_of_getElem? (i := 153) (by decide +kernel), List.mem_of_getElem? (i := 465) (by decide +kernel), List.mem_of_getElem? (i := 466) (by decide +kernel)⟩
theorem lw_p30 : lw_okq (⟨"ReedBench$Plan", "fillNext", "(LReedBench$State;III)V"⟩, 9) := ⟨⟨by decide +kernel, by decide +kernel⟩, List.mem_of_getElem? (i := 153) (by decide +kernel), List.mem_of_getElem? (i := 472) (by decide +kernel), List.mem_of_getElem? (i := 473) (by decide +kernel)⟩
theorem lw_p31 : lw_okq (⟨"ReedBench$Plan", "fillBySlot", "(III)V"⟩, 9) := ⟨⟨by decide +kernel, by decide +kernel⟩, List.mem_of_getElem? (i := 153) (by decide +kernel), List.mem_of_getElem? (i := 477) (by decide +kernel), List.mem_of_getElem? (i := 478) (by decide +kernel)⟩
def lw_privs_2 : List (MethodName × Nat) := [(⟨"ReedBench$State", "isWantedPair", "(I)Z"⟩, 8), (⟨"ReedBench$Works", "pairKey", "(LReedBench$State;III)I"⟩, 3), (⟨"ReedBench$Works", "fillFirst", "(LReedBench$State;II)V"⟩, 3), (⟨"ReedBench$Works", "fillPartner", "(LReedBench$State;II)V"⟩, 3), (⟨"ReedBench$Works", "joinWithPartner", "(LReedBench$State;I)I"⟩, 3), (⟨"ReedBench$Plan", "settle", "(LReedBench$State;LReedBench$Works;)V"⟩, 9), (⟨"ReedBench$Costs", "reckon", "(LReedBench$State;LReedBench$Works;)V"⟩, 2), (⟨"ReedBench$Costs", "reckonSlot", "(LReedBench$State;LReedBench$Works;I)V"⟩, 2), (⟨"ReedBench$State", "mustBeat", "(I)Z"⟩, 8), (⟨"ReedBench$Costs", "reckonPair", "(LReedBench$State;LReedBench$Works;I)V"⟩, 2), (⟨"ReedBench$Costs", "ofSlot", "(II)I"⟩, 2), (⟨"ReedBench$Costs", "reckonPartner", "(LReedBench$State;LReedBench$Works;II)V"⟩, 2), (⟨"ReedBench$Plan", "putInOrder", "(LReedBench$State;)V"⟩, 9), (⟨"ReedBench$Plan", "fillRows", "(LReedBench$State;)V"⟩, 9), (⟨"ReedBench$Plan", "fillNext", "(LReedBench$State;III)V"⟩, 9), (⟨"ReedBench$Plan", "fillBySlot", "(III)V"⟩, 9)]
theorem lw_r2 : ∀ q ∈ lw_privs_2, lw_okq q := List.forall_mem_cons.mpr ⟨lw_p16, List.forall_mem_cons.mpr ⟨lw_p17, List.forall_mem_cons.mpr ⟨lw_p18, List.forall_mem_cons.mpr ⟨lw_p19, List.forall_mem_cons.mpr ⟨lw_p20, List.forall_mem_cons.mpr ⟨lw_p21, List.forall_mem_cons.mpr ⟨lw_p22, List.forall_mem_cons.mpr ⟨lw_p23, List.forall_mem_cons.mpr ⟨lw_p24, List.forall_mem_cons.mpr ⟨lw_p25, List.forall_mem_cons.mpr ⟨lw_p26, List.forall_mem_cons.mpr ⟨lw_p27, List.forall_mem_cons.mpr ⟨lw_p28, List.forall_mem_cons.mpr ⟨lw_p29, List.forall_mem_cons.mpr ⟨lw_p30, List.forall_mem_cons.mpr ⟨lw_p31, fun _ h => absurd h List.not_mem_nil⟩⟩⟩⟩⟩⟩⟩⟩⟩⟩⟩⟩⟩⟩⟩⟩
theorem lw_p32 : lw_okq (⟨"ReedBench$Plan", "offer", "(III)V"⟩, 9) := ⟨⟨by decide +kernel, by decide +kernel⟩, List.mem_of_getElem? (i := 153) (by decide +kernel), List.mem_of_getElem? (i := 482) (by decide +kernel), List.mem_of_getElem? (i := 483) (by decide +kernel)⟩
theorem lw_p33 : lw_okq (⟨"ReedBench$Plan", "fillByPair", "(III)V"⟩, 9) := ⟨⟨by decide +kernel, by decide +kernel⟩, List.mem_of_getElem? (i := 153) (by decide +kernel), List.mem_of_getElem? (i := 486) (by decide +kernel), List.mem_of_getElem? (i := 487) (by decide +kernel)⟩
theorem lw_p34 : lw_okq (⟨"ReedBench$Costs", "ofPair", "(III)I"⟩, 2) := ⟨⟨by decide +kernel, by decide +kernel⟩, List.mem_of_getElem? (i := 159) (by decide +kernel), List.mem_of_getElem? (i := 490) (by decide +kernel), List.mem_of_getElem? (i := 491) (by decide +kernel)⟩
theorem lw_p35 : lw_okq (⟨"ReedBench$Plan", "exists", "()Z"⟩, 9) := ⟨⟨by decide +kernel, by decide +kernel⟩, List.mem_of_getElem? (i := 153) (by decide +kernel), List.mem_of_getElem? (i := 495) (by decide +kernel), List.mem_of_getElem? (i := 496) (by decide +kernel)⟩
theorem lw_p36 : lw_okq (⟨"ReedBench$Plan", "choose", "(LReedBench$State;)V"⟩, 9) := ⟨⟨by decide +kernel, by decide +kernel⟩, List.mem_of_getElem? (i := 153) (by decide +kernel), List.mem_of_getElem? (i := 499) (by decide +kernel), List.mem_of_getElem? (i := 500) (by decide +kernel)⟩
theorem lw_p37 : lw_okq (⟨"ReedBench$Plan", "choosePair", "(II)I"⟩, 9) := ⟨⟨by decide +kernel, by decide +kernel⟩, List.mem_of_getElem? (i := 153) (by decide +kernel), List.mem_of_getElem? (i := 503) (by decide +kernel), List.mem_of_getElem? (i := 504) (by decide +kernel)⟩
theorem lw_p38 : lw_okq (⟨"ReedBench$Plan", "leads", "(III)Z"⟩, 9) := ⟨⟨by decide +kernel, by decide +kernel⟩, List.mem_of_getElem? (i := 153) (by decide +kernel), List.mem_of_getElem? (i := 507) (by decide +kernel), List.mem_of_getElem? (i := 508) (by decide +kernel)⟩
theorem lw_p39 : lw_okq (⟨"ReedBench$Plan", "chooseSlot", "(II)I"⟩, 9) := ⟨⟨by decide +kernel, by decide +kernel⟩, List.mem_of_getElem? (i := 153) (by decide +kernel), List.mem_of_getElem? (i := 511) (by decide +kernel), List.mem_of_getElem? (i := 512) (by decide +kernel)⟩
theorem lw_p40 : lw_okq (⟨"ReedBench$Plan", "carryOut", "(LReedBench$State;LReedBench$Works;)V"⟩, 9) := ⟨⟨by decide +kernel, by decide +kernel⟩, List.mem_of_getElem? (i := 153) (by decide +kernel), List.mem_of_getElem? (i := 524) (by decide +kernel), List.mem_of_getElem? (i := 525) (by decide +kernel)⟩
theorem lw_p41 : lw_okq (⟨"ReedBench$Plan", "setPair", "(LReedBench$State;LReedBench$Works;I)V"⟩, 9) := ⟨⟨by decide +kernel, by decide +kernel⟩, List.mem_of_getElem? (i := 153) (by decide +kernel), List.mem_of_getElem? (i := 528) (by decide +kernel), List.mem_of_getElem? (i := 529) (by decide +kernel)⟩
theorem lw_p42 : lw_okq (⟨"ReedBench$Reed", "putInto", "(II)V"⟩, 7) := ⟨⟨by decide +kernel, by decide +kernel⟩, List.mem_of_getElem? (i := 30) (by decide +kernel), List.mem_of_getElem? (i := 539) (by decide +kernel), List.mem_of_getElem? (i := 540) (by decide +kernel)⟩
theorem lw_p43 : lw_okq (⟨"ReedBench$Plan", "setSlot", "(LReedBench$State;LReedBench$Works;I)V"⟩, 9) := ⟨⟨by decide +kernel, by decide +kernel⟩, List.mem_of_getElem? (i := 153) (by decide +kernel), List.mem_of_getElem? (i := 543) (by decide +kernel), List.mem_of_getElem? (i := 544) (by decide +kernel)⟩
theorem lw_p44 : lw_okq (⟨"ReedBench$Plan", "fewestLeftOut", "(LReedBench$State;)I"⟩, 9) := ⟨⟨by decide +kernel, by decide +kernel⟩, List.mem_of_getElem? (i := 153) (by decide +kernel), List.mem_of_getElem? (i := 554) (by decide +kernel), List.mem_of_getElem? (i := 555) (by decide +kernel)⟩
theorem lw_p45 : lw_okq (⟨"ReedBench$History", "takeBack", "(LReedBench$State;)Z"⟩, 3) := ⟨⟨by decide +kernel, by decide +kernel⟩, List.mem_of_getElem? (i := 116) (by decide +kernel), List.mem_of_getElem? (i := 586) (by decide +kernel), List.mem_of_getElem? (i := 587) (by decide +kernel)⟩
theorem lw_p46 : lw_okq (⟨"ReedBenchModel", "begins", "()V"⟩, 23) := ⟨⟨by decide +kernel, by decide +kernel⟩, List.mem_of_getElem? (i := 590) (by decide +kernel), List.mem_of_getElem? (i := 670) (by decide +kernel), List.mem_of_getElem? (i := 671) (by decide +kernel)⟩
theorem lw_p47 : lw_okq (⟨"ReedBenchModel", "keep", "()V"⟩, 23) := ⟨⟨by decide +kernel, by decide +kernel⟩, List.mem_of_getElem? (i := 590) (by decide +kernel), List.mem_of_getElem? (i := 678) (by decide +kernel), List.mem_of_getElem? (i := 679) (by decide +kernel)⟩
def lw_privs_3 : List (MethodName × Nat) := [(⟨"ReedBench$Plan", "offer", "(III)V"⟩, 9), (⟨"ReedBench$Plan", "fillByPair", "(III)V"⟩, 9), (⟨"ReedBench$Costs", "ofPair", "(III)I"⟩, 2), (⟨"ReedBench$Plan", "exists", "()Z"⟩, 9), (⟨"ReedBench$Plan", "choose", "(LReedBench$State;)V"⟩, 9), (⟨"ReedBench$Plan", "choosePair", "(II)I"⟩, 9), (⟨"ReedBench$Plan", "leads", "(III)Z"⟩, 9), (⟨"ReedBench$Plan", "chooseSlot", "(II)I"⟩, 9), (⟨"ReedBench$Plan", "carryOut", "(LReedBench$State;LReedBench$Works;)V"⟩, 9), (⟨"ReedBench$Plan", "setPair", "(LReedBench$State;LReedBench$Works;I)V"⟩, 9), (⟨"ReedBench$Reed", "putInto", "(II)V"⟩, 7), (⟨"ReedBench$Plan", "setSlot", "(LReedBench$State;LReedBench$Works;I)V"⟩, 9), (⟨"ReedBench$Plan", "fewestLeftOut", "(LReedBench$State;)I"⟩, 9), (⟨"ReedBench$History", "takeBack", "(LReedBench$State;)Z"⟩, 3), (⟨"ReedBenchModel", "begins", "()V"⟩, 23), (⟨"ReedBenchModel", "keep", "()V"⟩, 23)]
theorem lw_r3 : ∀ q ∈ lw_privs_3, lw_okq q := List.forall_mem_cons.mpr ⟨lw_p32, List.forall_mem_cons.mpr ⟨lw_p33, List.forall_mem_cons.mpr ⟨lw_p34, List.forall_mem_cons.mpr ⟨lw_p35, List.forall_mem_cons.mpr ⟨lw_p36, List.forall_mem_cons.mpr ⟨lw_p37, List.forall_mem_cons.mpr ⟨lw_p38, List.forall_mem_cons.mpr ⟨lw_p39, List.forall_mem_cons.mpr ⟨lw_p40, List.forall_mem_cons.mpr ⟨lw_p41, List.forall_mem_cons.mpr ⟨lw_p42, List.forall_mem_cons.mpr ⟨lw_p43, List.forall_mem_cons.mpr ⟨lw_p44, List.forall_mem_cons.mpr ⟨lw_p45, List.forall_mem_cons.mpr ⟨lw_p46, List.forall_mem_cons.mpr ⟨lw_p47, fun _ h => absurd h List.not_mem_nil⟩⟩⟩⟩⟩⟩⟩⟩⟩⟩⟩⟩⟩⟩⟩⟩
theorem lw_p48 : lw_okq (⟨"ReedBenchModel", "isReed", "(I)Z"⟩, 23) := ⟨⟨by decide +kernel, by decide +kernel⟩, List.mem_of_getElem? (i := 590) (by decide +kernel), List.mem_of_getElem? (i := 686) (by decide +kernel), List.mem_of_getElem? (i := 687) (by decide +kernel)⟩
theorem lw_p49 : lw_okq (⟨"ReedBenchModel", "isFree", "(I)Z"⟩, 23) := ⟨⟨by decide +kernel, by decide +kernel⟩, List.mem_of_getElem? (i := 590) (by decide +kernel), List.mem_of_getElem? (i := 690) (by decide +kernel), List.mem_of_getElem? (i := 691) (by decide +kernel)⟩
theorem lw_p50 : lw_okq (⟨"ReedBenchModel", "reedAt", "(II)I"⟩, 23) := ⟨⟨by decide +kernel, by decide +kernel⟩, List.mem_of_getElem? (i := 590) (by decide +kernel), List.mem_of_getElem? (i := 694) (by decide +kernel), List.mem_of_getElem? (i := 695) (by decide +kernel)⟩
theorem lw_p51 : lw_okq (⟨"ReedBenchModel", "canFile", "(III)Z"⟩, 23) := ⟨⟨by decide +kernel, by decide +kernel⟩, List.mem_of_getElem? (i := 590) (by decide +kernel), List.mem_of_getElem? (i := 718) (by decide +kernel), List.mem_of_getElem? (i := 719) (by decide +kernel)⟩
theorem lw_p52 : lw_okq (⟨"ReedBenchModel", "files", "(III)V"⟩, 23) := ⟨⟨by decide +kernel, by decide +kernel⟩, List.mem_of_getElem? (i := 590) (by decide +kernel), List.mem_of_getElem? (i := 723) (by decide +kernel), List.mem_of_getElem? (i := 724) (by decide +kernel)⟩
theorem lw_p53 : lw_okq (⟨"ReedBenchModel", "pitch", "(III)I"⟩, 23) := ⟨⟨by decide +kernel, by decide +kernel⟩, List.mem_of_getElem? (i := 590) (by decide +kernel), List.mem_of_getElem? (i := 727) (by decide +kernel), List.mem_of_getElem? (i := 728) (by decide +kernel)⟩
theorem lw_p54 : lw_okq (⟨"ReedBenchModel", "isWanted", "(I)Z"⟩, 23) := ⟨⟨by decide +kernel, by decide +kernel⟩, List.mem_of_getElem? (i := 590) (by decide +kernel), List.mem_of_getElem? (i := 735) (by decide +kernel), List.mem_of_getElem? (i := 736) (by decide +kernel)⟩
theorem lw_p55 : lw_okq (⟨"ReedBenchModel", "beats", "(I)Z"⟩, 23) := ⟨⟨by decide +kernel, by decide +kernel⟩, List.mem_of_getElem? (i := 590) (by decide +kernel), List.mem_of_getElem? (i := 739) (by decide +kernel), List.mem_of_getElem? (i := 740) (by decide +kernel)⟩
theorem lw_p56 : lw_okq (⟨"ReedBenchModel", "works", "(II)Z"⟩, 23) := ⟨⟨by decide +kernel, by decide +kernel⟩, List.mem_of_getElem? (i := 590) (by decide +kernel), List.mem_of_getElem? (i := 751) (by decide +kernel), List.mem_of_getElem? (i := 752) (by decide +kernel)⟩
theorem lw_p57 : lw_okq (⟨"ReedBenchModel", "reach", "(III)V"⟩, 23) := ⟨⟨by decide +kernel, by decide +kernel⟩, List.mem_of_getElem? (i := 590) (by decide +kernel), List.mem_of_getElem? (i := 755) (by decide +kernel), List.mem_of_getElem? (i := 756) (by decide +kernel)⟩
theorem lw_p58 : lw_okq (⟨"ReedBenchModel", "pairWorks", "(III)Z"⟩, 23) := ⟨⟨by decide +kernel, by decide +kernel⟩, List.mem_of_getElem? (i := 590) (by decide +kernel), List.mem_of_getElem? (i := 764) (by decide +kernel), List.mem_of_getElem? (i := 765) (by decide +kernel)⟩
theorem lw_p59 : lw_okq (⟨"ReedBenchModel", "takesLay", "()Z"⟩, 23) := ⟨⟨by decide +kernel, by decide +kernel⟩, List.mem_of_getElem? (i := 590) (by decide +kernel), List.mem_of_getElem? (i := 772) (by decide +kernel), List.mem_of_getElem? (i := 773) (by decide +kernel)⟩
theorem lw_p60 : lw_okq (⟨"ReedBenchModel", "findLays", "()V"⟩, 23) := ⟨⟨by decide +kernel, by decide +kernel⟩, List.mem_of_getElem? (i := 590) (by decide +kernel), List.mem_of_getElem? (i := 776) (by decide +kernel), List.mem_of_getElem? (i := 777) (by decide +kernel)⟩
theorem lw_p61 : lw_okq (⟨"ReedBenchModel", "findCosts", "()V"⟩, 23) := ⟨⟨by decide +kernel, by decide +kernel⟩, List.mem_of_getElem? (i := 590) (by decide +kernel), List.mem_of_getElem? (i := 780) (by decide +kernel), List.mem_of_getElem? (i := 781) (by decide +kernel)⟩
theorem lw_p62 : lw_okq (⟨"ReedBenchModel", "comes", "(II)V"⟩, 23) := ⟨⟨by decide +kernel, by decide +kernel⟩, List.mem_of_getElem? (i := 590) (by decide +kernel), List.mem_of_getElem? (i := 784) (by decide +kernel), List.mem_of_getElem? (i := 785) (by decide +kernel)⟩
theorem lw_p63 : lw_okq (⟨"ReedBenchModel", "has", "(II)Z"⟩, 23) := ⟨⟨by decide +kernel, by decide +kernel⟩, List.mem_of_getElem? (i := 590) (by decide +kernel), List.mem_of_getElem? (i := 788) (by decide +kernel), List.mem_of_getElem? (i := 789) (by decide +kernel)⟩
def lw_privs_4 : List (MethodName × Nat) := [(⟨"ReedBenchModel", "isReed", "(I)Z"⟩, 23), (⟨"ReedBenchModel", "isFree", "(I)Z"⟩, 23), (⟨"ReedBenchModel", "reedAt", "(II)I"⟩, 23), (⟨"ReedBenchModel", "canFile", "(III)Z"⟩, 23), (⟨"ReedBenchModel", "files", "(III)V"⟩, 23), (⟨"ReedBenchModel", "pitch", "(III)I"⟩, 23), (⟨"ReedBenchModel", "isWanted", "(I)Z"⟩, 23), (⟨"ReedBenchModel", "beats", "(I)Z"⟩, 23), (⟨"ReedBenchModel", "works", "(II)Z"⟩, 23), (⟨"ReedBenchModel", "reach", "(III)V"⟩, 23), (⟨"ReedBenchModel", "pairWorks", "(III)Z"⟩, 23), (⟨"ReedBenchModel", "takesLay", "()Z"⟩, 23), (⟨"ReedBenchModel", "findLays", "()V"⟩, 23), (⟨"ReedBenchModel", "findCosts", "()V"⟩, 23), (⟨"ReedBenchModel", "comes", "(II)V"⟩, 23), (⟨"ReedBenchModel", "has", "(II)Z"⟩, 23)]
theorem lw_r4 : ∀ q ∈ lw_privs_4, lw_okq q := List.forall_mem_cons.mpr ⟨lw_p48, List.forall_mem_cons.mpr ⟨lw_p49, List.forall_mem_cons.mpr ⟨lw_p50, List.forall_mem_cons.mpr ⟨lw_p51, List.forall_mem_cons.mpr ⟨lw_p52, List.forall_mem_cons.mpr ⟨lw_p53, List.forall_mem_cons.mpr ⟨lw_p54, List.forall_mem_cons.mpr ⟨lw_p55, List.forall_mem_cons.mpr ⟨lw_p56, List.forall_mem_cons.mpr ⟨lw_p57, List.forall_mem_cons.mpr ⟨lw_p58, List.forall_mem_cons.mpr ⟨lw_p59, List.forall_mem_cons.mpr ⟨lw_p60, List.forall_mem_cons.mpr ⟨lw_p61, List.forall_mem_cons.mpr ⟨lw_p62, List.forall_mem_cons.mpr ⟨lw_p63, fun _ h => absurd h List.not_mem_nil⟩⟩⟩⟩⟩⟩⟩⟩⟩⟩⟩⟩⟩⟩⟩⟩
theorem lw_p64 : lw_okq (⟨"ReedBenchModel", "fits", "(III)Z"⟩, 23) := ⟨⟨by decide +kernel, by decide +kernel⟩, List.mem_of_getElem? (i := 590) (by decide +kernel), List.mem_of_getElem? (i := 792) (by decide +kernel), List.mem_of_getElem? (i := 793) (by decide +kernel)⟩
theorem lw_p65 : lw_okq (⟨"ReedBenchModel", "sets", "(III)V"⟩, 23) := ⟨⟨by decide +kernel, by decide +kernel⟩, List.mem_of_getElem? (i := 590) (by decide +kernel), List.mem_of_getElem? (i := 804) (by decide +kernel), List.mem_of_getElem? (i := 805) (by decide +kernel)⟩
def lw_privs_5 : List (MethodName × Nat) := [(⟨"ReedBenchModel", "fits", "(III)Z"⟩, 23), (⟨"ReedBenchModel", "sets", "(III)V"⟩, 23)]
theorem lw_r5 : ∀ q ∈ lw_privs_5, lw_okq q := List.forall_mem_cons.mpr ⟨lw_p64, List.forall_mem_cons.mpr ⟨lw_p65, fun _ h => absurd h List.not_mem_nil⟩⟩
def lw_privs : List (MethodName × Nat) := lw_privs_1 ++ (lw_privs_2 ++ (lw_privs_3 ++ (lw_privs_4 ++ (lw_privs_5))))
def lw_tbl : List Cond := k2_sels lw_privs ++ tables_1
theorem lw_privs_ok : ∀ q ∈ lw_privs, lw_okq q := by
  show ∀ q ∈ lw_privs_1 ++ (lw_privs_2 ++ (lw_privs_3 ++ (lw_privs_4 ++ (lw_privs_5)))), lw_okq q
  exact List.forall_mem_append.mpr ⟨lw_r1, List.forall_mem_append.mpr ⟨lw_r2, List.forall_mem_append.mpr ⟨lw_r3, List.forall_mem_append.mpr ⟨lw_r4, lw_r5⟩⟩⟩⟩
end
section
/-! ===== BEGIN printed: names, fields, word lists, decode rows ===== -/
def RX0 : String := "ReedBench$Costs"
def TX0 : u_T := fun k => match k with
  | 0 => ("ReedBench$Costs", "slotCosts", "[I", true)
  | _ => ("ReedBench$Costs", "pairCosts", "[I", true)
def tyX0 : Nat → FieldType := fun k => match k with
  | 0 => .array .int
  | _ => .array .int
abbrev wsX00 : List Cond := u_ws RX0 TX0 2
theorem nmX0 : ∀ a, a < 2 → ∀ b, b < 2 → a ≠ b → (TX0 a).2.1 ≠ (TX0 b).2.1 := by decide +kernel
theorem tyX0_ok : ∀ k, k < 2 → parseFieldDescriptor (TX0 k).2.2.1 = some (tyX0 k) := by decide +kernel
def RX1 : String := "ReedBench$History"
def TX1 : u_T := fun k => match k with
  | 0 => ("ReedBench$History", "ring", "[LReedBench$State;", true)
  | 1 => ("ReedBench$History", "size", "I", false)
  | _ => ("ReedBench$History", "next", "I", false)
def tyX1 : Nat → FieldType := fun k => match k with
  | 0 => .array (.object "ReedBench$State")
  | 1 => .int
  | _ => .int
abbrev wsX10 : List Cond := u_ws RX1 TX1 3
theorem nmX1 : ∀ a, a < 3 → ∀ b, b < 3 → a ≠ b → (TX1 a).2.1 ≠ (TX1 b).2.1 := by decide +kernel
theorem tyX1_ok : ∀ k, k < 3 → parseFieldDescriptor (TX1 k).2.2.1 = some (tyX1 k) := by decide +kernel
def RX2 : String := "ReedBench$LeftOut"
def TX2 : u_T := fun k => match k with
  | _ => ("", "", "", false)
def tyX2 : Nat → FieldType := fun k => match k with
  | _ => .int
abbrev wsX20 : List Cond := u_ws RX2 TX2 0
theorem nmX2 : ∀ a, a < 0 → ∀ b, b < 0 → a ≠ b → (TX2 a).2.1 ≠ (TX2 b).2.1 := by decide +kernel
theorem tyX2_ok : ∀ k, k < 0 → parseFieldDescriptor (TX2 k).2.2.1 = some (tyX2 k) := by decide +kernel
def RX3 : String := "ReedBench$Plan"
def TX3 : u_T := fun k => match k with
  | 0 => ("ReedBench$Plan", "costs", "LReedBench$Costs;", true)
  | 1 => ("ReedBench$Plan", "fewest", "[I", true)
  | 2 => ("ReedBench$Plan", "ways", "[I", true)
  | 3 => ("ReedBench$Plan", "order", "[I", true)
  | 4 => ("ReedBench$Plan", "chosen", "[I", true)
  | 5 => ("ReedBench$Plan", "ordered", "I", false)
  | 6 => ("ReedBench$Plan", "strokes", "I", false)
  | 7 => ("ReedBench$Plan", "count", "I", false)
  | _ => ("ReedBench$Plan", "known", "Z", false)
def tyX3 : Nat → FieldType := fun k => match k with
  | 0 => .object "ReedBench$Costs"
  | 1 => .array .int
  | 2 => .array .int
  | 3 => .array .int
  | 4 => .array .int
  | 5 => .int
  | 6 => .int
  | 7 => .int
  | _ => .boolean
abbrev wsX30 : List Cond := u_ws RX3 TX3 9
theorem nmX3 : ∀ a, a < 9 → ∀ b, b < 9 → a ≠ b → (TX3 a).2.1 ≠ (TX3 b).2.1 := by decide +kernel
theorem tyX3_ok : ∀ k, k < 9 → parseFieldDescriptor (TX3 k).2.2.1 = some (tyX3 k) := by decide +kernel
def RX4 : String := "ReedBench$Reed"
def TX4 : u_T := fun k => match k with
  | 0 => ("ReedBench$Reed", "pitch", "I", false)
  | 1 => ("ReedBench$Reed", "thickness", "I", false)
  | 2 => ("ReedBench$Reed", "tip", "I", false)
  | 3 => ("ReedBench$Reed", "place", "I", false)
  | 4 => ("ReedBench$Reed", "plate", "I", false)
  | 5 => ("ReedBench$Reed", "slot", "I", false)
  | _ => ("ReedBench$Reed", "strokes", "I", false)
def tyX4 : Nat → FieldType := fun k => match k with
  | 0 => .int
  | 1 => .int
  | 2 => .int
  | 3 => .int
  | 4 => .int
  | 5 => .int
  | _ => .int
abbrev wsX40 : List Cond := u_ws RX4 TX4 7
theorem nmX4 : ∀ a, a < 7 → ∀ b, b < 7 → a ≠ b → (TX4 a).2.1 ≠ (TX4 b).2.1 := by decide +kernel
theorem tyX4_ok : ∀ k, k < 7 → parseFieldDescriptor (TX4 k).2.2.1 = some (tyX4 k) := by decide +kernel
def RX5 : String := "ReedBench$State"
def TX5 : u_T := fun k => match k with
  | 0 => ("ReedBench$State", "reeds", "[LReedBench$Reed;", true)
  | 1 => ("ReedBench$State", "wanted", "[I", true)
  | 2 => ("ReedBench$State", "low", "[I", true)
  | 3 => ("ReedBench$State", "high", "[I", true)
  | 4 => ("ReedBench$State", "came", "I", false)
  | 5 => ("ReedBench$State", "rise", "I", false)
  | 6 => ("ReedBench$State", "off", "I", false)
  | _ => ("ReedBench$State", "made", "I", false)
def tyX5 : Nat → FieldType := fun k => match k with
  | 0 => .array (.object "ReedBench$Reed")
  | 1 => .array .int
  | 2 => .array .int
  | 3 => .array .int
  | 4 => .int
  | 5 => .int
  | 6 => .int
  | _ => .int
abbrev wsX50 : List Cond := u_ws RX5 TX5 8
theorem nmX5 : ∀ a, a < 8 → ∀ b, b < 8 → a ≠ b → (TX5 a).2.1 ≠ (TX5 b).2.1 := by decide +kernel
theorem tyX5_ok : ∀ k, k < 8 → parseFieldDescriptor (TX5 k).2.2.1 = some (tyX5 k) := by decide +kernel
def RX6 : String := "ReedBench$Works"
def TX6 : u_T := fun k => match k with
  | 0 => ("ReedBench$Works", "first", "[[I", true)
  | 1 => ("ReedBench$Works", "near", "[I", true)
  | _ => ("ReedBench$Works", "partner", "[I", true)
def tyX6 : Nat → FieldType := fun k => match k with
  | 0 => .array (.array .int)
  | 1 => .array .int
  | _ => .array .int
abbrev wsX60 : List Cond := u_ws RX6 TX6 3
theorem nmX6 : ∀ a, a < 3 → ∀ b, b < 3 → a ≠ b → (TX6 a).2.1 ≠ (TX6 b).2.1 := by decide +kernel
theorem tyX6_ok : ∀ k, k < 3 → parseFieldDescriptor (TX6 k).2.2.1 = some (tyX6 k) := by decide +kernel
def RX7 : String := "ReedBench"
def TX7 : u_T := fun k => match k with
  | 0 => ("ReedBench", "now", "LReedBench$State;", true)
  | 1 => ("ReedBench", "history", "LReedBench$History;", true)
  | 2 => ("ReedBench", "works", "LReedBench$Works;", true)
  | _ => ("ReedBench", "plan", "LReedBench$Plan;", true)
def tyX7 : Nat → FieldType := fun k => match k with
  | 0 => .object "ReedBench$State"
  | 1 => .object "ReedBench$History"
  | 2 => .object "ReedBench$Works"
  | _ => .object "ReedBench$Plan"
abbrev wsX70 : List Cond := u_ws RX7 TX7 4
theorem nmX7 : ∀ a, a < 4 → ∀ b, b < 4 → a ≠ b → (TX7 a).2.1 ≠ (TX7 b).2.1 := by decide +kernel
theorem tyX7_ok : ∀ k, k < 4 → parseFieldDescriptor (TX7 k).2.2.1 = some (tyX7 k) := by decide +kernel
def RX8 : String := "ReedBenchModel"
def TX8 : u_T := fun k => match k with
  | 0 => ("ReedBenchModel", "told", "I", false)
  | 1 => ("ReedBenchModel", "g", "[I", true)
  | 2 => ("ReedBenchModel", "kept", "[I", true)
  | 3 => ("ReedBenchModel", "keeps", "I", false)
  | 4 => ("ReedBenchModel", "isBegun", "Z", false)
  | 5 => ("ReedBenchModel", "even", "[I", true)
  | 6 => ("ReedBenchModel", "just", "[I", true)
  | 7 => ("ReedBenchModel", "paired", "[I", true)
  | 8 => ("ReedBenchModel", "strokes", "[I", true)
  | 9 => ("ReedBenchModel", "tips", "[I", true)
  | 10 => ("ReedBenchModel", "workStrokes", "I", false)
  | 11 => ("ReedBenchModel", "workTip", "I", false)
  | 12 => ("ReedBenchModel", "pairStrokes", "I", false)
  | 13 => ("ReedBenchModel", "pairTip", "I", false)
  | 14 => ("ReedBenchModel", "pairRoot", "I", false)
  | 15 => ("ReedBenchModel", "otherTip", "I", false)
  | 16 => ("ReedBenchModel", "single", "[I", true)
  | 17 => ("ReedBenchModel", "both", "[I", true)
  | 18 => ("ReedBenchModel", "least", "[I", true)
  | 19 => ("ReedBenchModel", "ways", "[I", true)
  | 20 => ("ReedBenchModel", "here", "I", false)
  | 21 => ("ReedBenchModel", "some", "I", false)
  | _ => ("ReedBenchModel", "lay", "[I", true)
def tyX8 : Nat → FieldType := fun k => match k with
  | 0 => .int
  | 1 => .array .int
  | 2 => .array .int
  | 3 => .int
  | 4 => .boolean
  | 5 => .array .int
  | 6 => .array .int
  | 7 => .array .int
  | 8 => .array .int
  | 9 => .array .int
  | 10 => .int
  | 11 => .int
  | 12 => .int
  | 13 => .int
  | 14 => .int
  | 15 => .int
  | 16 => .array .int
  | 17 => .array .int
  | 18 => .array .int
  | 19 => .array .int
  | 20 => .int
  | 21 => .int
  | _ => .array .int
abbrev wsX80 : List Cond := u_ws RX8 TX8 23
theorem nmX8 : ∀ a, a < 23 → ∀ b, b < 23 → a ≠ b → (TX8 a).2.1 ≠ (TX8 b).2.1 := by decide +kernel
theorem tyX8_ok : ∀ k, k < 23 → parseFieldDescriptor (TX8 k).2.2.1 = some (tyX8 k) := by decide +kernel
def RJ6 : String := "java/lang/Integer"
def TJ6 : u_T := fun k => match k with
  | _ => ("", "", "", false)
def tyJ6 : Nat → FieldType := fun k => match k with
  | _ => .int
abbrev wsJ60 : List Cond := u_ws RJ6 TJ6 0
theorem nmJ6 : ∀ a, a < 0 → ∀ b, b < 0 → a ≠ b → (TJ6 a).2.1 ≠ (TJ6 b).2.1 := by decide +kernel
theorem tyJ6_ok : ∀ k, k < 0 → parseFieldDescriptor (TJ6 k).2.2.1 = some (tyJ6 k) := by decide +kernel
def RJ9 : String := "java/lang/Math"
def TJ9 : u_T := fun k => match k with
  | _ => ("", "", "", false)
def tyJ9 : Nat → FieldType := fun k => match k with
  | _ => .int
abbrev wsJ90 : List Cond := u_ws RJ9 TJ9 0
theorem nmJ9 : ∀ a, a < 0 → ∀ b, b < 0 → a ≠ b → (TJ9 a).2.1 ≠ (TJ9 b).2.1 := by decide +kernel
theorem tyJ9_ok : ∀ k, k < 0 → parseFieldDescriptor (TJ9 k).2.2.1 = some (tyJ9 k) := by decide +kernel
def RJ10 : String := "java/lang/System"
def TJ10 : u_T := fun k => match k with
  | _ => ("", "", "", false)
def tyJ10 : Nat → FieldType := fun k => match k with
  | _ => .int
abbrev wsJ100 : List Cond := u_ws RJ10 TJ10 0
theorem nmJ10 : ∀ a, a < 0 → ∀ b, b < 0 → a ≠ b → (TJ10 a).2.1 ≠ (TJ10 b).2.1 := by decide +kernel
theorem tyJ10_ok : ∀ k, k < 0 → parseFieldDescriptor (TJ10 k).2.2.1 = some (tyJ10 k) := by decide +kernel
def RJ7 : String := "java/util/Arrays"
def TJ7 : u_T := fun k => match k with
  | _ => ("", "", "", false)
def tyJ7 : Nat → FieldType := fun k => match k with
  | _ => .int
abbrev wsJ70 : List Cond := u_ws RJ7 TJ7 0
theorem nmJ7 : ∀ a, a < 0 → ∀ b, b < 0 → a ≠ b → (TJ7 a).2.1 ≠ (TJ7 b).2.1 := by decide +kernel
theorem tyJ7_ok : ∀ k, k < 0 → parseFieldDescriptor (TJ7 k).2.2.1 = some (tyJ7 k) := by decide +kernel
def RL : String := "ReedBenchLaw"
end
section
/-! ===== the pure machine: ints are Int (read mod 2^32), references are numbers of cells (0 null, 1 the script, 2 ABOVE_KEY, 3.. made) ===== -/
abbrev xV : Type := Int ⊕ Nat
abbrev xI : Type := Nat × Int × Nat × Nat
abbrev xC : Type := Nat × Nat × (Nat → Nat)
abbrev xM : Type := List xC × (Nat → Nat → Int)
abbrev xL : Type := List (Option xV)
abbrev xO : Type := (Nat × (Nat × Nat) × xL × List xV × xM) ⊕ ((Nat × List xV × List xV) ⊕ List xV)
def xnth {α : Type} : List α → Nat → α → α
  | [], _, d => d
  | x :: _, 0, _ => x
  | _ :: t, n + 1, d => xnth t n d
def xat (M : xM) (a : Nat) : xC := xnth M.1 a (0, 0, fun _ => 0)
def xwr (M : xM) (a i : Nat) (v : Int) : xM := (M.1, fun a' i' => if a' = a ∧ i' = i then v else M.2 a' i')
def xwref (M : xM) (a i r : Nat) : xM := (M.1.set a ((xat M a).1, (xat M a).2.1, fun j => if j = i then r else (xat M a).2.2 j), M.2)
def xnew (M : xM) (kd n : Nat) : xM := (M.1 ++ [(kd, n, fun _ => 0)], fun a' i' => if a' = M.1.length then 0 else M.2 a' i')
def xnew2 (M : xM) (n k : Nat) : xM := (M.1 ++ (4, n, fun i => M.1.length + 1 + i) :: List.replicate n (1, k, fun _ => 0), fun a' i' => if M.1.length ≤ a' then 0 else M.2 a' i')
def xcpy (M : xM) (s sp d dp n : Nat) : xM := (M.1, fun a' i' => if a' = d ∧ dp ≤ i' ∧ i' < dp + n then M.2 s (sp + (i' - dp)) else M.2 a' i')
abbrev xok (x : Int) : Prop := -2147483648 ≤ x ∧ x ≤ 2147483647
def xcmp (b : Nat) (x y : Int) : Bool := match b with
  | 0 => decide (x = y)
  | 1 => decide (¬ x = y)
  | 2 => decide (x < y)
  | 3 => decide (y ≤ x)
  | 4 => decide (y < x)
  | _ => decide (x ≤ y)
def xbin (b : Nat) (x y : Int) : Option Int := match b with
  | 0 => some (x + y)
  | 1 => some (x - y)
  | 2 => some (x * y)
  | 3 => if (Int32.ofInt y) = 0 then none else some (Int32.ofInt x / Int32.ofInt y).toInt
  | 4 => if (Int32.ofInt y) = 0 then none else some (Int32.ofInt x - Int32.ofInt x / Int32.ofInt y * Int32.ofInt y).toInt
  | 5 => some (Int32.ofInt x &&& Int32.ofInt y).toInt
  | 6 => some (Int32.ofInt x ||| Int32.ofInt y).toInt
  | 7 => some (Int32.ofInt x ^^^ Int32.ofInt y).toInt
  | 8 => some (Int32.ofInt x <<< (Int32.ofInt y &&& 31)).toInt
  | 9 => some (Int32.ofInt x >>> (Int32.ofInt y &&& 31)).toInt
  | _ => some ((Int32.ofInt x).toUInt32 >>> ((Int32.ofInt y).toUInt32 &&& Int32.toUInt32 31)).toInt32.toInt
def xgo (pc : Nat) (k : Nat × Nat) (ls : xL) (st : List xV) (M : xM) : Option xO := some (.inl (pc, k, ls, st, M))

/-- ReedBench.<init>()V -/
def xk_0 : List xI := [(3, 0, 0, 1), (26, 85, 0, 0), (0, 0, 0, 0), (0, 0, 0, 0), (3, 0, 0, 1), (19, 88, 4, 0), (0, 0, 0, 0), (0, 0, 0, 0), (23, 0, 0, 0), (28, 90, 1, 1), (0, 0, 0, 0), (0, 0, 0, 0), (13, 268, 6, 0), (0, 0, 0, 0), (0, 0, 0, 0), (3, 0, 0, 1), (19, 181, 1, 0), (0, 0, 0, 0), (0, 0, 0, 0), (23, 0, 0, 0), (28, 183, 4, 1), (0, 0, 0, 0), (0, 0, 0, 0), (13, 269, 6, 1), (0, 0, 0, 0), (0, 0, 0, 0), (3, 0, 0, 1), (19, 200, 5, 0), (0, 0, 0, 0), (0, 0, 0, 0), (23, 0, 0, 0), (28, 202, 5, 1), (0, 0, 0, 0), (0, 0, 0, 0), (13, 270, 6, 2), (0, 0, 0, 0), (0, 0, 0, 0), (3, 0, 0, 1), (19, 218, 2, 0), (0, 0, 0, 0), (0, 0, 0, 0), (23, 0, 0, 0), (28, 220, 6, 1), (0, 0, 0, 0), (0, 0, 0, 0), (13, 271, 6, 3), (0, 0, 0, 0), (0, 0, 0, 0), (30, 0, 0, 0)]
/-- ReedBench$State.<init>()V -/
def xk_1 : List xI := [(3, 0, 0, 1), (26, 93, 0, 0), (0, 0, 0, 0), (0, 0, 0, 0), (3, 0, 0, 1), (1, 12, 2, 0), (0, 0, 0, 0), (21, 94, 2, 0), (0, 0, 0, 0), (0, 0, 0, 0), (13, 138, 4, 0), (0, 0, 0, 0), (0, 0, 0, 0), (3, 0, 0, 1), (1, 8, 2, 0), (0, 0, 0, 0), (20, 0, 0, 0), (0, 0, 0, 0), (13, 142, 4, 1), (0, 0, 0, 0), (0, 0, 0, 0), (3, 0, 0, 1), (1, 4, 1, 0), (20, 0, 0, 0), (0, 0, 0, 0), (13, 146, 4, 2), (0, 0, 0, 0), (0, 0, 0, 0), (3, 0, 0, 1), (1, 4, 1, 0), (20, 0, 0, 0), (0, 0, 0, 0), (13, 149, 4, 3), (0, 0, 0, 0), (0, 0, 0, 0), (3, 0, 0, 1), (1, 6, 2, 0), (0, 0, 0, 0), (13, 154, 4, 5), (0, 0, 0, 0), (0, 0, 0, 0), (3, 0, 0, 1), (1, 5, 1, 0), (13, 158, 4, 6), (0, 0, 0, 0), (0, 0, 0, 0), (1, 0, 1, 0), (4, 0, 1, 1), (2, 0, 1, 1), (1, 12, 2, 0), (0, 0, 0, 0), (10, 0, 3, 73), (0, 0, 0, 0), (0, 0, 0, 0), (3, 0, 0, 1), (12, 138, 4, 0), (0, 0, 0, 0), (0, 0, 0, 0), (2, 0, 1, 1), (19, 94, 3, 0), (0, 0, 0, 0), (0, 0, 0, 0), (23, 0, 0, 0), (28, 97, 2, 1), (0, 0, 0, 0), (0, 0, 0, 0), (17, 0, 0, 0), (6, 1, 1, 0), (0, 0, 0, 0), (0, 0, 0, 0), (11, 0, 0, 48), (0, 0, 0, 0), (0, 0, 0, 0), (3, 0, 0, 1), (12, 142, 4, 1), (0, 0, 0, 0), (0, 0, 0, 0), (1, (-1), 1, 0), (28, 135, 3, 2), (0, 0, 0, 0), (0, 0, 0, 0), (3, 0, 0, 1), (12, 146, 4, 2), (0, 0, 0, 0), (0, 0, 0, 0), (1, 1, 1, 0), (28, 135, 3, 2), (0, 0, 0, 0), (0, 0, 0, 0), (30, 0, 0, 0)]
/-- ReedBench$Reed.<init>()V -/
def xk_2 : List xI := [(3, 0, 0, 1), (26, 100, 0, 0), (0, 0, 0, 0), (0, 0, 0, 0), (3, 0, 0, 1), (1, 1, 1, 0), (13, 104, 3, 1), (0, 0, 0, 0), (0, 0, 0, 0), (3, 0, 0, 1), (1, 0, 1, 0), (13, 110, 3, 3), (0, 0, 0, 0), (0, 0, 0, 0), (3, 0, 0, 1), (1, (-1), 1, 0), (13, 113, 3, 4), (0, 0, 0, 0), (0, 0, 0, 0), (3, 0, 0, 1), (1, (-1), 1, 0), (13, 115, 3, 5), (0, 0, 0, 0), (0, 0, 0, 0), (30, 0, 0, 0)]
/-- java/util/Arrays.fill([II)V -/
def xk_3 : List xI := [(1, 0, 1, 0), (4, 0, 2, 1), (3, 0, 0, 1), (18, 0, 0, 0), (4, 0, 3, 1), (2, 0, 2, 1), (2, 0, 3, 1), (10, 0, 3, 20), (0, 0, 0, 0), (0, 0, 0, 0), (3, 0, 0, 1), (2, 0, 2, 1), (2, 0, 1, 1), (15, 0, 0, 0), (6, 1, 2, 0), (0, 0, 0, 0), (0, 0, 0, 0), (11, 0, 0, 5), (0, 0, 0, 0), (0, 0, 0, 0), (30, 0, 0, 0)]
/-- ReedBench$History.<init>()V -/
def xk_4 : List xI := [(3, 0, 0, 1), (26, 186, 0, 0), (0, 0, 0, 0), (0, 0, 0, 0), (3, 0, 0, 1), (1, 6, 2, 0), (0, 0, 0, 0), (21, 187, 3, 0), (0, 0, 0, 0), (0, 0, 0, 0), (13, 190, 1, 0), (0, 0, 0, 0), (0, 0, 0, 0), (1, 0, 1, 0), (4, 0, 1, 1), (2, 0, 1, 1), (1, 6, 2, 0), (0, 0, 0, 0), (10, 0, 3, 40), (0, 0, 0, 0), (0, 0, 0, 0), (3, 0, 0, 1), (12, 190, 1, 0), (0, 0, 0, 0), (0, 0, 0, 0), (2, 0, 1, 1), (19, 187, 4, 0), (0, 0, 0, 0), (0, 0, 0, 0), (23, 0, 0, 0), (28, 189, 1, 1), (0, 0, 0, 0), (0, 0, 0, 0), (17, 0, 0, 0), (6, 1, 1, 0), (0, 0, 0, 0), (0, 0, 0, 0), (11, 0, 0, 15), (0, 0, 0, 0), (0, 0, 0, 0), (30, 0, 0, 0)]
/-- ReedBench$Works.<init>()V -/
def xk_5 : List xI := [(3, 0, 0, 1), (26, 205, 0, 0), (0, 0, 0, 0), (0, 0, 0, 0), (3, 0, 0, 1), (1, 12, 2, 0), (0, 0, 0, 0), (1, 101, 2, 0), (0, 0, 0, 0), (22, 206, 0, 0), (0, 0, 0, 0), (0, 0, 0, 0), (0, 0, 0, 0), (13, 208, 5, 0), (0, 0, 0, 0), (0, 0, 0, 0), (3, 0, 0, 1), (1, 101, 2, 0), (0, 0, 0, 0), (20, 0, 0, 0), (0, 0, 0, 0), (13, 209, 5, 1), (0, 0, 0, 0), (0, 0, 0, 0), (3, 0, 0, 1), (1, 101, 2, 0), (0, 0, 0, 0), (20, 0, 0, 0), (0, 0, 0, 0), (13, 210, 5, 2), (0, 0, 0, 0), (0, 0, 0, 0), (30, 0, 0, 0)]
/-- ReedBench$Plan.<init>()V -/
def xk_6 : List xI := [(3, 0, 0, 1), (26, 223, 0, 0), (0, 0, 0, 0), (0, 0, 0, 0), (3, 0, 0, 1), (19, 224, 0, 0), (0, 0, 0, 0), (0, 0, 0, 0), (23, 0, 0, 0), (28, 226, 7, 1), (0, 0, 0, 0), (0, 0, 0, 0), (13, 237, 2, 0), (0, 0, 0, 0), (0, 0, 0, 0), (3, 0, 0, 1), (1, 4096, 3, 0), (0, 0, 0, 0), (0, 0, 0, 0), (20, 0, 0, 0), (0, 0, 0, 0), (13, 238, 2, 1), (0, 0, 0, 0), (0, 0, 0, 0), (3, 0, 0, 1), (1, 4096, 3, 0), (0, 0, 0, 0), (0, 0, 0, 0), (20, 0, 0, 0), (0, 0, 0, 0), (13, 239, 2, 2), (0, 0, 0, 0), (0, 0, 0, 0), (3, 0, 0, 1), (1, 8, 2, 0), (0, 0, 0, 0), (20, 0, 0, 0), (0, 0, 0, 0), (13, 240, 2, 3), (0, 0, 0, 0), (0, 0, 0, 0), (3, 0, 0, 1), (1, 8, 2, 0), (0, 0, 0, 0), (20, 0, 0, 0), (0, 0, 0, 0), (13, 241, 2, 4), (0, 0, 0, 0), (0, 0, 0, 0), (30, 0, 0, 0)]
/-- ReedBench$Costs.<init>()V -/
def xk_7 : List xI := [(3, 0, 0, 1), (26, 229, 0, 0), (0, 0, 0, 0), (0, 0, 0, 0), (3, 0, 0, 1), (1, 96, 2, 0), (0, 0, 0, 0), (20, 0, 0, 0), (0, 0, 0, 0), (13, 230, 0, 0), (0, 0, 0, 0), (0, 0, 0, 0), (3, 0, 0, 1), (1, 576, 3, 0), (0, 0, 0, 0), (0, 0, 0, 0), (20, 0, 0, 0), (0, 0, 0, 0), (13, 231, 0, 1), (0, 0, 0, 0), (0, 0, 0, 0), (30, 0, 0, 0)]
/-- ReedBench.reed(III)I -/
def xk_8 : List xI := [(2, 0, 1, 1), (1, 0, 1, 0), (1, 9999, 3, 0), (0, 0, 0, 0), (0, 0, 0, 0), (28, 285, 9, 3), (0, 0, 0, 0), (0, 0, 0, 0), (9, 0, 0, 35), (0, 0, 0, 0), (0, 0, 0, 0), (2, 0, 2, 1), (1, 1, 1, 0), (1, 20, 2, 0), (0, 0, 0, 0), (28, 285, 9, 3), (0, 0, 0, 0), (0, 0, 0, 0), (9, 0, 0, 35), (0, 0, 0, 0), (0, 0, 0, 0), (2, 0, 3, 1), (1, 0, 1, 0), (1, 20, 2, 0), (0, 0, 0, 0), (28, 285, 9, 3), (0, 0, 0, 0), (0, 0, 0, 0), (9, 0, 0, 35), (0, 0, 0, 0), (0, 0, 0, 0), (1, 1, 1, 0), (11, 0, 0, 36), (0, 0, 0, 0), (0, 0, 0, 0), (1, 0, 1, 0), (4, 0, 4, 2), (0, 0, 0, 0), (2, 0, 4, 2), (0, 0, 0, 0), (9, 0, 0, 55), (0, 0, 0, 0), (0, 0, 0, 0), (3, 0, 0, 1), (12, 268, 6, 0), (0, 0, 0, 0), (0, 0, 0, 0), (12, 152, 4, 4), (0, 0, 0, 0), (0, 0, 0, 0), (1, 12, 2, 0), (0, 0, 0, 0), (10, 0, 2, 57), (0, 0, 0, 0), (0, 0, 0, 0), (1, (-1), 1, 0), (29, 0, 0, 0), (3, 0, 0, 1), (28, 288, 10, 1), (0, 0, 0, 0), (0, 0, 0, 0), (3, 0, 0, 1), (12, 268, 6, 0), (0, 0, 0, 0), (0, 0, 0, 0), (12, 152, 4, 4), (0, 0, 0, 0), (0, 0, 0, 0), (4, 0, 5, 2), (0, 0, 0, 0), (3, 0, 0, 1), (12, 268, 6, 0), (0, 0, 0, 0), (0, 0, 0, 0), (12, 139, 4, 0), (0, 0, 0, 0), (0, 0, 0, 0), (2, 0, 5, 2), (0, 0, 0, 0), (16, 0, 0, 0), (2, 0, 1, 1), (2, 0, 2, 1), (2, 0, 3, 1), (28, 314, 16, 4), (0, 0, 0, 0), (0, 0, 0, 0), (3, 0, 0, 1), (12, 268, 6, 0), (0, 0, 0, 0), (0, 0, 0, 0), (2, 0, 5, 2), (0, 0, 0, 0), (1, 1, 1, 0), (7, 0, 0, 0), (13, 152, 4, 4), (0, 0, 0, 0), (0, 0, 0, 0), (2, 0, 5, 2), (0, 0, 0, 0), (29, 0, 0, 0)]
/-- ReedBench.within(III)Z -/
def xk_9 : List xI := [(2, 0, 0, 1), (2, 0, 1, 1), (10, 0, 2, 14), (0, 0, 0, 0), (0, 0, 0, 0), (2, 0, 0, 1), (2, 0, 2, 1), (10, 0, 4, 14), (0, 0, 0, 0), (0, 0, 0, 0), (1, 1, 1, 0), (11, 0, 0, 15), (0, 0, 0, 0), (0, 0, 0, 0), (1, 0, 1, 0), (29, 0, 0, 0)]
/-- ReedBench.remember()V -/
def xk_10 : List xI := [(3, 0, 0, 1), (12, 269, 6, 1), (0, 0, 0, 0), (0, 0, 0, 0), (3, 0, 0, 1), (12, 268, 6, 0), (0, 0, 0, 0), (0, 0, 0, 0), (28, 292, 11, 2), (0, 0, 0, 0), (0, 0, 0, 0), (3, 0, 0, 1), (12, 271, 6, 3), (0, 0, 0, 0), (0, 0, 0, 0), (28, 310, 15, 1), (0, 0, 0, 0), (0, 0, 0, 0), (30, 0, 0, 0)]
/-- ReedBench$History.keep(LReedBench$State;)V -/
def xk_11 : List xI := [(3, 0, 0, 1), (12, 190, 1, 0), (0, 0, 0, 0), (0, 0, 0, 0), (3, 0, 0, 1), (12, 192, 1, 2), (0, 0, 0, 0), (0, 0, 0, 0), (16, 0, 0, 0), (3, 0, 1, 1), (28, 296, 12, 2), (0, 0, 0, 0), (0, 0, 0, 0), (3, 0, 0, 1), (3, 0, 0, 1), (12, 192, 1, 2), (0, 0, 0, 0), (0, 0, 0, 0), (1, 5, 1, 0), (10, 0, 1, 26), (0, 0, 0, 0), (0, 0, 0, 0), (1, 0, 1, 0), (11, 0, 0, 32), (0, 0, 0, 0), (0, 0, 0, 0), (3, 0, 0, 1), (12, 192, 1, 2), (0, 0, 0, 0), (0, 0, 0, 0), (1, 1, 1, 0), (7, 0, 0, 0), (13, 192, 1, 2), (0, 0, 0, 0), (0, 0, 0, 0), (3, 0, 0, 1), (3, 0, 0, 1), (12, 191, 1, 1), (0, 0, 0, 0), (0, 0, 0, 0), (1, 1, 1, 0), (7, 0, 0, 0), (1, 6, 2, 0), (0, 0, 0, 0), (33, 307, 0, 0), (0, 0, 0, 0), (0, 0, 0, 0), (13, 191, 1, 1), (0, 0, 0, 0), (0, 0, 0, 0), (30, 0, 0, 0)]
/-- ReedBench$State.copyFrom(LReedBench$State;)V -/
def xk_12 : List xI := [(1, 0, 1, 0), (4, 0, 2, 1), (2, 0, 2, 1), (1, 12, 2, 0), (0, 0, 0, 0), (10, 0, 3, 29), (0, 0, 0, 0), (0, 0, 0, 0), (3, 0, 0, 1), (12, 138, 4, 0), (0, 0, 0, 0), (0, 0, 0, 0), (2, 0, 2, 1), (16, 0, 0, 0), (3, 0, 1, 1), (12, 138, 4, 0), (0, 0, 0, 0), (0, 0, 0, 0), (2, 0, 2, 1), (16, 0, 0, 0), (28, 300, 13, 2), (0, 0, 0, 0), (0, 0, 0, 0), (6, 1, 2, 0), (0, 0, 0, 0), (0, 0, 0, 0), (11, 0, 0, 2), (0, 0, 0, 0), (0, 0, 0, 0), (3, 0, 1, 1), (12, 142, 4, 1), (0, 0, 0, 0), (0, 0, 0, 0), (1, 0, 1, 0), (3, 0, 0, 1), (12, 142, 4, 1), (0, 0, 0, 0), (0, 0, 0, 0), (1, 0, 1, 0), (1, 8, 2, 0), (0, 0, 0, 0), (27, 304, 0, 0), (0, 0, 0, 0), (0, 0, 0, 0), (3, 0, 1, 1), (12, 146, 4, 2), (0, 0, 0, 0), (0, 0, 0, 0), (1, 0, 1, 0), (3, 0, 0, 1), (12, 146, 4, 2), (0, 0, 0, 0), (0, 0, 0, 0), (1, 0, 1, 0), (1, 4, 1, 0), (27, 304, 0, 0), (0, 0, 0, 0), (0, 0, 0, 0), (3, 0, 1, 1), (12, 149, 4, 3), (0, 0, 0, 0), (0, 0, 0, 0), (1, 0, 1, 0), (3, 0, 0, 1), (12, 149, 4, 3), (0, 0, 0, 0), (0, 0, 0, 0), (1, 0, 1, 0), (1, 4, 1, 0), (27, 304, 0, 0), (0, 0, 0, 0), (0, 0, 0, 0), (3, 0, 0, 1), (3, 0, 1, 1), (12, 153, 4, 4), (0, 0, 0, 0), (0, 0, 0, 0), (13, 153, 4, 4), (0, 0, 0, 0), (0, 0, 0, 0), (3, 0, 0, 1), (3, 0, 1, 1), (12, 154, 4, 5), (0, 0, 0, 0), (0, 0, 0, 0), (13, 154, 4, 5), (0, 0, 0, 0), (0, 0, 0, 0), (3, 0, 0, 1), (3, 0, 1, 1), (12, 158, 4, 6), (0, 0, 0, 0), (0, 0, 0, 0), (13, 158, 4, 6), (0, 0, 0, 0), (0, 0, 0, 0), (3, 0, 0, 1), (3, 0, 1, 1), (12, 161, 4, 7), (0, 0, 0, 0), (0, 0, 0, 0), (13, 161, 4, 7), (0, 0, 0, 0), (0, 0, 0, 0), (30, 0, 0, 0)]
/-- ReedBench$Reed.copyFrom(LReedBench$Reed;)V -/
def xk_13 : List xI := [(3, 0, 0, 1), (3, 0, 1, 1), (12, 101, 3, 0), (0, 0, 0, 0), (0, 0, 0, 0), (13, 101, 3, 0), (0, 0, 0, 0), (0, 0, 0, 0), (3, 0, 0, 1), (3, 0, 1, 1), (12, 104, 3, 1), (0, 0, 0, 0), (0, 0, 0, 0), (13, 104, 3, 1), (0, 0, 0, 0), (0, 0, 0, 0), (3, 0, 0, 1), (3, 0, 1, 1), (12, 107, 3, 2), (0, 0, 0, 0), (0, 0, 0, 0), (13, 107, 3, 2), (0, 0, 0, 0), (0, 0, 0, 0), (3, 0, 0, 1), (3, 0, 1, 1), (12, 110, 3, 3), (0, 0, 0, 0), (0, 0, 0, 0), (13, 110, 3, 3), (0, 0, 0, 0), (0, 0, 0, 0), (3, 0, 0, 1), (3, 0, 1, 1), (12, 113, 3, 4), (0, 0, 0, 0), (0, 0, 0, 0), (13, 113, 3, 4), (0, 0, 0, 0), (0, 0, 0, 0), (3, 0, 0, 1), (3, 0, 1, 1), (12, 115, 3, 5), (0, 0, 0, 0), (0, 0, 0, 0), (13, 115, 3, 5), (0, 0, 0, 0), (0, 0, 0, 0), (3, 0, 0, 1), (3, 0, 1, 1), (12, 117, 3, 6), (0, 0, 0, 0), (0, 0, 0, 0), (13, 117, 3, 6), (0, 0, 0, 0), (0, 0, 0, 0), (30, 0, 0, 0)]
/-- java/lang/Math.min(II)I -/
def xk_14 : List xI := [(2, 0, 0, 1), (2, 0, 1, 1), (10, 0, 4, 9), (0, 0, 0, 0), (0, 0, 0, 0), (2, 0, 0, 1), (11, 0, 0, 10), (0, 0, 0, 0), (0, 0, 0, 0), (2, 0, 1, 1), (29, 0, 0, 0)]
/-- ReedBench$Plan.forget()V -/
def xk_15 : List xI := [(3, 0, 0, 1), (1, 0, 1, 0), (13, 248, 2, 8), (0, 0, 0, 0), (0, 0, 0, 0), (30, 0, 0, 0)]
/-- ReedBench$Reed.begin(III)V -/
def xk_16 : List xI := [(3, 0, 0, 1), (2, 0, 1, 1), (13, 101, 3, 0), (0, 0, 0, 0), (0, 0, 0, 0), (3, 0, 0, 1), (2, 0, 2, 1), (13, 104, 3, 1), (0, 0, 0, 0), (0, 0, 0, 0), (3, 0, 0, 1), (2, 0, 3, 1), (13, 107, 3, 2), (0, 0, 0, 0), (0, 0, 0, 0), (3, 0, 0, 1), (1, 0, 1, 0), (13, 110, 3, 3), (0, 0, 0, 0), (0, 0, 0, 0), (3, 0, 0, 1), (1, (-1), 1, 0), (13, 113, 3, 4), (0, 0, 0, 0), (0, 0, 0, 0), (3, 0, 0, 1), (1, (-1), 1, 0), (13, 115, 3, 5), (0, 0, 0, 0), (0, 0, 0, 0), (3, 0, 0, 1), (1, 0, 1, 0), (13, 117, 3, 6), (0, 0, 0, 0), (0, 0, 0, 0), (30, 0, 0, 0)]
/-- ReedBench.scrap(I)Z -/
def xk_17 : List xI := [(3, 0, 0, 1), (12, 268, 6, 0), (0, 0, 0, 0), (0, 0, 0, 0), (2, 0, 1, 1), (28, 322, 18, 2), (0, 0, 0, 0), (0, 0, 0, 0), (9, 0, 1, 13), (0, 0, 0, 0), (0, 0, 0, 0), (1, 0, 1, 0), (29, 0, 0, 0), (3, 0, 0, 1), (28, 288, 10, 1), (0, 0, 0, 0), (0, 0, 0, 0), (3, 0, 0, 1), (12, 268, 6, 0), (0, 0, 0, 0), (0, 0, 0, 0), (12, 139, 4, 0), (0, 0, 0, 0), (0, 0, 0, 0), (2, 0, 1, 1), (16, 0, 0, 0), (1, 2, 1, 0), (13, 111, 3, 3), (0, 0, 0, 0), (0, 0, 0, 0), (1, 1, 1, 0), (29, 0, 0, 0)]
/-- ReedBench$State.isFree(I)Z -/
def xk_18 : List xI := [(3, 0, 0, 1), (2, 0, 1, 1), (28, 326, 19, 2), (0, 0, 0, 0), (0, 0, 0, 0), (9, 0, 0, 24), (0, 0, 0, 0), (0, 0, 0, 0), (3, 0, 0, 1), (12, 138, 4, 0), (0, 0, 0, 0), (0, 0, 0, 0), (2, 0, 1, 1), (16, 0, 0, 0), (12, 112, 3, 3), (0, 0, 0, 0), (0, 0, 0, 0), (9, 0, 1, 24), (0, 0, 0, 0), (0, 0, 0, 0), (1, 1, 1, 0), (11, 0, 0, 25), (0, 0, 0, 0), (0, 0, 0, 0), (1, 0, 1, 0), (29, 0, 0, 0)]
/-- ReedBench$State.hasReed(I)Z -/
def xk_19 : List xI := [(2, 0, 1, 1), (9, 0, 2, 22), (0, 0, 0, 0), (0, 0, 0, 0), (2, 0, 1, 1), (3, 0, 0, 1), (12, 153, 4, 4), (0, 0, 0, 0), (0, 0, 0, 0), (10, 0, 3, 22), (0, 0, 0, 0), (0, 0, 0, 0), (2, 0, 1, 1), (1, 12, 2, 0), (0, 0, 0, 0), (10, 0, 3, 22), (0, 0, 0, 0), (0, 0, 0, 0), (1, 1, 1, 0), (11, 0, 0, 23), (0, 0, 0, 0), (0, 0, 0, 0), (1, 0, 1, 0), (29, 0, 0, 0)]
/-- ReedBench.rates(II)Z -/
def xk_20 : List xI := [(2, 0, 1, 1), (1, 1, 1, 0), (1, 20, 2, 0), (0, 0, 0, 0), (28, 285, 9, 3), (0, 0, 0, 0), (0, 0, 0, 0), (9, 0, 0, 20), (0, 0, 0, 0), (0, 0, 0, 0), (2, 0, 2, 1), (1, 0, 1, 0), (1, 50, 2, 0), (0, 0, 0, 0), (28, 285, 9, 3), (0, 0, 0, 0), (0, 0, 0, 0), (9, 0, 1, 22), (0, 0, 0, 0), (0, 0, 0, 0), (1, 0, 1, 0), (29, 0, 0, 0), (3, 0, 0, 1), (28, 288, 10, 1), (0, 0, 0, 0), (0, 0, 0, 0), (3, 0, 0, 1), (12, 268, 6, 0), (0, 0, 0, 0), (0, 0, 0, 0), (2, 0, 1, 1), (13, 155, 4, 5), (0, 0, 0, 0), (0, 0, 0, 0), (3, 0, 0, 1), (12, 268, 6, 0), (0, 0, 0, 0), (0, 0, 0, 0), (2, 0, 2, 1), (13, 159, 4, 6), (0, 0, 0, 0), (0, 0, 0, 0), (1, 1, 1, 0), (29, 0, 0, 0)]
/-- ReedBench.want(II)Z -/
def xk_21 : List xI := [(2, 0, 1, 1), (1, 0, 1, 0), (1, 7, 2, 0), (0, 0, 0, 0), (28, 285, 9, 3), (0, 0, 0, 0), (0, 0, 0, 0), (9, 0, 0, 21), (0, 0, 0, 0), (0, 0, 0, 0), (2, 0, 2, 1), (1, (-1), 1, 0), (1, 9999, 3, 0), (0, 0, 0, 0), (0, 0, 0, 0), (28, 285, 9, 3), (0, 0, 0, 0), (0, 0, 0, 0), (9, 0, 1, 23), (0, 0, 0, 0), (0, 0, 0, 0), (1, 0, 1, 0), (29, 0, 0, 0), (3, 0, 0, 1), (28, 288, 10, 1), (0, 0, 0, 0), (0, 0, 0, 0), (3, 0, 0, 1), (12, 268, 6, 0), (0, 0, 0, 0), (0, 0, 0, 0), (12, 143, 4, 1), (0, 0, 0, 0), (0, 0, 0, 0), (2, 0, 1, 1), (2, 0, 2, 1), (15, 0, 0, 0), (1, 1, 1, 0), (29, 0, 0, 0)]
/-- ReedBench.tuning(II)Z -/
def xk_22 : List xI := [(2, 0, 1, 1), (1, 0, 1, 0), (1, 2, 1, 0), (28, 285, 9, 3), (0, 0, 0, 0), (0, 0, 0, 0), (9, 0, 0, 20), (0, 0, 0, 0), (0, 0, 0, 0), (2, 0, 2, 1), (1, 0, 1, 0), (1, 8000, 3, 0), (0, 0, 0, 0), (0, 0, 0, 0), (28, 285, 9, 3), (0, 0, 0, 0), (0, 0, 0, 0), (9, 0, 1, 22), (0, 0, 0, 0), (0, 0, 0, 0), (1, 0, 1, 0), (29, 0, 0, 0), (3, 0, 0, 1), (28, 288, 10, 1), (0, 0, 0, 0), (0, 0, 0, 0), (1, 0, 1, 0), (4, 0, 3, 1), (2, 0, 3, 1), (1, 8, 2, 0), (0, 0, 0, 0), (10, 0, 3, 61), (0, 0, 0, 0), (0, 0, 0, 0), (3, 0, 0, 1), (12, 268, 6, 0), (0, 0, 0, 0), (0, 0, 0, 0), (12, 143, 4, 1), (0, 0, 0, 0), (0, 0, 0, 0), (2, 0, 3, 1), (2, 0, 2, 1), (31, 342, 0, 0), (0, 0, 0, 0), (0, 0, 0, 0), (2, 0, 1, 1), (1, 8, 2, 0), (0, 0, 0, 0), (7, 0, 2, 0), (2, 0, 3, 1), (7, 0, 0, 0), (14, 0, 0, 0), (7, 0, 0, 0), (15, 0, 0, 0), (6, 1, 3, 0), (0, 0, 0, 0), (0, 0, 0, 0), (11, 0, 0, 28), (0, 0, 0, 0), (0, 0, 0, 0), (1, 1, 1, 0), (29, 0, 0, 0)]
/-- ReedBench.beat(III)Z -/
def xk_23 : List xI := [(2, 0, 1, 1), (1, 0, 1, 0), (1, 3, 1, 0), (28, 285, 9, 3), (0, 0, 0, 0), (0, 0, 0, 0), (9, 0, 0, 35), (0, 0, 0, 0), (0, 0, 0, 0), (2, 0, 2, 1), (1, (-100), 2, 0), (0, 0, 0, 0), (1, 100, 2, 0), (0, 0, 0, 0), (28, 285, 9, 3), (0, 0, 0, 0), (0, 0, 0, 0), (9, 0, 0, 35), (0, 0, 0, 0), (0, 0, 0, 0), (2, 0, 3, 1), (1, (-100), 2, 0), (0, 0, 0, 0), (1, 100, 2, 0), (0, 0, 0, 0), (28, 285, 9, 3), (0, 0, 0, 0), (0, 0, 0, 0), (9, 0, 0, 35), (0, 0, 0, 0), (0, 0, 0, 0), (1, 1, 1, 0), (11, 0, 0, 36), (0, 0, 0, 0), (0, 0, 0, 0), (1, 0, 1, 0), (4, 0, 4, 2), (0, 0, 0, 0), (2, 0, 4, 2), (0, 0, 0, 0), (9, 0, 1, 45), (0, 0, 0, 0), (0, 0, 0, 0), (1, 0, 1, 0), (29, 0, 0, 0), (3, 0, 0, 1), (28, 288, 10, 1), (0, 0, 0, 0), (0, 0, 0, 0), (3, 0, 0, 1), (12, 268, 6, 0), (0, 0, 0, 0), (0, 0, 0, 0), (12, 147, 4, 2), (0, 0, 0, 0), (0, 0, 0, 0), (2, 0, 1, 1), (2, 0, 2, 1), (15, 0, 0, 0), (3, 0, 0, 1), (12, 268, 6, 0), (0, 0, 0, 0), (0, 0, 0, 0), (12, 150, 4, 3), (0, 0, 0, 0), (0, 0, 0, 0), (2, 0, 1, 1), (2, 0, 3, 1), (15, 0, 0, 0), (1, 1, 1, 0), (29, 0, 0, 0)]
/-- ReedBench.file(III)I -/
def xk_24 : List xI := [(3, 0, 0, 1), (12, 268, 6, 0), (0, 0, 0, 0), (0, 0, 0, 0), (2, 0, 1, 1), (28, 322, 18, 2), (0, 0, 0, 0), (0, 0, 0, 0), (9, 0, 0, 28), (0, 0, 0, 0), (0, 0, 0, 0), (3, 0, 0, 1), (12, 268, 6, 0), (0, 0, 0, 0), (0, 0, 0, 0), (12, 139, 4, 0), (0, 0, 0, 0), (0, 0, 0, 0), (2, 0, 1, 1), (16, 0, 0, 0), (2, 0, 2, 1), (2, 0, 3, 1), (28, 352, 25, 3), (0, 0, 0, 0), (0, 0, 0, 0), (9, 0, 1, 31), (0, 0, 0, 0), (0, 0, 0, 0), (1, (-100000), 2, 357), (0, 0, 0, 0), (29, 0, 0, 0), (3, 0, 0, 1), (28, 288, 10, 1), (0, 0, 0, 0), (0, 0, 0, 0), (3, 0, 0, 1), (12, 268, 6, 0), (0, 0, 0, 0), (0, 0, 0, 0), (12, 139, 4, 0), (0, 0, 0, 0), (0, 0, 0, 0), (2, 0, 1, 1), (16, 0, 0, 0), (2, 0, 2, 1), (2, 0, 3, 1), (3, 0, 0, 1), (12, 268, 6, 0), (0, 0, 0, 0), (0, 0, 0, 0), (12, 155, 4, 5), (0, 0, 0, 0), (0, 0, 0, 0), (28, 358, 26, 4), (0, 0, 0, 0), (0, 0, 0, 0), (3, 0, 0, 1), (12, 268, 6, 0), (0, 0, 0, 0), (0, 0, 0, 0), (12, 139, 4, 0), (0, 0, 0, 0), (0, 0, 0, 0), (2, 0, 1, 1), (16, 0, 0, 0), (12, 102, 3, 0), (0, 0, 0, 0), (0, 0, 0, 0), (29, 0, 0, 0)]
/-- ReedBench$Reed.bears(II)Z -/
def xk_25 : List xI := [(2, 0, 1, 1), (1, 0, 1, 0), (3, 0, 0, 1), (12, 107, 3, 2), (0, 0, 0, 0), (0, 0, 0, 0), (28, 356, 9, 3), (0, 0, 0, 0), (0, 0, 0, 0), (9, 0, 0, 30), (0, 0, 0, 0), (0, 0, 0, 0), (2, 0, 2, 1), (1, 0, 1, 0), (3, 0, 0, 1), (12, 104, 3, 1), (0, 0, 0, 0), (0, 0, 0, 0), (1, 1, 1, 0), (7, 0, 1, 0), (28, 356, 9, 3), (0, 0, 0, 0), (0, 0, 0, 0), (9, 0, 0, 30), (0, 0, 0, 0), (0, 0, 0, 0), (1, 1, 1, 0), (11, 0, 0, 31), (0, 0, 0, 0), (0, 0, 0, 0), (1, 0, 1, 0), (29, 0, 0, 0)]
/-- ReedBench$Reed.takeStrokes(III)V -/
def xk_26 : List xI := [(3, 0, 0, 1), (23, 0, 0, 0), (12, 101, 3, 0), (0, 0, 0, 0), (0, 0, 0, 0), (2, 0, 1, 1), (2, 0, 3, 1), (7, 0, 2, 0), (7, 0, 0, 0), (13, 101, 3, 0), (0, 0, 0, 0), (0, 0, 0, 0), (3, 0, 0, 1), (23, 0, 0, 0), (12, 107, 3, 2), (0, 0, 0, 0), (0, 0, 0, 0), (2, 0, 1, 1), (7, 0, 1, 0), (13, 107, 3, 2), (0, 0, 0, 0), (0, 0, 0, 0), (1, 0, 1, 0), (4, 0, 4, 2), (0, 0, 0, 0), (2, 0, 4, 2), (0, 0, 0, 0), (2, 0, 2, 1), (10, 0, 3, 60), (0, 0, 0, 0), (0, 0, 0, 0), (3, 0, 0, 1), (23, 0, 0, 0), (12, 101, 3, 0), (0, 0, 0, 0), (0, 0, 0, 0), (3, 0, 0, 1), (12, 104, 3, 1), (0, 0, 0, 0), (0, 0, 0, 0), (7, 0, 1, 0), (13, 101, 3, 0), (0, 0, 0, 0), (0, 0, 0, 0), (3, 0, 0, 1), (23, 0, 0, 0), (12, 104, 3, 1), (0, 0, 0, 0), (0, 0, 0, 0), (1, 1, 1, 0), (7, 0, 1, 0), (13, 104, 3, 1), (0, 0, 0, 0), (0, 0, 0, 0), (6, 1, 4, 0), (0, 0, 0, 0), (0, 0, 0, 0), (11, 0, 0, 25), (0, 0, 0, 0), (0, 0, 0, 0), (3, 0, 0, 1), (23, 0, 0, 0), (12, 117, 3, 6), (0, 0, 0, 0), (0, 0, 0, 0), (2, 0, 1, 1), (2, 0, 2, 1), (7, 0, 0, 0), (7, 0, 0, 0), (13, 117, 3, 6), (0, 0, 0, 0), (0, 0, 0, 0), (30, 0, 0, 0)]
/-- ReedBench.look(I)I -/
def xk_27 : List xI := [(2, 0, 1, 1), (1, 10, 2, 0), (0, 0, 0, 0), (1, 17, 2, 0), (0, 0, 0, 0), (28, 285, 9, 3), (0, 0, 0, 0), (0, 0, 0, 0), (9, 0, 0, 24), (0, 0, 0, 0), (0, 0, 0, 0), (3, 0, 0, 1), (12, 268, 6, 0), (0, 0, 0, 0), (0, 0, 0, 0), (12, 143, 4, 1), (0, 0, 0, 0), (0, 0, 0, 0), (2, 0, 1, 1), (1, 10, 2, 0), (0, 0, 0, 0), (7, 0, 1, 0), (14, 0, 0, 0), (29, 0, 0, 0), (2, 0, 1, 1), (1, 20, 2, 0), (0, 0, 0, 0), (1, 27, 2, 0), (0, 0, 0, 0), (28, 285, 9, 3), (0, 0, 0, 0), (0, 0, 0, 0), (9, 0, 0, 44), (0, 0, 0, 0), (0, 0, 0, 0), (3, 0, 0, 1), (2, 0, 1, 1), (1, 20, 2, 0), (0, 0, 0, 0), (7, 0, 1, 0), (28, 366, 28, 2), (0, 0, 0, 0), (0, 0, 0, 0), (29, 0, 0, 0), (2, 0, 1, 1), (32, 0, 135, 39), (0, 0, 0, 0), (0, 0, 0, 0), (0, 0, 0, 0), (0, 0, 0, 0), (0, 0, 0, 0), (0, 0, 0, 0), (0, 0, 0, 0), (0, 0, 0, 0), (0, 0, 0, 0), (0, 0, 0, 0), (0, 0, 0, 0), (0, 0, 0, 0), (0, 0, 0, 0), (0, 0, 0, 0), (0, 0, 0, 0), (0, 0, 0, 0), (0, 0, 0, 0), (0, 0, 0, 0), (0, 0, 0, 0), (0, 0, 0, 0), (0, 0, 0, 0), (0, 0, 0, 0), (0, 0, 0, 0), (0, 0, 0, 0), (0, 0, 0, 0), (0, 0, 0, 0), (0, 0, 0, 0), (0, 0, 0, 0), (0, 0, 0, 0), (0, 0, 0, 0), (0, 0, 0, 0), (0, 0, 0, 0), (0, 0, 0, 0), (0, 0, 0, 0), (0, 0, 0, 0), (0, 0, 0, 0), (0, 0, 0, 0), (0, 0, 0, 0), (3, 0, 0, 1), (12, 268, 6, 0), (0, 0, 0, 0), (0, 0, 0, 0), (12, 152, 4, 4), (0, 0, 0, 0), (0, 0, 0, 0), (29, 0, 0, 0), (3, 0, 0, 1), (12, 268, 6, 0), (0, 0, 0, 0), (0, 0, 0, 0), (28, 374, 30, 1), (0, 0, 0, 0), (0, 0, 0, 0), (28, 379, 31, 1), (0, 0, 0, 0), (0, 0, 0, 0), (29, 0, 0, 0), (3, 0, 0, 1), (12, 268, 6, 0), (0, 0, 0, 0), (0, 0, 0, 0), (12, 155, 4, 5), (0, 0, 0, 0), (0, 0, 0, 0), (29, 0, 0, 0), (3, 0, 0, 1), (12, 268, 6, 0), (0, 0, 0, 0), (0, 0, 0, 0), (12, 159, 4, 6), (0, 0, 0, 0), (0, 0, 0, 0), (29, 0, 0, 0), (3, 0, 0, 1), (12, 268, 6, 0), (0, 0, 0, 0), (0, 0, 0, 0), (28, 385, 32, 1), (0, 0, 0, 0), (0, 0, 0, 0), (29, 0, 0, 0), (3, 0, 0, 1), (12, 268, 6, 0), (0, 0, 0, 0), (0, 0, 0, 0), (12, 162, 4, 7), (0, 0, 0, 0), (0, 0, 0, 0), (29, 0, 0, 0), (1, (-1001), 3, 0), (0, 0, 0, 0), (0, 0, 0, 0), (29, 0, 0, 0)]
/-- ReedBench.beatBound(I)I -/
def xk_28 : List xI := [(2, 0, 1, 1), (1, 2, 1, 0), (7, 0, 3, 0), (4, 0, 2, 1), (3, 0, 0, 1), (12, 268, 6, 0), (0, 0, 0, 0), (0, 0, 0, 0), (2, 0, 2, 1), (28, 370, 29, 2), (0, 0, 0, 0), (0, 0, 0, 0), (9, 0, 1, 19), (0, 0, 0, 0), (0, 0, 0, 0), (1, (-1001), 3, 0), (0, 0, 0, 0), (0, 0, 0, 0), (29, 0, 0, 0), (2, 0, 1, 1), (1, 2, 1, 0), (7, 0, 4, 0), (9, 0, 1, 37), (0, 0, 0, 0), (0, 0, 0, 0), (3, 0, 0, 1), (12, 268, 6, 0), (0, 0, 0, 0), (0, 0, 0, 0), (12, 147, 4, 2), (0, 0, 0, 0), (0, 0, 0, 0), (2, 0, 2, 1), (14, 0, 0, 0), (11, 0, 0, 46), (0, 0, 0, 0), (0, 0, 0, 0), (3, 0, 0, 1), (12, 268, 6, 0), (0, 0, 0, 0), (0, 0, 0, 0), (12, 150, 4, 3), (0, 0, 0, 0), (0, 0, 0, 0), (2, 0, 2, 1), (14, 0, 0, 0), (29, 0, 0, 0)]
/-- ReedBench$State.isBound(I)Z -/
def xk_29 : List xI := [(2, 0, 1, 1), (9, 0, 2, 28), (0, 0, 0, 0), (0, 0, 0, 0), (2, 0, 1, 1), (1, 4, 1, 0), (10, 0, 3, 28), (0, 0, 0, 0), (0, 0, 0, 0), (3, 0, 0, 1), (12, 146, 4, 2), (0, 0, 0, 0), (0, 0, 0, 0), (2, 0, 1, 1), (14, 0, 0, 0), (3, 0, 0, 1), (12, 149, 4, 3), (0, 0, 0, 0), (0, 0, 0, 0), (2, 0, 1, 1), (14, 0, 0, 0), (10, 0, 4, 28), (0, 0, 0, 0), (0, 0, 0, 0), (1, 1, 1, 0), (11, 0, 0, 29), (0, 0, 0, 0), (0, 0, 0, 0), (1, 0, 1, 0), (29, 0, 0, 0)]
/-- ReedBench$State.freeReeds()I -/
def xk_30 : List xI := [(1, 0, 1, 0), (4, 0, 1, 1), (1, 0, 1, 0), (4, 0, 2, 1), (2, 0, 2, 1), (1, 12, 2, 0), (0, 0, 0, 0), (10, 0, 3, 30), (0, 0, 0, 0), (0, 0, 0, 0), (3, 0, 0, 1), (2, 0, 2, 1), (28, 378, 18, 2), (0, 0, 0, 0), (0, 0, 0, 0), (9, 0, 0, 24), (0, 0, 0, 0), (0, 0, 0, 0), (2, 0, 1, 1), (1, 1, 1, 0), (2, 0, 2, 1), (7, 0, 8, 0), (7, 0, 6, 0), (4, 0, 1, 1), (6, 1, 2, 0), (0, 0, 0, 0), (0, 0, 0, 0), (11, 0, 0, 4), (0, 0, 0, 0), (0, 0, 0, 0), (2, 0, 1, 1), (29, 0, 0, 0)]
/-- java/lang/Integer.bitCount(I)I -/
def xk_31 : List xI := [(2, 0, 0, 1), (2, 0, 0, 1), (1, 1, 1, 0), (7, 0, 10, 0), (1, 1431655765, 3, 382), (0, 0, 0, 0), (0, 0, 0, 0), (7, 0, 5, 0), (7, 0, 1, 0), (4, 0, 0, 1), (2, 0, 0, 1), (1, 858993459, 3, 383), (0, 0, 0, 0), (0, 0, 0, 0), (7, 0, 5, 0), (2, 0, 0, 1), (1, 2, 1, 0), (7, 0, 10, 0), (1, 858993459, 3, 383), (0, 0, 0, 0), (0, 0, 0, 0), (7, 0, 5, 0), (7, 0, 0, 0), (4, 0, 0, 1), (2, 0, 0, 1), (2, 0, 0, 1), (1, 4, 1, 0), (7, 0, 10, 0), (7, 0, 0, 0), (1, 252645135, 3, 384), (0, 0, 0, 0), (0, 0, 0, 0), (7, 0, 5, 0), (4, 0, 0, 1), (2, 0, 0, 1), (2, 0, 0, 1), (1, 8, 2, 0), (0, 0, 0, 0), (7, 0, 10, 0), (7, 0, 0, 0), (4, 0, 0, 1), (2, 0, 0, 1), (2, 0, 0, 1), (1, 16, 2, 0), (0, 0, 0, 0), (7, 0, 10, 0), (7, 0, 0, 0), (4, 0, 0, 1), (2, 0, 0, 1), (1, 63, 2, 0), (0, 0, 0, 0), (7, 0, 5, 0), (29, 0, 0, 0)]
/-- ReedBench$State.wantedSlots()I -/
def xk_32 : List xI := [(1, 0, 1, 0), (4, 0, 1, 1), (1, 0, 1, 0), (4, 0, 2, 1), (2, 0, 2, 1), (1, 8, 2, 0), (0, 0, 0, 0), (10, 0, 3, 30), (0, 0, 0, 0), (0, 0, 0, 0), (3, 0, 0, 1), (2, 0, 2, 1), (28, 389, 33, 2), (0, 0, 0, 0), (0, 0, 0, 0), (9, 0, 0, 24), (0, 0, 0, 0), (0, 0, 0, 0), (2, 0, 1, 1), (1, 1, 1, 0), (2, 0, 2, 1), (7, 0, 8, 0), (7, 0, 6, 0), (4, 0, 1, 1), (6, 1, 2, 0), (0, 0, 0, 0), (0, 0, 0, 0), (11, 0, 0, 4), (0, 0, 0, 0), (0, 0, 0, 0), (2, 0, 1, 1), (29, 0, 0, 0)]
/-- ReedBench$State.isWanted(I)Z -/
def xk_33 : List xI := [(2, 0, 1, 1), (9, 0, 2, 24), (0, 0, 0, 0), (0, 0, 0, 0), (2, 0, 1, 1), (1, 8, 2, 0), (0, 0, 0, 0), (10, 0, 3, 24), (0, 0, 0, 0), (0, 0, 0, 0), (3, 0, 0, 1), (12, 142, 4, 1), (0, 0, 0, 0), (0, 0, 0, 0), (2, 0, 1, 1), (14, 0, 0, 0), (1, (-1), 1, 0), (10, 0, 0, 24), (0, 0, 0, 0), (0, 0, 0, 0), (1, 1, 1, 0), (11, 0, 0, 25), (0, 0, 0, 0), (0, 0, 0, 0), (1, 0, 1, 0), (29, 0, 0, 0)]
/-- ReedBench.of(II)I -/
def xk_34 : List xI := [(3, 0, 0, 1), (12, 268, 6, 0), (0, 0, 0, 0), (0, 0, 0, 0), (2, 0, 1, 1), (28, 397, 19, 2), (0, 0, 0, 0), (0, 0, 0, 0), (9, 0, 1, 14), (0, 0, 0, 0), (0, 0, 0, 0), (1, (-100000), 2, 357), (0, 0, 0, 0), (29, 0, 0, 0), (3, 0, 0, 1), (12, 268, 6, 0), (0, 0, 0, 0), (0, 0, 0, 0), (12, 139, 4, 0), (0, 0, 0, 0), (0, 0, 0, 0), (2, 0, 1, 1), (16, 0, 0, 0), (5, 0, 3, 1), (2, 0, 2, 1), (32, 0, 103, 43), (0, 0, 0, 0), (0, 0, 0, 0), (0, 0, 0, 0), (0, 0, 0, 0), (0, 0, 0, 0), (0, 0, 0, 0), (0, 0, 0, 0), (0, 0, 0, 0), (0, 0, 0, 0), (0, 0, 0, 0), (0, 0, 0, 0), (0, 0, 0, 0), (0, 0, 0, 0), (0, 0, 0, 0), (0, 0, 0, 0), (0, 0, 0, 0), (0, 0, 0, 0), (0, 0, 0, 0), (0, 0, 0, 0), (0, 0, 0, 0), (0, 0, 0, 0), (0, 0, 0, 0), (0, 0, 0, 0), (0, 0, 0, 0), (0, 0, 0, 0), (0, 0, 0, 0), (0, 0, 0, 0), (0, 0, 0, 0), (0, 0, 0, 0), (0, 0, 0, 0), (0, 0, 0, 0), (0, 0, 0, 0), (0, 0, 0, 0), (0, 0, 0, 0), (0, 0, 0, 0), (0, 0, 0, 0), (0, 0, 0, 0), (0, 0, 0, 0), (0, 0, 0, 0), (0, 0, 0, 0), (0, 0, 0, 0), (0, 0, 0, 0), (3, 0, 3, 1), (12, 102, 3, 0), (0, 0, 0, 0), (0, 0, 0, 0), (29, 0, 0, 0), (3, 0, 3, 1), (12, 105, 3, 1), (0, 0, 0, 0), (0, 0, 0, 0), (29, 0, 0, 0), (3, 0, 3, 1), (12, 108, 3, 2), (0, 0, 0, 0), (0, 0, 0, 0), (29, 0, 0, 0), (3, 0, 3, 1), (12, 111, 3, 3), (0, 0, 0, 0), (0, 0, 0, 0), (29, 0, 0, 0), (3, 0, 3, 1), (12, 114, 3, 4), (0, 0, 0, 0), (0, 0, 0, 0), (29, 0, 0, 0), (3, 0, 3, 1), (12, 116, 3, 5), (0, 0, 0, 0), (0, 0, 0, 0), (29, 0, 0, 0), (3, 0, 3, 1), (12, 118, 3, 6), (0, 0, 0, 0), (0, 0, 0, 0), (29, 0, 0, 0), (1, (-100000), 2, 357), (0, 0, 0, 0), (29, 0, 0, 0)]
/-- ReedBench.work(III)I -/
def xk_35 : List xI := [(3, 0, 0, 1), (12, 268, 6, 0), (0, 0, 0, 0), (0, 0, 0, 0), (2, 0, 1, 1), (28, 397, 19, 2), (0, 0, 0, 0), (0, 0, 0, 0), (9, 0, 0, 22), (0, 0, 0, 0), (0, 0, 0, 0), (3, 0, 0, 1), (12, 268, 6, 0), (0, 0, 0, 0), (0, 0, 0, 0), (2, 0, 2, 1), (28, 402, 33, 2), (0, 0, 0, 0), (0, 0, 0, 0), (9, 0, 1, 24), (0, 0, 0, 0), (0, 0, 0, 0), (1, (-1), 1, 0), (29, 0, 0, 0), (3, 0, 0, 1), (12, 270, 6, 2), (0, 0, 0, 0), (0, 0, 0, 0), (3, 0, 0, 1), (12, 268, 6, 0), (0, 0, 0, 0), (0, 0, 0, 0), (2, 0, 1, 1), (2, 0, 2, 1), (28, 403, 36, 4), (0, 0, 0, 0), (0, 0, 0, 0), (4, 0, 4, 2), (0, 0, 0, 0), (2, 0, 4, 2), (0, 0, 0, 0), (1, 268435456, 2, 415), (0, 0, 0, 0), (10, 0, 1, 48), (0, 0, 0, 0), (0, 0, 0, 0), (1, (-1), 1, 0), (29, 0, 0, 0), (2, 0, 3, 1), (32, 0, 94, 27), (0, 0, 0, 0), (0, 0, 0, 0), (0, 0, 0, 0), (0, 0, 0, 0), (0, 0, 0, 0), (0, 0, 0, 0), (0, 0, 0, 0), (0, 0, 0, 0), (0, 0, 0, 0), (0, 0, 0, 0), (0, 0, 0, 0), (0, 0, 0, 0), (0, 0, 0, 0), (0, 0, 0, 0), (0, 0, 0, 0), (0, 0, 0, 0), (0, 0, 0, 0), (0, 0, 0, 0), (0, 0, 0, 0), (0, 0, 0, 0), (0, 0, 0, 0), (0, 0, 0, 0), (0, 0, 0, 0), (0, 0, 0, 0), (0, 0, 0, 0), (0, 0, 0, 0), (2, 0, 4, 2), (0, 0, 0, 0), (28, 416, 39, 1), (0, 0, 0, 0), (0, 0, 0, 0), (29, 0, 0, 0), (2, 0, 4, 2), (0, 0, 0, 0), (28, 419, 40, 1), (0, 0, 0, 0), (0, 0, 0, 0), (29, 0, 0, 0), (2, 0, 4, 2), (0, 0, 0, 0), (28, 422, 41, 1), (0, 0, 0, 0), (0, 0, 0, 0), (29, 0, 0, 0), (1, (-1), 1, 0), (29, 0, 0, 0)]
/-- ReedBench$Works.slotKey(LReedBench$State;II)I -/
def xk_36 : List xI := [(3, 0, 1, 1), (2, 0, 2, 1), (2, 0, 3, 1), (3, 0, 0, 1), (12, 209, 5, 1), (0, 0, 0, 0), (0, 0, 0, 0), (28, 407, 37, 4), (0, 0, 0, 0), (0, 0, 0, 0), (1, 268435456, 2, 410), (0, 0, 0, 0), (4, 0, 4, 2), (0, 0, 0, 0), (1, 0, 1, 0), (4, 0, 5, 2), (0, 0, 0, 0), (2, 0, 5, 2), (0, 0, 0, 0), (1, 2, 1, 0), (3, 0, 1, 1), (12, 160, 4, 6), (0, 0, 0, 0), (0, 0, 0, 0), (7, 0, 2, 0), (10, 0, 4, 48), (0, 0, 0, 0), (0, 0, 0, 0), (2, 0, 4, 2), (0, 0, 0, 0), (3, 0, 0, 1), (12, 209, 5, 1), (0, 0, 0, 0), (0, 0, 0, 0), (2, 0, 5, 2), (0, 0, 0, 0), (14, 0, 0, 0), (33, 414, 0, 0), (0, 0, 0, 0), (0, 0, 0, 0), (4, 0, 4, 2), (0, 0, 0, 0), (6, 1, 5, 0), (0, 0, 0, 0), (0, 0, 0, 0), (11, 0, 0, 17), (0, 0, 0, 0), (0, 0, 0, 0), (2, 0, 4, 2), (0, 0, 0, 0), (29, 0, 0, 0)]
/-- ReedBench$Works.fillNear(LReedBench$State;II[I)V -/
def xk_37 : List xI := [(3, 0, 0, 1), (12, 141, 4, 0), (0, 0, 0, 0), (0, 0, 0, 0), (2, 0, 1, 1), (16, 0, 0, 0), (5, 0, 4, 2), (0, 0, 0, 0), (3, 0, 0, 1), (12, 144, 4, 1), (0, 0, 0, 0), (0, 0, 0, 0), (2, 0, 2, 1), (14, 0, 0, 0), (3, 0, 0, 1), (12, 160, 4, 6), (0, 0, 0, 0), (0, 0, 0, 0), (7, 0, 1, 0), (4, 0, 5, 2), (0, 0, 0, 0), (1, 2, 1, 0), (3, 0, 0, 1), (12, 160, 4, 6), (0, 0, 0, 0), (0, 0, 0, 0), (7, 0, 2, 0), (4, 0, 6, 2), (0, 0, 0, 0), (1, 0, 1, 0), (4, 0, 7, 2), (0, 0, 0, 0), (2, 0, 7, 2), (0, 0, 0, 0), (2, 0, 6, 2), (0, 0, 0, 0), (10, 0, 4, 51), (0, 0, 0, 0), (0, 0, 0, 0), (3, 0, 3, 1), (2, 0, 7, 2), (0, 0, 0, 0), (1, 268435456, 2, 410), (0, 0, 0, 0), (15, 0, 0, 0), (6, 1, 7, 0), (0, 0, 0, 0), (0, 0, 0, 0), (11, 0, 0, 32), (0, 0, 0, 0), (0, 0, 0, 0), (1, 0, 1, 0), (4, 0, 7, 2), (0, 0, 0, 0), (2, 0, 7, 2), (0, 0, 0, 0), (3, 0, 4, 2), (0, 0, 0, 0), (12, 109, 3, 2), (0, 0, 0, 0), (0, 0, 0, 0), (10, 0, 4, 150), (0, 0, 0, 0), (0, 0, 0, 0), (3, 0, 4, 2), (0, 0, 0, 0), (12, 103, 3, 0), (0, 0, 0, 0), (0, 0, 0, 0), (2, 0, 7, 2), (0, 0, 0, 0), (3, 0, 0, 1), (12, 157, 4, 5), (0, 0, 0, 0), (0, 0, 0, 0), (7, 0, 2, 0), (7, 0, 0, 0), (2, 0, 5, 2), (0, 0, 0, 0), (7, 0, 1, 0), (4, 0, 8, 2), (0, 0, 0, 0), (1, 0, 1, 0), (4, 0, 9, 2), (0, 0, 0, 0), (2, 0, 9, 2), (0, 0, 0, 0), (3, 0, 4, 2), (0, 0, 0, 0), (12, 106, 3, 1), (0, 0, 0, 0), (0, 0, 0, 0), (10, 0, 3, 144), (0, 0, 0, 0), (0, 0, 0, 0), (2, 0, 8, 2), (0, 0, 0, 0), (9, 0, 2, 144), (0, 0, 0, 0), (0, 0, 0, 0), (2, 0, 8, 2), (0, 0, 0, 0), (2, 0, 6, 2), (0, 0, 0, 0), (10, 0, 4, 125), (0, 0, 0, 0), (0, 0, 0, 0), (3, 0, 3, 1), (2, 0, 8, 2), (0, 0, 0, 0), (3, 0, 3, 1), (2, 0, 8, 2), (0, 0, 0, 0), (14, 0, 0, 0), (2, 0, 7, 2), (0, 0, 0, 0), (2, 0, 9, 2), (0, 0, 0, 0), (28, 411, 38, 2), (0, 0, 0, 0), (0, 0, 0, 0), (33, 414, 0, 0), (0, 0, 0, 0), (0, 0, 0, 0), (15, 0, 0, 0), (2, 0, 8, 2), (0, 0, 0, 0), (3, 0, 4, 2), (0, 0, 0, 0), (12, 106, 3, 1), (0, 0, 0, 0), (0, 0, 0, 0), (2, 0, 9, 2), (0, 0, 0, 0), (7, 0, 1, 0), (7, 0, 1, 0), (4, 0, 8, 2), (0, 0, 0, 0), (6, 1, 9, 0), (0, 0, 0, 0), (0, 0, 0, 0), (11, 0, 0, 85), (0, 0, 0, 0), (0, 0, 0, 0), (6, 1, 7, 0), (0, 0, 0, 0), (0, 0, 0, 0), (11, 0, 0, 54), (0, 0, 0, 0), (0, 0, 0, 0), (30, 0, 0, 0)]
/-- ReedBench$Works.keyOf(II)I -/
def xk_38 : List xI := [(2, 0, 0, 1), (2, 0, 1, 1), (7, 0, 0, 0), (1, 32, 2, 0), (0, 0, 0, 0), (7, 0, 2, 0), (2, 0, 0, 1), (7, 0, 0, 0), (29, 0, 0, 0)]
/-- ReedBench$Works.strokesOf(I)I -/
def xk_39 : List xI := [(2, 0, 0, 1), (1, 32, 2, 0), (0, 0, 0, 0), (7, 0, 3, 0), (29, 0, 0, 0)]
/-- ReedBench$Works.tipOf(I)I -/
def xk_40 : List xI := [(2, 0, 0, 1), (1, 32, 2, 0), (0, 0, 0, 0), (7, 0, 4, 0), (29, 0, 0, 0)]
/-- ReedBench$Works.rootOf(I)I -/
def xk_41 : List xI := [(2, 0, 0, 1), (28, 425, 39, 1), (0, 0, 0, 0), (0, 0, 0, 0), (2, 0, 0, 1), (28, 426, 40, 1), (0, 0, 0, 0), (0, 0, 0, 0), (7, 0, 1, 0), (29, 0, 0, 0)]
/-- ReedBench.pairWork(IIII)I -/
def xk_42 : List xI := [(3, 0, 0, 1), (12, 268, 6, 0), (0, 0, 0, 0), (0, 0, 0, 0), (2, 0, 1, 1), (28, 397, 19, 2), (0, 0, 0, 0), (0, 0, 0, 0), (9, 0, 0, 38), (0, 0, 0, 0), (0, 0, 0, 0), (3, 0, 0, 1), (12, 268, 6, 0), (0, 0, 0, 0), (0, 0, 0, 0), (2, 0, 2, 1), (28, 397, 19, 2), (0, 0, 0, 0), (0, 0, 0, 0), (9, 0, 0, 38), (0, 0, 0, 0), (0, 0, 0, 0), (2, 0, 1, 1), (2, 0, 2, 1), (10, 0, 0, 38), (0, 0, 0, 0), (0, 0, 0, 0), (3, 0, 0, 1), (12, 268, 6, 0), (0, 0, 0, 0), (0, 0, 0, 0), (2, 0, 3, 1), (28, 431, 43, 2), (0, 0, 0, 0), (0, 0, 0, 0), (9, 0, 1, 40), (0, 0, 0, 0), (0, 0, 0, 0), (1, (-1), 1, 0), (29, 0, 0, 0), (3, 0, 0, 1), (12, 270, 6, 2), (0, 0, 0, 0), (0, 0, 0, 0), (3, 0, 0, 1), (12, 268, 6, 0), (0, 0, 0, 0), (0, 0, 0, 0), (2, 0, 1, 1), (2, 0, 2, 1), (2, 0, 3, 1), (28, 435, 44, 5), (0, 0, 0, 0), (0, 0, 0, 0), (4, 0, 5, 2), (0, 0, 0, 0), (2, 0, 5, 2), (0, 0, 0, 0), (1, 268435456, 2, 415), (0, 0, 0, 0), (10, 0, 1, 65), (0, 0, 0, 0), (0, 0, 0, 0), (1, (-1), 1, 0), (29, 0, 0, 0), (2, 0, 4, 2), (0, 0, 0, 0), (32, 0, 130, 33), (0, 0, 0, 0), (0, 0, 0, 0), (0, 0, 0, 0), (0, 0, 0, 0), (0, 0, 0, 0), (0, 0, 0, 0), (0, 0, 0, 0), (0, 0, 0, 0), (0, 0, 0, 0), (0, 0, 0, 0), (0, 0, 0, 0), (0, 0, 0, 0), (0, 0, 0, 0), (0, 0, 0, 0), (0, 0, 0, 0), (0, 0, 0, 0), (0, 0, 0, 0), (0, 0, 0, 0), (0, 0, 0, 0), (0, 0, 0, 0), (0, 0, 0, 0), (0, 0, 0, 0), (0, 0, 0, 0), (0, 0, 0, 0), (0, 0, 0, 0), (0, 0, 0, 0), (0, 0, 0, 0), (0, 0, 0, 0), (0, 0, 0, 0), (0, 0, 0, 0), (0, 0, 0, 0), (0, 0, 0, 0), (2, 0, 5, 2), (0, 0, 0, 0), (28, 462, 51, 1), (0, 0, 0, 0), (0, 0, 0, 0), (29, 0, 0, 0), (2, 0, 5, 2), (0, 0, 0, 0), (28, 465, 52, 1), (0, 0, 0, 0), (0, 0, 0, 0), (29, 0, 0, 0), (2, 0, 5, 2), (0, 0, 0, 0), (28, 468, 53, 1), (0, 0, 0, 0), (0, 0, 0, 0), (29, 0, 0, 0), (2, 0, 5, 2), (0, 0, 0, 0), (28, 471, 54, 1), (0, 0, 0, 0), (0, 0, 0, 0), (29, 0, 0, 0), (2, 0, 5, 2), (0, 0, 0, 0), (28, 474, 55, 1), (0, 0, 0, 0), (0, 0, 0, 0), (29, 0, 0, 0), (1, (-1), 1, 0), (29, 0, 0, 0)]
/-- ReedBench$State.isWantedPair(I)Z -/
def xk_43 : List xI := [(2, 0, 1, 1), (9, 0, 2, 35), (0, 0, 0, 0), (0, 0, 0, 0), (2, 0, 1, 1), (1, 4, 1, 0), (10, 0, 3, 35), (0, 0, 0, 0), (0, 0, 0, 0), (3, 0, 0, 1), (1, 2, 1, 0), (2, 0, 1, 1), (7, 0, 2, 0), (28, 389, 33, 2), (0, 0, 0, 0), (0, 0, 0, 0), (9, 0, 0, 35), (0, 0, 0, 0), (0, 0, 0, 0), (3, 0, 0, 1), (1, 2, 1, 0), (2, 0, 1, 1), (7, 0, 2, 0), (1, 1, 1, 0), (7, 0, 0, 0), (28, 389, 33, 2), (0, 0, 0, 0), (0, 0, 0, 0), (9, 0, 0, 35), (0, 0, 0, 0), (0, 0, 0, 0), (1, 1, 1, 0), (11, 0, 0, 36), (0, 0, 0, 0), (0, 0, 0, 0), (1, 0, 1, 0), (29, 0, 0, 0)]
/-- ReedBench$Works.pairKey(LReedBench$State;III)I -/
def xk_44 : List xI := [(3, 0, 0, 1), (3, 0, 1, 1), (2, 0, 2, 1), (2, 0, 4, 2), (0, 0, 0, 0), (28, 439, 45, 4), (0, 0, 0, 0), (0, 0, 0, 0), (3, 0, 0, 1), (3, 0, 1, 1), (2, 0, 3, 1), (2, 0, 4, 2), (0, 0, 0, 0), (28, 443, 46, 4), (0, 0, 0, 0), (0, 0, 0, 0), (3, 0, 0, 1), (3, 0, 1, 1), (2, 0, 2, 1), (28, 454, 49, 3), (0, 0, 0, 0), (0, 0, 0, 0), (29, 0, 0, 0)]
/-- ReedBench$Works.fillFirst(LReedBench$State;II)V -/
def xk_45 : List xI := [(3, 0, 1, 1), (2, 0, 2, 1), (1, 2, 1, 0), (2, 0, 3, 1), (7, 0, 2, 0), (3, 0, 0, 1), (12, 208, 5, 0), (0, 0, 0, 0), (0, 0, 0, 0), (2, 0, 2, 1), (16, 0, 0, 0), (28, 407, 37, 4), (0, 0, 0, 0), (0, 0, 0, 0), (30, 0, 0, 0)]
/-- ReedBench$Works.fillPartner(LReedBench$State;II)V -/
def xk_46 : List xI := [(3, 0, 1, 1), (2, 0, 2, 1), (1, 2, 1, 0), (2, 0, 3, 1), (7, 0, 2, 0), (1, 1, 1, 0), (7, 0, 0, 0), (3, 0, 0, 1), (12, 209, 5, 1), (0, 0, 0, 0), (0, 0, 0, 0), (28, 407, 37, 4), (0, 0, 0, 0), (0, 0, 0, 0), (1, 2, 1, 0), (3, 0, 1, 1), (12, 160, 4, 6), (0, 0, 0, 0), (0, 0, 0, 0), (7, 0, 2, 0), (4, 0, 4, 2), (0, 0, 0, 0), (3, 0, 1, 1), (12, 144, 4, 1), (0, 0, 0, 0), (0, 0, 0, 0), (1, 2, 1, 0), (2, 0, 3, 1), (7, 0, 2, 0), (1, 1, 1, 0), (7, 0, 0, 0), (14, 0, 0, 0), (3, 0, 1, 1), (12, 144, 4, 1), (0, 0, 0, 0), (0, 0, 0, 0), (1, 2, 1, 0), (2, 0, 3, 1), (7, 0, 2, 0), (14, 0, 0, 0), (7, 0, 1, 0), (4, 0, 5, 2), (0, 0, 0, 0), (3, 0, 1, 1), (2, 0, 3, 1), (28, 447, 29, 2), (0, 0, 0, 0), (0, 0, 0, 0), (4, 0, 6, 2), (0, 0, 0, 0), (1, (-1), 1, 0), (4, 0, 7, 2), (0, 0, 0, 0), (1, 0, 1, 0), (4, 0, 8, 2), (0, 0, 0, 0), (2, 0, 8, 2), (0, 0, 0, 0), (2, 0, 4, 2), (0, 0, 0, 0), (10, 0, 4, 165), (0, 0, 0, 0), (0, 0, 0, 0), (2, 0, 6, 2), (0, 0, 0, 0), (9, 0, 0, 87), (0, 0, 0, 0), (0, 0, 0, 0), (1, 0, 1, 0), (2, 0, 8, 2), (0, 0, 0, 0), (3, 0, 1, 1), (12, 148, 4, 2), (0, 0, 0, 0), (0, 0, 0, 0), (2, 0, 3, 1), (14, 0, 0, 0), (7, 0, 0, 0), (2, 0, 5, 2), (0, 0, 0, 0), (7, 0, 1, 0), (34, 448, 0, 0), (0, 0, 0, 0), (0, 0, 0, 0), (11, 0, 0, 88), (0, 0, 0, 0), (0, 0, 0, 0), (1, 0, 1, 0), (4, 0, 9, 2), (0, 0, 0, 0), (2, 0, 6, 2), (0, 0, 0, 0), (9, 0, 0, 115), (0, 0, 0, 0), (0, 0, 0, 0), (2, 0, 4, 2), (0, 0, 0, 0), (2, 0, 8, 2), (0, 0, 0, 0), (3, 0, 1, 1), (12, 151, 4, 3), (0, 0, 0, 0), (0, 0, 0, 0), (2, 0, 3, 1), (14, 0, 0, 0), (7, 0, 0, 0), (2, 0, 5, 2), (0, 0, 0, 0), (7, 0, 1, 0), (33, 414, 0, 0), (0, 0, 0, 0), (0, 0, 0, 0), (11, 0, 0, 117), (0, 0, 0, 0), (0, 0, 0, 0), (2, 0, 4, 2), (0, 0, 0, 0), (4, 0, 10, 2), (0, 0, 0, 0), (3, 0, 0, 1), (12, 209, 5, 1), (0, 0, 0, 0), (0, 0, 0, 0), (2, 0, 9, 2), (0, 0, 0, 0), (2, 0, 10, 2), (0, 0, 0, 0), (2, 0, 7, 2), (0, 0, 0, 0), (28, 451, 48, 4), (0, 0, 0, 0), (0, 0, 0, 0), (4, 0, 7, 2), (0, 0, 0, 0), (3, 0, 0, 1), (12, 210, 5, 2), (0, 0, 0, 0), (0, 0, 0, 0), (2, 0, 8, 2), (0, 0, 0, 0), (2, 0, 7, 2), (0, 0, 0, 0), (1, (-1), 1, 0), (10, 0, 1, 151), (0, 0, 0, 0), (0, 0, 0, 0), (1, 268435456, 2, 410), (0, 0, 0, 0), (11, 0, 0, 158), (0, 0, 0, 0), (0, 0, 0, 0), (3, 0, 0, 1), (12, 209, 5, 1), (0, 0, 0, 0), (0, 0, 0, 0), (2, 0, 7, 2), (0, 0, 0, 0), (14, 0, 0, 0), (15, 0, 0, 0), (6, 1, 8, 0), (0, 0, 0, 0), (0, 0, 0, 0), (11, 0, 0, 56), (0, 0, 0, 0), (0, 0, 0, 0), (30, 0, 0, 0)]
/-- java/lang/Math.max(II)I -/
def xk_47 : List xI := [(2, 0, 0, 1), (2, 0, 1, 1), (10, 0, 2, 9), (0, 0, 0, 0), (0, 0, 0, 0), (2, 0, 0, 1), (11, 0, 0, 10), (0, 0, 0, 0), (0, 0, 0, 0), (2, 0, 1, 1), (29, 0, 0, 0)]
/-- ReedBench$Works.leastPlace([IIII)I -/
def xk_48 : List xI := [(2, 0, 3, 1), (2, 0, 1, 1), (10, 0, 2, 9), (0, 0, 0, 0), (0, 0, 0, 0), (1, 1, 1, 0), (11, 0, 0, 10), (0, 0, 0, 0), (0, 0, 0, 0), (1, 0, 1, 0), (4, 0, 4, 2), (0, 0, 0, 0), (2, 0, 4, 2), (0, 0, 0, 0), (9, 0, 0, 21), (0, 0, 0, 0), (0, 0, 0, 0), (2, 0, 3, 1), (11, 0, 0, 22), (0, 0, 0, 0), (0, 0, 0, 0), (1, (-1), 1, 0), (4, 0, 5, 2), (0, 0, 0, 0), (2, 0, 4, 2), (0, 0, 0, 0), (9, 0, 0, 33), (0, 0, 0, 0), (0, 0, 0, 0), (2, 0, 2, 1), (11, 0, 0, 34), (0, 0, 0, 0), (0, 0, 0, 0), (2, 0, 1, 1), (4, 0, 6, 2), (0, 0, 0, 0), (2, 0, 6, 2), (0, 0, 0, 0), (2, 0, 2, 1), (10, 0, 4, 69), (0, 0, 0, 0), (0, 0, 0, 0), (2, 0, 5, 2), (0, 0, 0, 0), (1, (-1), 1, 0), (10, 0, 0, 59), (0, 0, 0, 0), (0, 0, 0, 0), (3, 0, 0, 1), (2, 0, 6, 2), (0, 0, 0, 0), (14, 0, 0, 0), (3, 0, 0, 1), (2, 0, 5, 2), (0, 0, 0, 0), (14, 0, 0, 0), (10, 0, 4, 63), (0, 0, 0, 0), (0, 0, 0, 0), (2, 0, 6, 2), (0, 0, 0, 0), (4, 0, 5, 2), (0, 0, 0, 0), (6, 1, 6, 0), (0, 0, 0, 0), (0, 0, 0, 0), (11, 0, 0, 36), (0, 0, 0, 0), (0, 0, 0, 0), (2, 0, 5, 2), (0, 0, 0, 0), (29, 0, 0, 0)]
/-- ReedBench$Works.joinWithPartner(LReedBench$State;I)I -/
def xk_49 : List xI := [(1, 268435456, 2, 410), (0, 0, 0, 0), (4, 0, 3, 1), (1, 0, 1, 0), (4, 0, 4, 2), (0, 0, 0, 0), (2, 0, 4, 2), (0, 0, 0, 0), (1, 2, 1, 0), (3, 0, 1, 1), (12, 160, 4, 6), (0, 0, 0, 0), (0, 0, 0, 0), (7, 0, 2, 0), (10, 0, 4, 73), (0, 0, 0, 0), (0, 0, 0, 0), (3, 0, 0, 1), (12, 208, 5, 0), (0, 0, 0, 0), (0, 0, 0, 0), (2, 0, 2, 1), (16, 0, 0, 0), (2, 0, 4, 2), (0, 0, 0, 0), (14, 0, 0, 0), (1, 268435456, 2, 410), (0, 0, 0, 0), (10, 0, 0, 67), (0, 0, 0, 0), (0, 0, 0, 0), (3, 0, 0, 1), (12, 210, 5, 2), (0, 0, 0, 0), (0, 0, 0, 0), (2, 0, 4, 2), (0, 0, 0, 0), (14, 0, 0, 0), (1, 268435456, 2, 410), (0, 0, 0, 0), (10, 0, 0, 67), (0, 0, 0, 0), (0, 0, 0, 0), (2, 0, 3, 1), (3, 0, 0, 1), (12, 208, 5, 0), (0, 0, 0, 0), (0, 0, 0, 0), (2, 0, 2, 1), (16, 0, 0, 0), (2, 0, 4, 2), (0, 0, 0, 0), (14, 0, 0, 0), (3, 0, 0, 1), (12, 210, 5, 2), (0, 0, 0, 0), (0, 0, 0, 0), (2, 0, 4, 2), (0, 0, 0, 0), (14, 0, 0, 0), (28, 458, 50, 2), (0, 0, 0, 0), (0, 0, 0, 0), (33, 414, 0, 0), (0, 0, 0, 0), (0, 0, 0, 0), (4, 0, 3, 1), (6, 1, 4, 0), (0, 0, 0, 0), (0, 0, 0, 0), (11, 0, 0, 6), (0, 0, 0, 0), (0, 0, 0, 0), (2, 0, 3, 1), (29, 0, 0, 0)]
/-- ReedBench$Works.joinedKey(II)I -/
def xk_50 : List xI := [(2, 0, 0, 1), (28, 425, 39, 1), (0, 0, 0, 0), (0, 0, 0, 0), (2, 0, 1, 1), (28, 425, 39, 1), (0, 0, 0, 0), (0, 0, 0, 0), (7, 0, 0, 0), (4, 0, 2, 1), (2, 0, 2, 1), (1, 32, 2, 0), (0, 0, 0, 0), (7, 0, 2, 0), (2, 0, 0, 1), (28, 426, 40, 1), (0, 0, 0, 0), (0, 0, 0, 0), (7, 0, 0, 0), (4, 0, 2, 1), (2, 0, 2, 1), (1, 32, 2, 0), (0, 0, 0, 0), (7, 0, 2, 0), (2, 0, 0, 1), (28, 461, 41, 1), (0, 0, 0, 0), (0, 0, 0, 0), (7, 0, 0, 0), (4, 0, 2, 1), (2, 0, 2, 1), (1, 32, 2, 0), (0, 0, 0, 0), (7, 0, 2, 0), (2, 0, 1, 1), (28, 426, 40, 1), (0, 0, 0, 0), (0, 0, 0, 0), (7, 0, 0, 0), (29, 0, 0, 0)]
/-- ReedBench$Works.pairStrokesOf(I)I -/
def xk_51 : List xI := [(2, 0, 0, 1), (1, 15, 2, 0), (0, 0, 0, 0), (7, 0, 9, 0), (29, 0, 0, 0)]
/-- ReedBench$Works.firstTipOf(I)I -/
def xk_52 : List xI := [(2, 0, 0, 1), (1, 10, 2, 0), (0, 0, 0, 0), (7, 0, 9, 0), (1, 31, 2, 0), (0, 0, 0, 0), (7, 0, 5, 0), (29, 0, 0, 0)]
/-- ReedBench$Works.firstRootOf(I)I -/
def xk_53 : List xI := [(2, 0, 0, 1), (1, 5, 1, 0), (7, 0, 9, 0), (1, 31, 2, 0), (0, 0, 0, 0), (7, 0, 5, 0), (29, 0, 0, 0)]
/-- ReedBench$Works.otherTipOf(I)I -/
def xk_54 : List xI := [(2, 0, 0, 1), (1, 31, 2, 0), (0, 0, 0, 0), (7, 0, 5, 0), (29, 0, 0, 0)]
/-- ReedBench$Works.otherRootOf(I)I -/
def xk_55 : List xI := [(2, 0, 0, 1), (28, 477, 51, 1), (0, 0, 0, 0), (0, 0, 0, 0), (2, 0, 0, 1), (28, 478, 52, 1), (0, 0, 0, 0), (0, 0, 0, 0), (7, 0, 1, 0), (2, 0, 0, 1), (28, 479, 53, 1), (0, 0, 0, 0), (0, 0, 0, 0), (7, 0, 1, 0), (2, 0, 0, 1), (28, 480, 54, 1), (0, 0, 0, 0), (0, 0, 0, 0), (7, 0, 1, 0), (29, 0, 0, 0)]
/-- ReedBench.best(I)I -/
def xk_56 : List xI := [(3, 0, 0, 1), (12, 271, 6, 3), (0, 0, 0, 0), (0, 0, 0, 0), (3, 0, 0, 1), (12, 268, 6, 0), (0, 0, 0, 0), (0, 0, 0, 0), (3, 0, 0, 1), (12, 270, 6, 2), (0, 0, 0, 0), (0, 0, 0, 0), (28, 485, 57, 3), (0, 0, 0, 0), (0, 0, 0, 0), (2, 0, 1, 1), (9, 0, 1, 41), (0, 0, 0, 0), (0, 0, 0, 0), (3, 0, 0, 1), (12, 271, 6, 3), (0, 0, 0, 0), (0, 0, 0, 0), (28, 580, 71, 1), (0, 0, 0, 0), (0, 0, 0, 0), (9, 0, 0, 39), (0, 0, 0, 0), (0, 0, 0, 0), (3, 0, 0, 1), (12, 271, 6, 3), (0, 0, 0, 0), (0, 0, 0, 0), (12, 245, 2, 6), (0, 0, 0, 0), (0, 0, 0, 0), (11, 0, 0, 40), (0, 0, 0, 0), (0, 0, 0, 0), (1, (-1), 1, 0), (29, 0, 0, 0), (2, 0, 1, 1), (1, 10, 2, 0), (0, 0, 0, 0), (1, 17, 2, 0), (0, 0, 0, 0), (28, 285, 9, 3), (0, 0, 0, 0), (0, 0, 0, 0), (9, 0, 0, 65), (0, 0, 0, 0), (0, 0, 0, 0), (3, 0, 0, 1), (12, 271, 6, 3), (0, 0, 0, 0), (0, 0, 0, 0), (12, 242, 2, 4), (0, 0, 0, 0), (0, 0, 0, 0), (2, 0, 1, 1), (1, 10, 2, 0), (0, 0, 0, 0), (7, 0, 1, 0), (14, 0, 0, 0), (29, 0, 0, 0), (1, (-1), 1, 0), (29, 0, 0, 0)]
/-- ReedBench$Plan.settle(LReedBench$State;LReedBench$Works;)V -/
def xk_57 : List xI := [(3, 0, 0, 1), (12, 248, 2, 8), (0, 0, 0, 0), (0, 0, 0, 0), (9, 0, 0, 8), (0, 0, 0, 0), (0, 0, 0, 0), (30, 0, 0, 0), (3, 0, 0, 1), (1, 1, 1, 0), (13, 248, 2, 8), (0, 0, 0, 0), (0, 0, 0, 0), (3, 0, 0, 1), (12, 237, 2, 0), (0, 0, 0, 0), (0, 0, 0, 0), (3, 0, 1, 1), (3, 0, 2, 1), (28, 489, 58, 3), (0, 0, 0, 0), (0, 0, 0, 0), (3, 0, 0, 1), (3, 0, 1, 1), (28, 525, 64, 2), (0, 0, 0, 0), (0, 0, 0, 0), (3, 0, 0, 1), (3, 0, 1, 1), (28, 530, 65, 2), (0, 0, 0, 0), (0, 0, 0, 0), (3, 0, 0, 1), (3, 0, 0, 1), (12, 238, 2, 1), (0, 0, 0, 0), (0, 0, 0, 0), (1, 0, 1, 0), (14, 0, 0, 0), (13, 244, 2, 6), (0, 0, 0, 0), (0, 0, 0, 0), (3, 0, 0, 1), (3, 0, 0, 1), (12, 239, 2, 2), (0, 0, 0, 0), (0, 0, 0, 0), (1, 0, 1, 0), (14, 0, 0, 0), (13, 246, 2, 7), (0, 0, 0, 0), (0, 0, 0, 0), (3, 0, 0, 1), (12, 241, 2, 4), (0, 0, 0, 0), (0, 0, 0, 0), (1, (-1), 1, 0), (28, 559, 3, 2), (0, 0, 0, 0), (0, 0, 0, 0), (3, 0, 0, 1), (28, 560, 71, 1), (0, 0, 0, 0), (0, 0, 0, 0), (9, 0, 0, 72), (0, 0, 0, 0), (0, 0, 0, 0), (3, 0, 0, 1), (3, 0, 1, 1), (28, 564, 72, 2), (0, 0, 0, 0), (0, 0, 0, 0), (30, 0, 0, 0)]
/-- ReedBench$Costs.reckon(LReedBench$State;LReedBench$Works;)V -/
def xk_58 : List xI := [(3, 0, 0, 1), (12, 230, 0, 0), (0, 0, 0, 0), (0, 0, 0, 0), (1, 268435456, 2, 493), (0, 0, 0, 0), (28, 494, 3, 2), (0, 0, 0, 0), (0, 0, 0, 0), (3, 0, 0, 1), (12, 231, 0, 1), (0, 0, 0, 0), (0, 0, 0, 0), (1, 268435456, 2, 493), (0, 0, 0, 0), (28, 494, 3, 2), (0, 0, 0, 0), (0, 0, 0, 0), (1, 0, 1, 0), (4, 0, 3, 1), (2, 0, 3, 1), (1, 8, 2, 0), (0, 0, 0, 0), (10, 0, 3, 47), (0, 0, 0, 0), (0, 0, 0, 0), (3, 0, 1, 1), (2, 0, 3, 1), (28, 495, 33, 2), (0, 0, 0, 0), (0, 0, 0, 0), (9, 0, 0, 41), (0, 0, 0, 0), (0, 0, 0, 0), (3, 0, 0, 1), (3, 0, 1, 1), (3, 0, 2, 1), (2, 0, 3, 1), (28, 496, 59, 4), (0, 0, 0, 0), (0, 0, 0, 0), (6, 1, 3, 0), (0, 0, 0, 0), (0, 0, 0, 0), (11, 0, 0, 20), (0, 0, 0, 0), (0, 0, 0, 0), (1, 0, 1, 0), (4, 0, 3, 1), (2, 0, 3, 1), (1, 4, 1, 0), (10, 0, 3, 75), (0, 0, 0, 0), (0, 0, 0, 0), (3, 0, 1, 1), (2, 0, 3, 1), (28, 503, 60, 2), (0, 0, 0, 0), (0, 0, 0, 0), (9, 0, 0, 69), (0, 0, 0, 0), (0, 0, 0, 0), (3, 0, 0, 1), (3, 0, 1, 1), (3, 0, 2, 1), (2, 0, 3, 1), (28, 509, 61, 4), (0, 0, 0, 0), (0, 0, 0, 0), (6, 1, 3, 0), (0, 0, 0, 0), (0, 0, 0, 0), (11, 0, 0, 49), (0, 0, 0, 0), (0, 0, 0, 0), (30, 0, 0, 0)]
/-- ReedBench$Costs.reckonSlot(LReedBench$State;LReedBench$Works;I)V -/
def xk_59 : List xI := [(1, 0, 1, 0), (4, 0, 4, 2), (0, 0, 0, 0), (2, 0, 4, 2), (0, 0, 0, 0), (1, 12, 2, 0), (0, 0, 0, 0), (10, 0, 3, 64), (0, 0, 0, 0), (0, 0, 0, 0), (3, 0, 1, 1), (2, 0, 4, 2), (0, 0, 0, 0), (28, 500, 18, 2), (0, 0, 0, 0), (0, 0, 0, 0), (9, 0, 0, 30), (0, 0, 0, 0), (0, 0, 0, 0), (3, 0, 2, 1), (3, 0, 1, 1), (2, 0, 4, 2), (0, 0, 0, 0), (2, 0, 3, 1), (28, 501, 36, 4), (0, 0, 0, 0), (0, 0, 0, 0), (11, 0, 0, 32), (0, 0, 0, 0), (0, 0, 0, 0), (1, 268435456, 2, 493), (0, 0, 0, 0), (4, 0, 5, 2), (0, 0, 0, 0), (2, 0, 5, 2), (0, 0, 0, 0), (1, 268435456, 2, 493), (0, 0, 0, 0), (10, 0, 0, 58), (0, 0, 0, 0), (0, 0, 0, 0), (3, 0, 0, 1), (12, 230, 0, 0), (0, 0, 0, 0), (0, 0, 0, 0), (2, 0, 3, 1), (1, 12, 2, 0), (0, 0, 0, 0), (7, 0, 2, 0), (2, 0, 4, 2), (0, 0, 0, 0), (7, 0, 0, 0), (2, 0, 5, 2), (0, 0, 0, 0), (28, 502, 39, 1), (0, 0, 0, 0), (0, 0, 0, 0), (15, 0, 0, 0), (6, 1, 4, 0), (0, 0, 0, 0), (0, 0, 0, 0), (11, 0, 0, 3), (0, 0, 0, 0), (0, 0, 0, 0), (30, 0, 0, 0)]
/-- ReedBench$State.mustBeat(I)Z -/
def xk_60 : List xI := [(3, 0, 0, 1), (2, 0, 1, 1), (28, 507, 29, 2), (0, 0, 0, 0), (0, 0, 0, 0), (9, 0, 0, 20), (0, 0, 0, 0), (0, 0, 0, 0), (3, 0, 0, 1), (2, 0, 1, 1), (28, 508, 43, 2), (0, 0, 0, 0), (0, 0, 0, 0), (9, 0, 0, 20), (0, 0, 0, 0), (0, 0, 0, 0), (1, 1, 1, 0), (11, 0, 0, 21), (0, 0, 0, 0), (0, 0, 0, 0), (1, 0, 1, 0), (29, 0, 0, 0)]
/-- ReedBench$Costs.reckonPair(LReedBench$State;LReedBench$Works;I)V -/
def xk_61 : List xI := [(1, 0, 1, 0), (4, 0, 4, 2), (0, 0, 0, 0), (2, 0, 4, 2), (0, 0, 0, 0), (1, 12, 2, 0), (0, 0, 0, 0), (10, 0, 3, 38), (0, 0, 0, 0), (0, 0, 0, 0), (3, 0, 0, 1), (1, 2, 1, 0), (2, 0, 3, 1), (7, 0, 2, 0), (2, 0, 4, 2), (0, 0, 0, 0), (28, 513, 62, 3), (0, 0, 0, 0), (0, 0, 0, 0), (1, 268435456, 2, 493), (0, 0, 0, 0), (10, 0, 0, 32), (0, 0, 0, 0), (0, 0, 0, 0), (3, 0, 2, 1), (3, 0, 1, 1), (2, 0, 4, 2), (0, 0, 0, 0), (2, 0, 3, 1), (28, 517, 45, 4), (0, 0, 0, 0), (0, 0, 0, 0), (6, 1, 4, 0), (0, 0, 0, 0), (0, 0, 0, 0), (11, 0, 0, 3), (0, 0, 0, 0), (0, 0, 0, 0), (1, 0, 1, 0), (4, 0, 4, 2), (0, 0, 0, 0), (2, 0, 4, 2), (0, 0, 0, 0), (1, 12, 2, 0), (0, 0, 0, 0), (10, 0, 3, 87), (0, 0, 0, 0), (0, 0, 0, 0), (3, 0, 0, 1), (1, 2, 1, 0), (2, 0, 3, 1), (7, 0, 2, 0), (1, 1, 1, 0), (7, 0, 0, 0), (2, 0, 4, 2), (0, 0, 0, 0), (28, 513, 62, 3), (0, 0, 0, 0), (0, 0, 0, 0), (1, 268435456, 2, 493), (0, 0, 0, 0), (10, 0, 0, 81), (0, 0, 0, 0), (0, 0, 0, 0), (3, 0, 2, 1), (3, 0, 1, 1), (2, 0, 4, 2), (0, 0, 0, 0), (2, 0, 3, 1), (28, 518, 46, 4), (0, 0, 0, 0), (0, 0, 0, 0), (3, 0, 0, 1), (3, 0, 1, 1), (3, 0, 2, 1), (2, 0, 3, 1), (2, 0, 4, 2), (0, 0, 0, 0), (28, 519, 63, 5), (0, 0, 0, 0), (0, 0, 0, 0), (6, 1, 4, 0), (0, 0, 0, 0), (0, 0, 0, 0), (11, 0, 0, 41), (0, 0, 0, 0), (0, 0, 0, 0), (30, 0, 0, 0)]
/-- ReedBench$Costs.ofSlot(II)I -/
def xk_62 : List xI := [(3, 0, 0, 1), (12, 230, 0, 0), (0, 0, 0, 0), (0, 0, 0, 0), (2, 0, 1, 1), (1, 12, 2, 0), (0, 0, 0, 0), (7, 0, 2, 0), (2, 0, 2, 1), (7, 0, 0, 0), (14, 0, 0, 0), (29, 0, 0, 0)]
/-- ReedBench$Costs.reckonPartner(LReedBench$State;LReedBench$Works;II)V -/
def xk_63 : List xI := [(1, 0, 1, 0), (4, 0, 5, 2), (0, 0, 0, 0), (2, 0, 5, 2), (0, 0, 0, 0), (1, 12, 2, 0), (0, 0, 0, 0), (10, 0, 3, 81), (0, 0, 0, 0), (0, 0, 0, 0), (2, 0, 5, 2), (0, 0, 0, 0), (2, 0, 4, 2), (0, 0, 0, 0), (10, 0, 0, 41), (0, 0, 0, 0), (0, 0, 0, 0), (3, 0, 0, 1), (1, 2, 1, 0), (2, 0, 3, 1), (7, 0, 2, 0), (2, 0, 5, 2), (0, 0, 0, 0), (28, 513, 62, 3), (0, 0, 0, 0), (0, 0, 0, 0), (1, 268435456, 2, 493), (0, 0, 0, 0), (10, 0, 0, 41), (0, 0, 0, 0), (0, 0, 0, 0), (3, 0, 2, 1), (3, 0, 1, 1), (2, 0, 5, 2), (0, 0, 0, 0), (28, 523, 49, 3), (0, 0, 0, 0), (0, 0, 0, 0), (11, 0, 0, 43), (0, 0, 0, 0), (0, 0, 0, 0), (1, 268435456, 2, 493), (0, 0, 0, 0), (4, 0, 6, 2), (0, 0, 0, 0), (2, 0, 6, 2), (0, 0, 0, 0), (1, 268435456, 2, 493), (0, 0, 0, 0), (10, 0, 0, 75), (0, 0, 0, 0), (0, 0, 0, 0), (3, 0, 0, 1), (12, 231, 0, 1), (0, 0, 0, 0), (0, 0, 0, 0), (2, 0, 3, 1), (1, 12, 2, 0), (0, 0, 0, 0), (7, 0, 2, 0), (2, 0, 5, 2), (0, 0, 0, 0), (7, 0, 0, 0), (1, 12, 2, 0), (0, 0, 0, 0), (7, 0, 2, 0), (2, 0, 4, 2), (0, 0, 0, 0), (7, 0, 0, 0), (2, 0, 6, 2), (0, 0, 0, 0), (28, 524, 51, 1), (0, 0, 0, 0), (0, 0, 0, 0), (15, 0, 0, 0), (6, 1, 5, 0), (0, 0, 0, 0), (0, 0, 0, 0), (11, 0, 0, 3), (0, 0, 0, 0), (0, 0, 0, 0), (30, 0, 0, 0)]
/-- ReedBench$Plan.putInOrder(LReedBench$State;)V -/
def xk_64 : List xI := [(3, 0, 0, 1), (1, 0, 1, 0), (13, 243, 2, 5), (0, 0, 0, 0), (0, 0, 0, 0), (1, 0, 1, 0), (4, 0, 2, 1), (2, 0, 2, 1), (1, 8, 2, 0), (0, 0, 0, 0), (10, 0, 3, 47), (0, 0, 0, 0), (0, 0, 0, 0), (3, 0, 1, 1), (2, 0, 2, 1), (28, 529, 33, 2), (0, 0, 0, 0), (0, 0, 0, 0), (9, 0, 0, 41), (0, 0, 0, 0), (0, 0, 0, 0), (3, 0, 0, 1), (12, 240, 2, 3), (0, 0, 0, 0), (0, 0, 0, 0), (3, 0, 0, 1), (12, 243, 2, 5), (0, 0, 0, 0), (0, 0, 0, 0), (2, 0, 2, 1), (15, 0, 0, 0), (3, 0, 0, 1), (23, 0, 0, 0), (12, 243, 2, 5), (0, 0, 0, 0), (0, 0, 0, 0), (1, 1, 1, 0), (7, 0, 0, 0), (13, 243, 2, 5), (0, 0, 0, 0), (0, 0, 0, 0), (6, 1, 2, 0), (0, 0, 0, 0), (0, 0, 0, 0), (11, 0, 0, 7), (0, 0, 0, 0), (0, 0, 0, 0), (30, 0, 0, 0)]
/-- ReedBench$Plan.fillRows(LReedBench$State;)V -/
def xk_65 : List xI := [(3, 0, 1, 1), (28, 534, 30, 1), (0, 0, 0, 0), (0, 0, 0, 0), (4, 0, 2, 1), (2, 0, 2, 1), (4, 0, 3, 1), (2, 0, 3, 1), (9, 0, 2, 108), (0, 0, 0, 0), (0, 0, 0, 0), (2, 0, 3, 1), (28, 535, 31, 1), (0, 0, 0, 0), (0, 0, 0, 0), (4, 0, 4, 2), (0, 0, 0, 0), (2, 0, 3, 1), (2, 0, 2, 1), (1, (-1), 1, 0), (7, 0, 7, 0), (7, 0, 5, 0), (9, 0, 1, 102), (0, 0, 0, 0), (0, 0, 0, 0), (2, 0, 4, 2), (0, 0, 0, 0), (3, 0, 0, 1), (12, 243, 2, 5), (0, 0, 0, 0), (0, 0, 0, 0), (10, 0, 4, 102), (0, 0, 0, 0), (0, 0, 0, 0), (3, 0, 0, 1), (12, 238, 2, 1), (0, 0, 0, 0), (0, 0, 0, 0), (2, 0, 3, 1), (2, 0, 4, 2), (0, 0, 0, 0), (3, 0, 0, 1), (12, 243, 2, 5), (0, 0, 0, 0), (0, 0, 0, 0), (10, 0, 1, 52), (0, 0, 0, 0), (0, 0, 0, 0), (1, 0, 1, 0), (11, 0, 0, 54), (0, 0, 0, 0), (0, 0, 0, 0), (1, 268435456, 2, 536), (0, 0, 0, 0), (15, 0, 0, 0), (3, 0, 0, 1), (12, 239, 2, 2), (0, 0, 0, 0), (0, 0, 0, 0), (2, 0, 3, 1), (2, 0, 4, 2), (0, 0, 0, 0), (3, 0, 0, 1), (12, 243, 2, 5), (0, 0, 0, 0), (0, 0, 0, 0), (10, 0, 1, 73), (0, 0, 0, 0), (0, 0, 0, 0), (1, 1, 1, 0), (11, 0, 0, 74), (0, 0, 0, 0), (0, 0, 0, 0), (1, 0, 1, 0), (15, 0, 0, 0), (2, 0, 4, 2), (0, 0, 0, 0), (3, 0, 0, 1), (12, 243, 2, 5), (0, 0, 0, 0), (0, 0, 0, 0), (10, 0, 3, 102), (0, 0, 0, 0), (0, 0, 0, 0), (3, 0, 0, 1), (3, 0, 1, 1), (2, 0, 3, 1), (2, 0, 2, 1), (2, 0, 3, 1), (1, (-1), 1, 0), (7, 0, 7, 0), (7, 0, 5, 0), (3, 0, 0, 1), (12, 240, 2, 3), (0, 0, 0, 0), (0, 0, 0, 0), (2, 0, 4, 2), (0, 0, 0, 0), (14, 0, 0, 0), (28, 537, 66, 5), (0, 0, 0, 0), (0, 0, 0, 0), (6, (-1), 3, 0), (0, 0, 0, 0), (0, 0, 0, 0), (11, 0, 0, 7), (0, 0, 0, 0), (0, 0, 0, 0), (30, 0, 0, 0)]
/-- ReedBench$Plan.fillNext(LReedBench$State;III)V -/
def xk_66 : List xI := [(3, 0, 1, 1), (2, 0, 4, 2), (0, 0, 0, 0), (1, 2, 1, 0), (7, 0, 3, 0), (28, 541, 60, 2), (0, 0, 0, 0), (0, 0, 0, 0), (9, 0, 1, 22), (0, 0, 0, 0), (0, 0, 0, 0), (3, 0, 0, 1), (2, 0, 2, 1), (2, 0, 3, 1), (2, 0, 4, 2), (0, 0, 0, 0), (28, 542, 67, 4), (0, 0, 0, 0), (0, 0, 0, 0), (11, 0, 0, 39), (0, 0, 0, 0), (0, 0, 0, 0), (2, 0, 4, 2), (0, 0, 0, 0), (1, 2, 1, 0), (7, 0, 4, 0), (9, 0, 1, 39), (0, 0, 0, 0), (0, 0, 0, 0), (3, 0, 0, 1), (2, 0, 2, 1), (2, 0, 3, 1), (2, 0, 4, 2), (0, 0, 0, 0), (1, 2, 1, 0), (7, 0, 3, 0), (28, 551, 69, 4), (0, 0, 0, 0), (0, 0, 0, 0), (30, 0, 0, 0)]
/-- ReedBench$Plan.fillBySlot(III)V -/
def xk_67 : List xI := [(1, 0, 1, 0), (4, 0, 4, 2), (0, 0, 0, 0), (2, 0, 4, 2), (0, 0, 0, 0), (1, 12, 2, 0), (0, 0, 0, 0), (10, 0, 3, 62), (0, 0, 0, 0), (0, 0, 0, 0), (2, 0, 2, 1), (2, 0, 4, 2), (0, 0, 0, 0), (7, 0, 9, 0), (1, 1, 1, 0), (7, 0, 5, 0), (1, 1, 1, 0), (10, 0, 1, 56), (0, 0, 0, 0), (0, 0, 0, 0), (3, 0, 0, 1), (12, 237, 2, 0), (0, 0, 0, 0), (0, 0, 0, 0), (2, 0, 3, 1), (2, 0, 4, 2), (0, 0, 0, 0), (28, 546, 62, 3), (0, 0, 0, 0), (0, 0, 0, 0), (1, 268435456, 2, 536), (0, 0, 0, 0), (10, 0, 0, 56), (0, 0, 0, 0), (0, 0, 0, 0), (3, 0, 0, 1), (2, 0, 1, 1), (2, 0, 1, 1), (1, 1, 1, 0), (2, 0, 4, 2), (0, 0, 0, 0), (7, 0, 8, 0), (7, 0, 6, 0), (3, 0, 0, 1), (12, 237, 2, 0), (0, 0, 0, 0), (0, 0, 0, 0), (2, 0, 3, 1), (2, 0, 4, 2), (0, 0, 0, 0), (28, 546, 62, 3), (0, 0, 0, 0), (0, 0, 0, 0), (28, 547, 68, 4), (0, 0, 0, 0), (0, 0, 0, 0), (6, 1, 4, 0), (0, 0, 0, 0), (0, 0, 0, 0), (11, 0, 0, 3), (0, 0, 0, 0), (0, 0, 0, 0), (30, 0, 0, 0)]
/-- ReedBench$Plan.offer(III)V -/
def xk_68 : List xI := [(3, 0, 0, 1), (12, 238, 2, 1), (0, 0, 0, 0), (0, 0, 0, 0), (2, 0, 2, 1), (14, 0, 0, 0), (1, 268435456, 2, 536), (0, 0, 0, 0), (10, 0, 1, 12), (0, 0, 0, 0), (0, 0, 0, 0), (30, 0, 0, 0), (2, 0, 3, 1), (3, 0, 0, 1), (12, 238, 2, 1), (0, 0, 0, 0), (0, 0, 0, 0), (2, 0, 2, 1), (14, 0, 0, 0), (7, 0, 0, 0), (4, 0, 4, 2), (0, 0, 0, 0), (2, 0, 4, 2), (0, 0, 0, 0), (3, 0, 0, 1), (12, 238, 2, 1), (0, 0, 0, 0), (0, 0, 0, 0), (2, 0, 1, 1), (14, 0, 0, 0), (10, 0, 3, 48), (0, 0, 0, 0), (0, 0, 0, 0), (3, 0, 0, 1), (12, 238, 2, 1), (0, 0, 0, 0), (0, 0, 0, 0), (2, 0, 1, 1), (2, 0, 4, 2), (0, 0, 0, 0), (15, 0, 0, 0), (3, 0, 0, 1), (12, 239, 2, 2), (0, 0, 0, 0), (0, 0, 0, 0), (2, 0, 1, 1), (1, 0, 1, 0), (15, 0, 0, 0), (2, 0, 4, 2), (0, 0, 0, 0), (3, 0, 0, 1), (12, 238, 2, 1), (0, 0, 0, 0), (0, 0, 0, 0), (2, 0, 1, 1), (14, 0, 0, 0), (10, 0, 1, 74), (0, 0, 0, 0), (0, 0, 0, 0), (3, 0, 0, 1), (12, 239, 2, 2), (0, 0, 0, 0), (0, 0, 0, 0), (2, 0, 1, 1), (25, 0, 0, 0), (14, 0, 0, 0), (3, 0, 0, 1), (12, 239, 2, 2), (0, 0, 0, 0), (0, 0, 0, 0), (2, 0, 2, 1), (14, 0, 0, 0), (7, 0, 0, 0), (15, 0, 0, 0), (30, 0, 0, 0)]
/-- ReedBench$Plan.fillByPair(III)V -/
def xk_69 : List xI := [(1, 0, 1, 0), (4, 0, 4, 2), (0, 0, 0, 0), (2, 0, 4, 2), (0, 0, 0, 0), (1, 12, 2, 0), (0, 0, 0, 0), (10, 0, 3, 97), (0, 0, 0, 0), (0, 0, 0, 0), (1, 0, 1, 0), (4, 0, 5, 2), (0, 0, 0, 0), (2, 0, 5, 2), (0, 0, 0, 0), (1, 12, 2, 0), (0, 0, 0, 0), (10, 0, 3, 91), (0, 0, 0, 0), (0, 0, 0, 0), (2, 0, 2, 1), (2, 0, 4, 2), (0, 0, 0, 0), (7, 0, 9, 0), (1, 1, 1, 0), (7, 0, 5, 0), (1, 1, 1, 0), (10, 0, 1, 91), (0, 0, 0, 0), (0, 0, 0, 0), (2, 0, 2, 1), (2, 0, 5, 2), (0, 0, 0, 0), (7, 0, 9, 0), (1, 1, 1, 0), (7, 0, 5, 0), (1, 1, 1, 0), (10, 0, 1, 85), (0, 0, 0, 0), (0, 0, 0, 0), (3, 0, 0, 1), (12, 237, 2, 0), (0, 0, 0, 0), (0, 0, 0, 0), (2, 0, 3, 1), (2, 0, 4, 2), (0, 0, 0, 0), (2, 0, 5, 2), (0, 0, 0, 0), (28, 555, 70, 4), (0, 0, 0, 0), (0, 0, 0, 0), (1, 268435456, 2, 536), (0, 0, 0, 0), (10, 0, 0, 85), (0, 0, 0, 0), (0, 0, 0, 0), (3, 0, 0, 1), (2, 0, 1, 1), (2, 0, 1, 1), (1, 1, 1, 0), (2, 0, 4, 2), (0, 0, 0, 0), (7, 0, 8, 0), (7, 0, 6, 0), (1, 1, 1, 0), (2, 0, 5, 2), (0, 0, 0, 0), (7, 0, 8, 0), (7, 0, 6, 0), (3, 0, 0, 1), (12, 237, 2, 0), (0, 0, 0, 0), (0, 0, 0, 0), (2, 0, 3, 1), (2, 0, 4, 2), (0, 0, 0, 0), (2, 0, 5, 2), (0, 0, 0, 0), (28, 555, 70, 4), (0, 0, 0, 0), (0, 0, 0, 0), (28, 547, 68, 4), (0, 0, 0, 0), (0, 0, 0, 0), (6, 1, 5, 0), (0, 0, 0, 0), (0, 0, 0, 0), (11, 0, 0, 13), (0, 0, 0, 0), (0, 0, 0, 0), (6, 1, 4, 0), (0, 0, 0, 0), (0, 0, 0, 0), (11, 0, 0, 3), (0, 0, 0, 0), (0, 0, 0, 0), (30, 0, 0, 0)]
/-- ReedBench$Costs.ofPair(III)I -/
def xk_70 : List xI := [(3, 0, 0, 1), (12, 231, 0, 1), (0, 0, 0, 0), (0, 0, 0, 0), (2, 0, 1, 1), (1, 12, 2, 0), (0, 0, 0, 0), (7, 0, 2, 0), (2, 0, 2, 1), (7, 0, 0, 0), (1, 12, 2, 0), (0, 0, 0, 0), (7, 0, 2, 0), (2, 0, 3, 1), (7, 0, 0, 0), (14, 0, 0, 0), (29, 0, 0, 0)]
/-- ReedBench$Plan.exists()Z -/
def xk_71 : List xI := [(3, 0, 0, 1), (12, 244, 2, 6), (0, 0, 0, 0), (0, 0, 0, 0), (1, 268435456, 2, 536), (0, 0, 0, 0), (10, 0, 3, 13), (0, 0, 0, 0), (0, 0, 0, 0), (1, 1, 1, 0), (11, 0, 0, 14), (0, 0, 0, 0), (0, 0, 0, 0), (1, 0, 1, 0), (29, 0, 0, 0)]
/-- ReedBench$Plan.choose(LReedBench$State;)V -/
def xk_72 : List xI := [(1, 0, 1, 0), (4, 0, 2, 1), (1, 0, 1, 0), (4, 0, 3, 1), (2, 0, 3, 1), (1, 8, 2, 0), (0, 0, 0, 0), (10, 0, 3, 63), (0, 0, 0, 0), (0, 0, 0, 0), (3, 0, 1, 1), (2, 0, 3, 1), (1, 2, 1, 0), (7, 0, 3, 0), (28, 541, 60, 2), (0, 0, 0, 0), (0, 0, 0, 0), (9, 0, 0, 42), (0, 0, 0, 0), (0, 0, 0, 0), (2, 0, 3, 1), (1, 2, 1, 0), (7, 0, 4, 0), (9, 0, 1, 37), (0, 0, 0, 0), (0, 0, 0, 0), (3, 0, 0, 1), (2, 0, 2, 1), (2, 0, 3, 1), (1, 2, 1, 0), (7, 0, 3, 0), (28, 568, 73, 3), (0, 0, 0, 0), (0, 0, 0, 0), (11, 0, 0, 38), (0, 0, 0, 0), (0, 0, 0, 0), (2, 0, 2, 1), (4, 0, 2, 1), (11, 0, 0, 57), (0, 0, 0, 0), (0, 0, 0, 0), (3, 0, 1, 1), (2, 0, 3, 1), (28, 529, 33, 2), (0, 0, 0, 0), (0, 0, 0, 0), (9, 0, 0, 57), (0, 0, 0, 0), (0, 0, 0, 0), (3, 0, 0, 1), (2, 0, 2, 1), (2, 0, 3, 1), (28, 576, 75, 3), (0, 0, 0, 0), (0, 0, 0, 0), (4, 0, 2, 1), (6, 1, 3, 0), (0, 0, 0, 0), (0, 0, 0, 0), (11, 0, 0, 4), (0, 0, 0, 0), (0, 0, 0, 0), (30, 0, 0, 0)]
/-- ReedBench$Plan.choosePair(II)I -/
def xk_73 : List xI := [(1, 0, 1, 0), (4, 0, 3, 1), (2, 0, 3, 1), (1, 12, 2, 0), (0, 0, 0, 0), (10, 0, 3, 96), (0, 0, 0, 0), (0, 0, 0, 0), (1, 0, 1, 0), (4, 0, 4, 2), (0, 0, 0, 0), (2, 0, 4, 2), (0, 0, 0, 0), (1, 12, 2, 0), (0, 0, 0, 0), (10, 0, 3, 90), (0, 0, 0, 0), (0, 0, 0, 0), (1, 1, 1, 0), (2, 0, 3, 1), (7, 0, 8, 0), (1, 1, 1, 0), (2, 0, 4, 2), (0, 0, 0, 0), (7, 0, 8, 0), (7, 0, 6, 0), (4, 0, 5, 2), (0, 0, 0, 0), (2, 0, 1, 1), (2, 0, 5, 2), (0, 0, 0, 0), (7, 0, 5, 0), (9, 0, 1, 84), (0, 0, 0, 0), (0, 0, 0, 0), (3, 0, 0, 1), (2, 0, 1, 1), (2, 0, 1, 1), (2, 0, 5, 2), (0, 0, 0, 0), (7, 0, 6, 0), (3, 0, 0, 1), (12, 237, 2, 0), (0, 0, 0, 0), (0, 0, 0, 0), (2, 0, 2, 1), (2, 0, 3, 1), (2, 0, 4, 2), (0, 0, 0, 0), (28, 555, 70, 4), (0, 0, 0, 0), (0, 0, 0, 0), (28, 572, 74, 4), (0, 0, 0, 0), (0, 0, 0, 0), (9, 0, 0, 84), (0, 0, 0, 0), (0, 0, 0, 0), (3, 0, 0, 1), (12, 241, 2, 4), (0, 0, 0, 0), (0, 0, 0, 0), (1, 2, 1, 0), (2, 0, 2, 1), (7, 0, 2, 0), (2, 0, 3, 1), (15, 0, 0, 0), (3, 0, 0, 1), (12, 241, 2, 4), (0, 0, 0, 0), (0, 0, 0, 0), (1, 2, 1, 0), (2, 0, 2, 1), (7, 0, 2, 0), (1, 1, 1, 0), (7, 0, 0, 0), (2, 0, 4, 2), (0, 0, 0, 0), (15, 0, 0, 0), (2, 0, 1, 1), (2, 0, 5, 2), (0, 0, 0, 0), (7, 0, 6, 0), (29, 0, 0, 0), (6, 1, 4, 0), (0, 0, 0, 0), (0, 0, 0, 0), (11, 0, 0, 11), (0, 0, 0, 0), (0, 0, 0, 0), (6, 1, 3, 0), (0, 0, 0, 0), (0, 0, 0, 0), (11, 0, 0, 2), (0, 0, 0, 0), (0, 0, 0, 0), (2, 0, 1, 1), (29, 0, 0, 0)]
/-- ReedBench$Plan.leads(III)Z -/
def xk_74 : List xI := [(2, 0, 3, 1), (1, 268435456, 2, 536), (0, 0, 0, 0), (10, 0, 0, 38), (0, 0, 0, 0), (0, 0, 0, 0), (3, 0, 0, 1), (12, 238, 2, 1), (0, 0, 0, 0), (0, 0, 0, 0), (2, 0, 2, 1), (14, 0, 0, 0), (1, 268435456, 2, 536), (0, 0, 0, 0), (10, 0, 0, 38), (0, 0, 0, 0), (0, 0, 0, 0), (2, 0, 3, 1), (3, 0, 0, 1), (12, 238, 2, 1), (0, 0, 0, 0), (0, 0, 0, 0), (2, 0, 2, 1), (14, 0, 0, 0), (7, 0, 0, 0), (3, 0, 0, 1), (12, 238, 2, 1), (0, 0, 0, 0), (0, 0, 0, 0), (2, 0, 1, 1), (14, 0, 0, 0), (10, 0, 1, 38), (0, 0, 0, 0), (0, 0, 0, 0), (1, 1, 1, 0), (11, 0, 0, 39), (0, 0, 0, 0), (0, 0, 0, 0), (1, 0, 1, 0), (29, 0, 0, 0)]
/-- ReedBench$Plan.chooseSlot(II)I -/
def xk_75 : List xI := [(1, 0, 1, 0), (4, 0, 3, 1), (2, 0, 3, 1), (1, 12, 2, 0), (0, 0, 0, 0), (10, 0, 3, 57), (0, 0, 0, 0), (0, 0, 0, 0), (2, 0, 1, 1), (2, 0, 3, 1), (7, 0, 9, 0), (1, 1, 1, 0), (7, 0, 5, 0), (9, 0, 1, 51), (0, 0, 0, 0), (0, 0, 0, 0), (3, 0, 0, 1), (2, 0, 1, 1), (2, 0, 1, 1), (1, 1, 1, 0), (2, 0, 3, 1), (7, 0, 8, 0), (7, 0, 6, 0), (3, 0, 0, 1), (12, 237, 2, 0), (0, 0, 0, 0), (0, 0, 0, 0), (2, 0, 2, 1), (2, 0, 3, 1), (28, 546, 62, 3), (0, 0, 0, 0), (0, 0, 0, 0), (28, 572, 74, 4), (0, 0, 0, 0), (0, 0, 0, 0), (9, 0, 0, 51), (0, 0, 0, 0), (0, 0, 0, 0), (3, 0, 0, 1), (12, 241, 2, 4), (0, 0, 0, 0), (0, 0, 0, 0), (2, 0, 2, 1), (2, 0, 3, 1), (15, 0, 0, 0), (2, 0, 1, 1), (1, 1, 1, 0), (2, 0, 3, 1), (7, 0, 8, 0), (7, 0, 6, 0), (29, 0, 0, 0), (6, 1, 3, 0), (0, 0, 0, 0), (0, 0, 0, 0), (11, 0, 0, 2), (0, 0, 0, 0), (0, 0, 0, 0), (2, 0, 1, 1), (29, 0, 0, 0)]
/-- ReedBench.lays()I -/
def xk_76 : List xI := [(3, 0, 0, 1), (12, 271, 6, 3), (0, 0, 0, 0), (0, 0, 0, 0), (3, 0, 0, 1), (12, 268, 6, 0), (0, 0, 0, 0), (0, 0, 0, 0), (3, 0, 0, 1), (12, 270, 6, 2), (0, 0, 0, 0), (0, 0, 0, 0), (28, 485, 57, 3), (0, 0, 0, 0), (0, 0, 0, 0), (3, 0, 0, 1), (12, 271, 6, 3), (0, 0, 0, 0), (0, 0, 0, 0), (12, 247, 2, 7), (0, 0, 0, 0), (0, 0, 0, 0), (29, 0, 0, 0)]
/-- ReedBench.make()I -/
def xk_77 : List xI := [(3, 0, 0, 1), (12, 271, 6, 3), (0, 0, 0, 0), (0, 0, 0, 0), (3, 0, 0, 1), (12, 268, 6, 0), (0, 0, 0, 0), (0, 0, 0, 0), (3, 0, 0, 1), (12, 270, 6, 2), (0, 0, 0, 0), (0, 0, 0, 0), (28, 485, 57, 3), (0, 0, 0, 0), (0, 0, 0, 0), (3, 0, 0, 1), (12, 271, 6, 3), (0, 0, 0, 0), (0, 0, 0, 0), (28, 580, 71, 1), (0, 0, 0, 0), (0, 0, 0, 0), (9, 0, 0, 35), (0, 0, 0, 0), (0, 0, 0, 0), (3, 0, 0, 1), (12, 268, 6, 0), (0, 0, 0, 0), (0, 0, 0, 0), (28, 385, 32, 1), (0, 0, 0, 0), (0, 0, 0, 0), (9, 0, 1, 37), (0, 0, 0, 0), (0, 0, 0, 0), (1, (-1), 1, 0), (29, 0, 0, 0), (3, 0, 0, 1), (12, 269, 6, 1), (0, 0, 0, 0), (0, 0, 0, 0), (3, 0, 0, 1), (12, 268, 6, 0), (0, 0, 0, 0), (0, 0, 0, 0), (28, 292, 11, 2), (0, 0, 0, 0), (0, 0, 0, 0), (3, 0, 0, 1), (12, 271, 6, 3), (0, 0, 0, 0), (0, 0, 0, 0), (3, 0, 0, 1), (12, 268, 6, 0), (0, 0, 0, 0), (0, 0, 0, 0), (3, 0, 0, 1), (12, 270, 6, 2), (0, 0, 0, 0), (0, 0, 0, 0), (28, 589, 78, 3), (0, 0, 0, 0), (0, 0, 0, 0), (3, 0, 0, 1), (12, 271, 6, 3), (0, 0, 0, 0), (0, 0, 0, 0), (28, 310, 15, 1), (0, 0, 0, 0), (0, 0, 0, 0), (3, 0, 0, 1), (12, 268, 6, 0), (0, 0, 0, 0), (0, 0, 0, 0), (12, 162, 4, 7), (0, 0, 0, 0), (0, 0, 0, 0), (1, 1, 1, 0), (7, 0, 1, 0), (29, 0, 0, 0)]
/-- ReedBench$Plan.carryOut(LReedBench$State;LReedBench$Works;)V -/
def xk_78 : List xI := [(1, 0, 1, 0), (4, 0, 3, 1), (2, 0, 3, 1), (1, 4, 1, 0), (10, 0, 3, 51), (0, 0, 0, 0), (0, 0, 0, 0), (3, 0, 1, 1), (2, 0, 3, 1), (28, 541, 60, 2), (0, 0, 0, 0), (0, 0, 0, 0), (9, 0, 0, 25), (0, 0, 0, 0), (0, 0, 0, 0), (3, 0, 0, 1), (3, 0, 1, 1), (3, 0, 2, 1), (2, 0, 3, 1), (28, 593, 79, 4), (0, 0, 0, 0), (0, 0, 0, 0), (11, 0, 0, 45), (0, 0, 0, 0), (0, 0, 0, 0), (3, 0, 0, 1), (3, 0, 1, 1), (3, 0, 2, 1), (1, 2, 1, 0), (2, 0, 3, 1), (7, 0, 2, 0), (28, 608, 81, 4), (0, 0, 0, 0), (0, 0, 0, 0), (3, 0, 0, 1), (3, 0, 1, 1), (3, 0, 2, 1), (1, 2, 1, 0), (2, 0, 3, 1), (7, 0, 2, 0), (1, 1, 1, 0), (7, 0, 0, 0), (28, 608, 81, 4), (0, 0, 0, 0), (0, 0, 0, 0), (6, 1, 3, 0), (0, 0, 0, 0), (0, 0, 0, 0), (11, 0, 0, 2), (0, 0, 0, 0), (0, 0, 0, 0), (3, 0, 1, 1), (12, 145, 4, 1), (0, 0, 0, 0), (0, 0, 0, 0), (1, (-1), 1, 0), (28, 559, 3, 2), (0, 0, 0, 0), (0, 0, 0, 0), (3, 0, 1, 1), (23, 0, 0, 0), (12, 163, 4, 7), (0, 0, 0, 0), (0, 0, 0, 0), (1, 1, 1, 0), (7, 0, 0, 0), (13, 163, 4, 7), (0, 0, 0, 0), (0, 0, 0, 0), (30, 0, 0, 0)]
/-- ReedBench$Plan.setPair(LReedBench$State;LReedBench$Works;I)V -/
def xk_79 : List xI := [(3, 0, 0, 1), (12, 241, 2, 4), (0, 0, 0, 0), (0, 0, 0, 0), (1, 2, 1, 0), (2, 0, 3, 1), (7, 0, 2, 0), (14, 0, 0, 0), (4, 0, 4, 2), (0, 0, 0, 0), (3, 0, 0, 1), (12, 241, 2, 4), (0, 0, 0, 0), (0, 0, 0, 0), (1, 2, 1, 0), (2, 0, 3, 1), (7, 0, 2, 0), (1, 1, 1, 0), (7, 0, 0, 0), (14, 0, 0, 0), (4, 0, 5, 2), (0, 0, 0, 0), (3, 0, 1, 1), (2, 0, 4, 2), (0, 0, 0, 0), (28, 597, 18, 2), (0, 0, 0, 0), (0, 0, 0, 0), (9, 0, 0, 40), (0, 0, 0, 0), (0, 0, 0, 0), (3, 0, 1, 1), (2, 0, 5, 2), (0, 0, 0, 0), (28, 597, 18, 2), (0, 0, 0, 0), (0, 0, 0, 0), (9, 0, 1, 41), (0, 0, 0, 0), (0, 0, 0, 0), (30, 0, 0, 0), (3, 0, 2, 1), (3, 0, 1, 1), (2, 0, 4, 2), (0, 0, 0, 0), (2, 0, 5, 2), (0, 0, 0, 0), (2, 0, 3, 1), (28, 598, 44, 5), (0, 0, 0, 0), (0, 0, 0, 0), (4, 0, 6, 2), (0, 0, 0, 0), (3, 0, 1, 1), (12, 140, 4, 0), (0, 0, 0, 0), (0, 0, 0, 0), (2, 0, 4, 2), (0, 0, 0, 0), (16, 0, 0, 0), (2, 0, 6, 2), (0, 0, 0, 0), (28, 599, 52, 1), (0, 0, 0, 0), (0, 0, 0, 0), (2, 0, 6, 2), (0, 0, 0, 0), (28, 600, 53, 1), (0, 0, 0, 0), (0, 0, 0, 0), (3, 0, 1, 1), (12, 156, 4, 5), (0, 0, 0, 0), (0, 0, 0, 0), (28, 601, 26, 4), (0, 0, 0, 0), (0, 0, 0, 0), (3, 0, 1, 1), (12, 140, 4, 0), (0, 0, 0, 0), (0, 0, 0, 0), (2, 0, 5, 2), (0, 0, 0, 0), (16, 0, 0, 0), (2, 0, 6, 2), (0, 0, 0, 0), (28, 602, 54, 1), (0, 0, 0, 0), (0, 0, 0, 0), (2, 0, 6, 2), (0, 0, 0, 0), (28, 603, 55, 1), (0, 0, 0, 0), (0, 0, 0, 0), (3, 0, 1, 1), (12, 156, 4, 5), (0, 0, 0, 0), (0, 0, 0, 0), (28, 601, 26, 4), (0, 0, 0, 0), (0, 0, 0, 0), (3, 0, 1, 1), (12, 140, 4, 0), (0, 0, 0, 0), (0, 0, 0, 0), (2, 0, 4, 2), (0, 0, 0, 0), (16, 0, 0, 0), (3, 0, 1, 1), (12, 163, 4, 7), (0, 0, 0, 0), (0, 0, 0, 0), (1, 2, 1, 0), (2, 0, 3, 1), (7, 0, 2, 0), (28, 604, 80, 3), (0, 0, 0, 0), (0, 0, 0, 0), (3, 0, 1, 1), (12, 140, 4, 0), (0, 0, 0, 0), (0, 0, 0, 0), (2, 0, 5, 2), (0, 0, 0, 0), (16, 0, 0, 0), (3, 0, 1, 1), (12, 163, 4, 7), (0, 0, 0, 0), (0, 0, 0, 0), (1, 2, 1, 0), (2, 0, 3, 1), (7, 0, 2, 0), (1, 1, 1, 0), (7, 0, 0, 0), (28, 604, 80, 3), (0, 0, 0, 0), (0, 0, 0, 0), (30, 0, 0, 0)]
/-- ReedBench$Reed.putInto(II)V -/
def xk_80 : List xI := [(3, 0, 0, 1), (1, 1, 1, 0), (13, 110, 3, 3), (0, 0, 0, 0), (0, 0, 0, 0), (3, 0, 0, 1), (2, 0, 1, 1), (13, 113, 3, 4), (0, 0, 0, 0), (0, 0, 0, 0), (3, 0, 0, 1), (2, 0, 2, 1), (13, 115, 3, 5), (0, 0, 0, 0), (0, 0, 0, 0), (30, 0, 0, 0)]
/-- ReedBench$Plan.setSlot(LReedBench$State;LReedBench$Works;I)V -/
def xk_81 : List xI := [(3, 0, 0, 1), (12, 241, 2, 4), (0, 0, 0, 0), (0, 0, 0, 0), (2, 0, 3, 1), (14, 0, 0, 0), (4, 0, 4, 2), (0, 0, 0, 0), (3, 0, 1, 1), (2, 0, 4, 2), (0, 0, 0, 0), (28, 597, 18, 2), (0, 0, 0, 0), (0, 0, 0, 0), (9, 0, 0, 25), (0, 0, 0, 0), (0, 0, 0, 0), (3, 0, 1, 1), (2, 0, 3, 1), (28, 529, 33, 2), (0, 0, 0, 0), (0, 0, 0, 0), (9, 0, 1, 26), (0, 0, 0, 0), (0, 0, 0, 0), (30, 0, 0, 0), (3, 0, 2, 1), (3, 0, 1, 1), (2, 0, 4, 2), (0, 0, 0, 0), (2, 0, 3, 1), (28, 612, 36, 4), (0, 0, 0, 0), (0, 0, 0, 0), (4, 0, 5, 2), (0, 0, 0, 0), (3, 0, 1, 1), (12, 140, 4, 0), (0, 0, 0, 0), (0, 0, 0, 0), (2, 0, 4, 2), (0, 0, 0, 0), (16, 0, 0, 0), (2, 0, 5, 2), (0, 0, 0, 0), (28, 613, 40, 1), (0, 0, 0, 0), (0, 0, 0, 0), (2, 0, 5, 2), (0, 0, 0, 0), (28, 614, 41, 1), (0, 0, 0, 0), (0, 0, 0, 0), (3, 0, 1, 1), (12, 156, 4, 5), (0, 0, 0, 0), (0, 0, 0, 0), (28, 601, 26, 4), (0, 0, 0, 0), (0, 0, 0, 0), (3, 0, 1, 1), (12, 140, 4, 0), (0, 0, 0, 0), (0, 0, 0, 0), (2, 0, 4, 2), (0, 0, 0, 0), (16, 0, 0, 0), (3, 0, 1, 1), (12, 163, 4, 7), (0, 0, 0, 0), (0, 0, 0, 0), (2, 0, 3, 1), (28, 604, 80, 3), (0, 0, 0, 0), (0, 0, 0, 0), (30, 0, 0, 0)]
/-- ReedBench.lacks()I -/
def xk_82 : List xI := [(3, 0, 0, 1), (12, 271, 6, 3), (0, 0, 0, 0), (0, 0, 0, 0), (3, 0, 0, 1), (12, 268, 6, 0), (0, 0, 0, 0), (0, 0, 0, 0), (3, 0, 0, 1), (12, 270, 6, 2), (0, 0, 0, 0), (0, 0, 0, 0), (28, 485, 57, 3), (0, 0, 0, 0), (0, 0, 0, 0), (3, 0, 0, 1), (12, 271, 6, 3), (0, 0, 0, 0), (0, 0, 0, 0), (3, 0, 0, 1), (12, 268, 6, 0), (0, 0, 0, 0), (0, 0, 0, 0), (28, 619, 83, 2), (0, 0, 0, 0), (0, 0, 0, 0), (29, 0, 0, 0)]
/-- ReedBench$Plan.fewestLeftOut(LReedBench$State;)I -/
def xk_83 : List xI := [(3, 0, 0, 1), (28, 560, 71, 1), (0, 0, 0, 0), (0, 0, 0, 0), (9, 0, 0, 11), (0, 0, 0, 0), (0, 0, 0, 0), (1, 0, 1, 0), (11, 0, 0, 23), (0, 0, 0, 0), (0, 0, 0, 0), (3, 0, 1, 1), (3, 0, 0, 1), (12, 237, 2, 0), (0, 0, 0, 0), (0, 0, 0, 0), (3, 0, 0, 1), (12, 238, 2, 1), (0, 0, 0, 0), (0, 0, 0, 0), (28, 623, 84, 3), (0, 0, 0, 0), (0, 0, 0, 0), (29, 0, 0, 0)]
/-- ReedBench$LeftOut.seek(LReedBench$State;LReedBench$Costs;[I)I -/
def xk_84 : List xI := [(3, 0, 0, 1), (28, 626, 30, 1), (0, 0, 0, 0), (0, 0, 0, 0), (4, 0, 3, 1), (3, 0, 2, 1), (1, 268435456, 2, 627), (0, 0, 0, 0), (28, 628, 3, 2), (0, 0, 0, 0), (0, 0, 0, 0), (3, 0, 2, 1), (1, 0, 1, 0), (1, 0, 1, 0), (15, 0, 0, 0), (1, 0, 1, 0), (4, 0, 4, 2), (0, 0, 0, 0), (2, 0, 4, 2), (0, 0, 0, 0), (1, 4, 1, 0), (10, 0, 3, 96), (0, 0, 0, 0), (0, 0, 0, 0), (3, 0, 0, 1), (2, 0, 4, 2), (0, 0, 0, 0), (28, 629, 60, 2), (0, 0, 0, 0), (0, 0, 0, 0), (9, 0, 0, 41), (0, 0, 0, 0), (0, 0, 0, 0), (3, 0, 1, 1), (3, 0, 2, 1), (2, 0, 3, 1), (2, 0, 4, 2), (0, 0, 0, 0), (28, 630, 85, 4), (0, 0, 0, 0), (0, 0, 0, 0), (1, 2, 1, 0), (2, 0, 4, 2), (0, 0, 0, 0), (7, 0, 2, 0), (4, 0, 5, 2), (0, 0, 0, 0), (2, 0, 5, 2), (0, 0, 0, 0), (1, 2, 1, 0), (2, 0, 4, 2), (0, 0, 0, 0), (7, 0, 2, 0), (1, 1, 1, 0), (7, 0, 0, 0), (10, 0, 4, 90), (0, 0, 0, 0), (0, 0, 0, 0), (3, 0, 0, 1), (2, 0, 5, 2), (0, 0, 0, 0), (28, 643, 33, 2), (0, 0, 0, 0), (0, 0, 0, 0), (9, 0, 0, 84), (0, 0, 0, 0), (0, 0, 0, 0), (3, 0, 0, 1), (2, 0, 4, 2), (0, 0, 0, 0), (28, 629, 60, 2), (0, 0, 0, 0), (0, 0, 0, 0), (9, 0, 1, 84), (0, 0, 0, 0), (0, 0, 0, 0), (3, 0, 1, 1), (3, 0, 2, 1), (2, 0, 3, 1), (2, 0, 5, 2), (0, 0, 0, 0), (28, 644, 88, 4), (0, 0, 0, 0), (0, 0, 0, 0), (6, 1, 5, 0), (0, 0, 0, 0), (0, 0, 0, 0), (11, 0, 0, 47), (0, 0, 0, 0), (0, 0, 0, 0), (6, 1, 4, 0), (0, 0, 0, 0), (0, 0, 0, 0), (11, 0, 0, 18), (0, 0, 0, 0), (0, 0, 0, 0), (1, 268435456, 2, 627), (0, 0, 0, 0), (4, 0, 4, 2), (0, 0, 0, 0), (1, 0, 1, 0), (4, 0, 5, 2), (0, 0, 0, 0), (2, 0, 5, 2), (0, 0, 0, 0), (2, 0, 3, 1), (10, 0, 4, 126), (0, 0, 0, 0), (0, 0, 0, 0), (2, 0, 4, 2), (0, 0, 0, 0), (3, 0, 2, 1), (2, 0, 5, 2), (0, 0, 0, 0), (14, 0, 0, 0), (33, 641, 0, 0), (0, 0, 0, 0), (0, 0, 0, 0), (4, 0, 4, 2), (0, 0, 0, 0), (6, 1, 5, 0), (0, 0, 0, 0), (0, 0, 0, 0), (11, 0, 0, 103), (0, 0, 0, 0), (0, 0, 0, 0), (2, 0, 4, 2), (0, 0, 0, 0), (1, 256, 3, 0), (0, 0, 0, 0), (0, 0, 0, 0), (7, 0, 4, 0), (29, 0, 0, 0)]
/-- ReedBench$LeftOut.addPair(LReedBench$Costs;[III)V -/
def xk_85 : List xI := [(1, 2, 1, 0), (2, 0, 3, 1), (7, 0, 2, 0), (28, 633, 86, 1), (0, 0, 0, 0), (0, 0, 0, 0), (1, 2, 1, 0), (2, 0, 3, 1), (7, 0, 2, 0), (1, 1, 1, 0), (7, 0, 0, 0), (28, 633, 86, 1), (0, 0, 0, 0), (0, 0, 0, 0), (7, 0, 0, 0), (4, 0, 4, 2), (0, 0, 0, 0), (2, 0, 2, 1), (4, 0, 5, 2), (0, 0, 0, 0), (2, 0, 5, 2), (0, 0, 0, 0), (9, 0, 2, 122), (0, 0, 0, 0), (0, 0, 0, 0), (2, 0, 5, 2), (0, 0, 0, 0), (2, 0, 2, 1), (1, (-1), 1, 0), (7, 0, 7, 0), (7, 0, 5, 0), (9, 0, 1, 116), (0, 0, 0, 0), (0, 0, 0, 0), (2, 0, 5, 2), (0, 0, 0, 0), (28, 636, 31, 1), (0, 0, 0, 0), (0, 0, 0, 0), (1, 2, 1, 0), (2, 0, 3, 1), (7, 0, 2, 0), (1, 2, 1, 0), (7, 0, 0, 0), (10, 0, 4, 116), (0, 0, 0, 0), (0, 0, 0, 0), (3, 0, 1, 1), (2, 0, 5, 2), (0, 0, 0, 0), (14, 0, 0, 0), (2, 0, 4, 2), (0, 0, 0, 0), (7, 0, 0, 0), (4, 0, 6, 2), (0, 0, 0, 0), (1, 0, 1, 0), (4, 0, 7, 2), (0, 0, 0, 0), (2, 0, 7, 2), (0, 0, 0, 0), (1, 12, 2, 0), (0, 0, 0, 0), (10, 0, 3, 105), (0, 0, 0, 0), (0, 0, 0, 0), (2, 0, 5, 2), (0, 0, 0, 0), (2, 0, 7, 2), (0, 0, 0, 0), (7, 0, 9, 0), (1, 1, 1, 0), (7, 0, 5, 0), (1, 1, 1, 0), (10, 0, 1, 99), (0, 0, 0, 0), (0, 0, 0, 0), (2, 0, 6, 2), (0, 0, 0, 0), (3, 0, 0, 1), (3, 0, 1, 1), (2, 0, 5, 2), (0, 0, 0, 0), (1, 1, 1, 0), (2, 0, 7, 2), (0, 0, 0, 0), (7, 0, 8, 0), (7, 0, 7, 0), (2, 0, 3, 1), (2, 0, 7, 2), (0, 0, 0, 0), (28, 637, 87, 5), (0, 0, 0, 0), (0, 0, 0, 0), (33, 641, 0, 0), (0, 0, 0, 0), (0, 0, 0, 0), (4, 0, 6, 2), (0, 0, 0, 0), (6, 1, 7, 0), (0, 0, 0, 0), (0, 0, 0, 0), (11, 0, 0, 59), (0, 0, 0, 0), (0, 0, 0, 0), (3, 0, 1, 1), (2, 0, 5, 2), (0, 0, 0, 0), (2, 0, 6, 2), (0, 0, 0, 0), (1, 268435456, 2, 627), (0, 0, 0, 0), (33, 641, 0, 0), (0, 0, 0, 0), (0, 0, 0, 0), (15, 0, 0, 0), (6, (-1), 5, 0), (0, 0, 0, 0), (0, 0, 0, 0), (11, 0, 0, 20), (0, 0, 0, 0), (0, 0, 0, 0), (30, 0, 0, 0)]
/-- ReedBench$LeftOut.weightOf(I)I -/
def xk_86 : List xI := [(1, 256, 3, 0), (0, 0, 0, 0), (0, 0, 0, 0), (1, 1, 1, 0), (2, 0, 0, 1), (7, 0, 8, 0), (7, 0, 0, 0), (29, 0, 0, 0)]
/-- ReedBench$LeftOut.withReed(LReedBench$Costs;[IIII)I -/
def xk_87 : List xI := [(1, 268435456, 2, 627), (0, 0, 0, 0), (4, 0, 5, 2), (0, 0, 0, 0), (3, 0, 0, 1), (1, 2, 1, 0), (2, 0, 3, 1), (7, 0, 2, 0), (2, 0, 4, 2), (0, 0, 0, 0), (28, 640, 62, 3), (0, 0, 0, 0), (0, 0, 0, 0), (1, 268435456, 2, 627), (0, 0, 0, 0), (10, 0, 0, 37), (0, 0, 0, 0), (0, 0, 0, 0), (2, 0, 5, 2), (0, 0, 0, 0), (3, 0, 1, 1), (2, 0, 2, 1), (14, 0, 0, 0), (1, 2, 1, 0), (2, 0, 3, 1), (7, 0, 2, 0), (1, 1, 1, 0), (7, 0, 0, 0), (28, 633, 86, 1), (0, 0, 0, 0), (0, 0, 0, 0), (7, 0, 0, 0), (33, 641, 0, 0), (0, 0, 0, 0), (0, 0, 0, 0), (4, 0, 5, 2), (0, 0, 0, 0), (3, 0, 0, 1), (1, 2, 1, 0), (2, 0, 3, 1), (7, 0, 2, 0), (1, 1, 1, 0), (7, 0, 0, 0), (2, 0, 4, 2), (0, 0, 0, 0), (28, 640, 62, 3), (0, 0, 0, 0), (0, 0, 0, 0), (1, 268435456, 2, 627), (0, 0, 0, 0), (10, 0, 0, 70), (0, 0, 0, 0), (0, 0, 0, 0), (2, 0, 5, 2), (0, 0, 0, 0), (3, 0, 1, 1), (2, 0, 2, 1), (14, 0, 0, 0), (1, 2, 1, 0), (2, 0, 3, 1), (7, 0, 2, 0), (28, 633, 86, 1), (0, 0, 0, 0), (0, 0, 0, 0), (7, 0, 0, 0), (33, 641, 0, 0), (0, 0, 0, 0), (0, 0, 0, 0), (4, 0, 5, 2), (0, 0, 0, 0), (1, 0, 1, 0), (4, 0, 6, 2), (0, 0, 0, 0), (2, 0, 6, 2), (0, 0, 0, 0), (1, 12, 2, 0), (0, 0, 0, 0), (10, 0, 3, 125), (0, 0, 0, 0), (0, 0, 0, 0), (2, 0, 2, 1), (2, 0, 6, 2), (0, 0, 0, 0), (7, 0, 9, 0), (1, 1, 1, 0), (7, 0, 5, 0), (1, 1, 1, 0), (10, 0, 1, 119), (0, 0, 0, 0), (0, 0, 0, 0), (3, 0, 0, 1), (2, 0, 3, 1), (2, 0, 4, 2), (0, 0, 0, 0), (2, 0, 6, 2), (0, 0, 0, 0), (28, 642, 70, 4), (0, 0, 0, 0), (0, 0, 0, 0), (1, 268435456, 2, 627), (0, 0, 0, 0), (10, 0, 0, 119), (0, 0, 0, 0), (0, 0, 0, 0), (2, 0, 5, 2), (0, 0, 0, 0), (3, 0, 1, 1), (2, 0, 2, 1), (1, 1, 1, 0), (2, 0, 6, 2), (0, 0, 0, 0), (7, 0, 8, 0), (7, 0, 7, 0), (14, 0, 0, 0), (33, 641, 0, 0), (0, 0, 0, 0), (0, 0, 0, 0), (4, 0, 5, 2), (0, 0, 0, 0), (6, 1, 6, 0), (0, 0, 0, 0), (0, 0, 0, 0), (11, 0, 0, 73), (0, 0, 0, 0), (0, 0, 0, 0), (2, 0, 5, 2), (0, 0, 0, 0), (29, 0, 0, 0)]
/-- ReedBench$LeftOut.addSlot(LReedBench$Costs;[III)V -/
def xk_88 : List xI := [(2, 0, 2, 1), (4, 0, 4, 2), (0, 0, 0, 0), (2, 0, 4, 2), (0, 0, 0, 0), (9, 0, 2, 111), (0, 0, 0, 0), (0, 0, 0, 0), (2, 0, 4, 2), (0, 0, 0, 0), (2, 0, 2, 1), (1, (-1), 1, 0), (7, 0, 7, 0), (7, 0, 5, 0), (9, 0, 1, 105), (0, 0, 0, 0), (0, 0, 0, 0), (2, 0, 4, 2), (0, 0, 0, 0), (28, 636, 31, 1), (0, 0, 0, 0), (0, 0, 0, 0), (2, 0, 3, 1), (1, 1, 1, 0), (7, 0, 0, 0), (10, 0, 4, 105), (0, 0, 0, 0), (0, 0, 0, 0), (3, 0, 1, 1), (2, 0, 4, 2), (0, 0, 0, 0), (14, 0, 0, 0), (2, 0, 3, 1), (28, 633, 86, 1), (0, 0, 0, 0), (0, 0, 0, 0), (7, 0, 0, 0), (4, 0, 5, 2), (0, 0, 0, 0), (1, 0, 1, 0), (4, 0, 6, 2), (0, 0, 0, 0), (2, 0, 6, 2), (0, 0, 0, 0), (1, 12, 2, 0), (0, 0, 0, 0), (10, 0, 3, 94), (0, 0, 0, 0), (0, 0, 0, 0), (2, 0, 4, 2), (0, 0, 0, 0), (2, 0, 6, 2), (0, 0, 0, 0), (7, 0, 9, 0), (1, 1, 1, 0), (7, 0, 5, 0), (1, 1, 1, 0), (10, 0, 1, 88), (0, 0, 0, 0), (0, 0, 0, 0), (3, 0, 0, 1), (2, 0, 3, 1), (2, 0, 6, 2), (0, 0, 0, 0), (28, 640, 62, 3), (0, 0, 0, 0), (0, 0, 0, 0), (1, 268435456, 2, 627), (0, 0, 0, 0), (10, 0, 0, 88), (0, 0, 0, 0), (0, 0, 0, 0), (2, 0, 5, 2), (0, 0, 0, 0), (3, 0, 1, 1), (2, 0, 4, 2), (0, 0, 0, 0), (1, 1, 1, 0), (2, 0, 6, 2), (0, 0, 0, 0), (7, 0, 8, 0), (7, 0, 7, 0), (14, 0, 0, 0), (33, 641, 0, 0), (0, 0, 0, 0), (0, 0, 0, 0), (4, 0, 5, 2), (0, 0, 0, 0), (6, 1, 6, 0), (0, 0, 0, 0), (0, 0, 0, 0), (11, 0, 0, 42), (0, 0, 0, 0), (0, 0, 0, 0), (3, 0, 1, 1), (2, 0, 4, 2), (0, 0, 0, 0), (2, 0, 5, 2), (0, 0, 0, 0), (1, 268435456, 2, 627), (0, 0, 0, 0), (33, 641, 0, 0), (0, 0, 0, 0), (0, 0, 0, 0), (15, 0, 0, 0), (6, (-1), 4, 0), (0, 0, 0, 0), (0, 0, 0, 0), (11, 0, 0, 3), (0, 0, 0, 0), (0, 0, 0, 0), (30, 0, 0, 0)]
/-- ReedBench.undo()Z -/
def xk_89 : List xI := [(3, 0, 0, 1), (12, 269, 6, 1), (0, 0, 0, 0), (0, 0, 0, 0), (3, 0, 0, 1), (12, 268, 6, 0), (0, 0, 0, 0), (0, 0, 0, 0), (28, 651, 90, 2), (0, 0, 0, 0), (0, 0, 0, 0), (9, 0, 1, 16), (0, 0, 0, 0), (0, 0, 0, 0), (1, 0, 1, 0), (29, 0, 0, 0), (3, 0, 0, 1), (12, 271, 6, 3), (0, 0, 0, 0), (0, 0, 0, 0), (28, 310, 15, 1), (0, 0, 0, 0), (0, 0, 0, 0), (1, 1, 1, 0), (29, 0, 0, 0)]
/-- ReedBench$History.takeBack(LReedBench$State;)Z -/
def xk_90 : List xI := [(3, 0, 0, 1), (12, 191, 1, 1), (0, 0, 0, 0), (0, 0, 0, 0), (9, 0, 1, 9), (0, 0, 0, 0), (0, 0, 0, 0), (1, 0, 1, 0), (29, 0, 0, 0), (3, 0, 0, 1), (3, 0, 0, 1), (12, 192, 1, 2), (0, 0, 0, 0), (0, 0, 0, 0), (9, 0, 1, 21), (0, 0, 0, 0), (0, 0, 0, 0), (1, 5, 1, 0), (11, 0, 0, 27), (0, 0, 0, 0), (0, 0, 0, 0), (3, 0, 0, 1), (12, 192, 1, 2), (0, 0, 0, 0), (0, 0, 0, 0), (1, 1, 1, 0), (7, 0, 1, 0), (13, 192, 1, 2), (0, 0, 0, 0), (0, 0, 0, 0), (3, 0, 0, 1), (23, 0, 0, 0), (12, 191, 1, 1), (0, 0, 0, 0), (0, 0, 0, 0), (1, 1, 1, 0), (7, 0, 1, 0), (13, 191, 1, 1), (0, 0, 0, 0), (0, 0, 0, 0), (3, 0, 1, 1), (3, 0, 0, 1), (12, 190, 1, 0), (0, 0, 0, 0), (0, 0, 0, 0), (3, 0, 0, 1), (12, 192, 1, 2), (0, 0, 0, 0), (0, 0, 0, 0), (16, 0, 0, 0), (28, 296, 12, 2), (0, 0, 0, 0), (0, 0, 0, 0), (1, 1, 1, 0), (29, 0, 0, 0)]
/-- ReedBenchModel.<init>()V -/
def xk_91 : List xI := [(3, 0, 0, 1), (26, 660, 0, 0), (0, 0, 0, 0), (0, 0, 0, 0), (3, 0, 0, 1), (1, 112, 2, 0), (0, 0, 0, 0), (20, 0, 0, 0), (0, 0, 0, 0), (13, 662, 7, 1), (0, 0, 0, 0), (0, 0, 0, 0), (3, 0, 0, 1), (1, 672, 3, 0), (0, 0, 0, 0), (0, 0, 0, 0), (20, 0, 0, 0), (0, 0, 0, 0), (13, 663, 7, 2), (0, 0, 0, 0), (0, 0, 0, 0), (3, 0, 0, 1), (1, 8, 2, 0), (0, 0, 0, 0), (20, 0, 0, 0), (0, 0, 0, 0), (23, 0, 0, 0), (1, 0, 1, 0), (1, 0, 1, 0), (15, 0, 0, 0), (23, 0, 0, 0), (1, 1, 1, 0), (1, 200, 3, 0), (0, 0, 0, 0), (0, 0, 0, 0), (15, 0, 0, 0), (23, 0, 0, 0), (1, 2, 1, 0), (1, 400, 3, 0), (0, 0, 0, 0), (0, 0, 0, 0), (15, 0, 0, 0), (23, 0, 0, 0), (1, 3, 1, 0), (1, 500, 3, 0), (0, 0, 0, 0), (0, 0, 0, 0), (15, 0, 0, 0), (23, 0, 0, 0), (1, 4, 1, 0), (1, 700, 3, 0), (0, 0, 0, 0), (0, 0, 0, 0), (15, 0, 0, 0), (23, 0, 0, 0), (1, 5, 1, 0), (1, 900, 3, 0), (0, 0, 0, 0), (0, 0, 0, 0), (15, 0, 0, 0), (23, 0, 0, 0), (1, 6, 2, 0), (0, 0, 0, 0), (1, 1100, 3, 0), (0, 0, 0, 0), (0, 0, 0, 0), (15, 0, 0, 0), (23, 0, 0, 0), (1, 7, 2, 0), (0, 0, 0, 0), (1, 1200, 3, 0), (0, 0, 0, 0), (0, 0, 0, 0), (15, 0, 0, 0), (13, 666, 7, 5), (0, 0, 0, 0), (0, 0, 0, 0), (3, 0, 0, 1), (1, 8, 2, 0), (0, 0, 0, 0), (20, 0, 0, 0), (0, 0, 0, 0), (23, 0, 0, 0), (1, 0, 1, 0), (1, 0, 1, 0), (15, 0, 0, 0), (23, 0, 0, 0), (1, 1, 1, 0), (1, 204, 3, 0), (0, 0, 0, 0), (0, 0, 0, 0), (15, 0, 0, 0), (23, 0, 0, 0), (1, 2, 1, 0), (1, 386, 3, 0), (0, 0, 0, 0), (0, 0, 0, 0), (15, 0, 0, 0), (23, 0, 0, 0), (1, 3, 1, 0), (1, 498, 3, 0), (0, 0, 0, 0), (0, 0, 0, 0), (15, 0, 0, 0), (23, 0, 0, 0), (1, 4, 1, 0), (1, 702, 3, 0), (0, 0, 0, 0), (0, 0, 0, 0), (15, 0, 0, 0), (23, 0, 0, 0), (1, 5, 1, 0), (1, 884, 3, 0), (0, 0, 0, 0), (0, 0, 0, 0), (15, 0, 0, 0), (23, 0, 0, 0), (1, 6, 2, 0), (0, 0, 0, 0), (1, 1088, 3, 0), (0, 0, 0, 0), (0, 0, 0, 0), (15, 0, 0, 0), (23, 0, 0, 0), (1, 7, 2, 0), (0, 0, 0, 0), (1, 1200, 3, 0), (0, 0, 0, 0), (0, 0, 0, 0), (15, 0, 0, 0), (13, 667, 7, 6), (0, 0, 0, 0), (0, 0, 0, 0), (3, 0, 0, 1), (1, 8, 2, 0), (0, 0, 0, 0), (20, 0, 0, 0), (0, 0, 0, 0), (23, 0, 0, 0), (1, 0, 1, 0), (1, 0, 1, 0), (15, 0, 0, 0), (23, 0, 0, 0), (1, 1, 1, 0), (1, 0, 1, 0), (15, 0, 0, 0), (23, 0, 0, 0), (1, 2, 1, 0), (1, 400, 3, 0), (0, 0, 0, 0), (0, 0, 0, 0), (15, 0, 0, 0), (23, 0, 0, 0), (1, 3, 1, 0), (1, 400, 3, 0), (0, 0, 0, 0), (0, 0, 0, 0), (15, 0, 0, 0), (23, 0, 0, 0), (1, 4, 1, 0), (1, 700, 3, 0), (0, 0, 0, 0), (0, 0, 0, 0), (15, 0, 0, 0), (23, 0, 0, 0), (1, 5, 1, 0), (1, 700, 3, 0), (0, 0, 0, 0), (0, 0, 0, 0), (15, 0, 0, 0), (23, 0, 0, 0), (1, 6, 2, 0), (0, 0, 0, 0), (1, 1200, 3, 0), (0, 0, 0, 0), (0, 0, 0, 0), (15, 0, 0, 0), (23, 0, 0, 0), (1, 7, 2, 0), (0, 0, 0, 0), (1, 1200, 3, 0), (0, 0, 0, 0), (0, 0, 0, 0), (15, 0, 0, 0), (13, 668, 7, 7), (0, 0, 0, 0), (0, 0, 0, 0), (3, 0, 0, 1), (1, 202, 3, 0), (0, 0, 0, 0), (0, 0, 0, 0), (20, 0, 0, 0), (0, 0, 0, 0), (13, 669, 7, 8), (0, 0, 0, 0), (0, 0, 0, 0), (3, 0, 0, 1), (1, 202, 3, 0), (0, 0, 0, 0), (0, 0, 0, 0), (20, 0, 0, 0), (0, 0, 0, 0), (13, 670, 7, 9), (0, 0, 0, 0), (0, 0, 0, 0), (3, 0, 0, 1), (1, 96, 2, 0), (0, 0, 0, 0), (20, 0, 0, 0), (0, 0, 0, 0), (13, 677, 7, 16), (0, 0, 0, 0), (0, 0, 0, 0), (3, 0, 0, 1), (1, 576, 3, 0), (0, 0, 0, 0), (0, 0, 0, 0), (20, 0, 0, 0), (0, 0, 0, 0), (13, 678, 7, 17), (0, 0, 0, 0), (0, 0, 0, 0), (3, 0, 0, 1), (1, 20480, 3, 0), (0, 0, 0, 0), (0, 0, 0, 0), (20, 0, 0, 0), (0, 0, 0, 0), (13, 679, 7, 18), (0, 0, 0, 0), (0, 0, 0, 0), (3, 0, 0, 1), (1, 20480, 3, 0), (0, 0, 0, 0), (0, 0, 0, 0), (20, 0, 0, 0), (0, 0, 0, 0), (13, 680, 7, 19), (0, 0, 0, 0), (0, 0, 0, 0), (3, 0, 0, 1), (1, 8, 2, 0), (0, 0, 0, 0), (20, 0, 0, 0), (0, 0, 0, 0), (13, 683, 7, 22), (0, 0, 0, 0), (0, 0, 0, 0), (30, 0, 0, 0)]
/-- ReedBenchModel.undo()Z -/
def xk_92 : List xI := [(3, 0, 0, 1), (1, 0, 1, 0), (13, 661, 7, 0), (0, 0, 0, 0), (0, 0, 0, 0), (3, 0, 0, 1), (28, 735, 93, 1), (0, 0, 0, 0), (0, 0, 0, 0), (3, 0, 0, 1), (12, 664, 7, 3), (0, 0, 0, 0), (0, 0, 0, 0), (9, 0, 1, 18), (0, 0, 0, 0), (0, 0, 0, 0), (1, 0, 1, 0), (29, 0, 0, 0), (3, 0, 0, 1), (3, 0, 0, 1), (12, 664, 7, 3), (0, 0, 0, 0), (0, 0, 0, 0), (1, 1, 1, 0), (7, 0, 1, 0), (13, 664, 7, 3), (0, 0, 0, 0), (0, 0, 0, 0), (1, 0, 1, 0), (4, 0, 1, 1), (2, 0, 1, 1), (1, 112, 2, 0), (0, 0, 0, 0), (10, 0, 3, 62), (0, 0, 0, 0), (0, 0, 0, 0), (3, 0, 0, 1), (12, 662, 7, 1), (0, 0, 0, 0), (0, 0, 0, 0), (2, 0, 1, 1), (3, 0, 0, 1), (12, 663, 7, 2), (0, 0, 0, 0), (0, 0, 0, 0), (3, 0, 0, 1), (12, 664, 7, 3), (0, 0, 0, 0), (0, 0, 0, 0), (1, 112, 2, 0), (0, 0, 0, 0), (7, 0, 2, 0), (2, 0, 1, 1), (7, 0, 0, 0), (14, 0, 0, 0), (15, 0, 0, 0), (6, 1, 1, 0), (0, 0, 0, 0), (0, 0, 0, 0), (11, 0, 0, 30), (0, 0, 0, 0), (0, 0, 0, 0), (1, 1, 1, 0), (29, 0, 0, 0)]
/-- ReedBenchModel.begins()V -/
def xk_93 : List xI := [(3, 0, 0, 1), (12, 665, 7, 4), (0, 0, 0, 0), (0, 0, 0, 0), (9, 0, 0, 8), (0, 0, 0, 0), (0, 0, 0, 0), (30, 0, 0, 0), (3, 0, 0, 1), (1, 1, 1, 0), (13, 665, 7, 4), (0, 0, 0, 0), (0, 0, 0, 0), (3, 0, 0, 1), (12, 662, 7, 1), (0, 0, 0, 0), (0, 0, 0, 0), (1, 1, 1, 0), (1, 6, 2, 0), (0, 0, 0, 0), (15, 0, 0, 0), (3, 0, 0, 1), (12, 662, 7, 1), (0, 0, 0, 0), (0, 0, 0, 0), (1, 2, 1, 0), (1, 5, 1, 0), (15, 0, 0, 0), (1, 0, 1, 0), (4, 0, 1, 1), (2, 0, 1, 1), (1, 8, 2, 0), (0, 0, 0, 0), (10, 0, 3, 51), (0, 0, 0, 0), (0, 0, 0, 0), (3, 0, 0, 1), (12, 662, 7, 1), (0, 0, 0, 0), (0, 0, 0, 0), (1, 4, 1, 0), (2, 0, 1, 1), (7, 0, 0, 0), (1, (-1), 1, 0), (15, 0, 0, 0), (6, 1, 1, 0), (0, 0, 0, 0), (0, 0, 0, 0), (11, 0, 0, 30), (0, 0, 0, 0), (0, 0, 0, 0), (1, 0, 1, 0), (4, 0, 1, 1), (2, 0, 1, 1), (1, 4, 1, 0), (10, 0, 3, 74), (0, 0, 0, 0), (0, 0, 0, 0), (3, 0, 0, 1), (12, 662, 7, 1), (0, 0, 0, 0), (0, 0, 0, 0), (1, 12, 2, 0), (0, 0, 0, 0), (2, 0, 1, 1), (7, 0, 0, 0), (1, 1, 1, 0), (15, 0, 0, 0), (6, 1, 1, 0), (0, 0, 0, 0), (0, 0, 0, 0), (11, 0, 0, 53), (0, 0, 0, 0), (0, 0, 0, 0), (30, 0, 0, 0)]
/-- ReedBenchModel.reed(III)I -/
def xk_94 : List xI := [(3, 0, 0, 1), (1, 0, 1, 0), (13, 661, 7, 0), (0, 0, 0, 0), (0, 0, 0, 0), (3, 0, 0, 1), (28, 735, 93, 1), (0, 0, 0, 0), (0, 0, 0, 0), (2, 0, 1, 1), (9, 0, 2, 52), (0, 0, 0, 0), (0, 0, 0, 0), (2, 0, 1, 1), (1, 9999, 3, 0), (0, 0, 0, 0), (0, 0, 0, 0), (10, 0, 4, 52), (0, 0, 0, 0), (0, 0, 0, 0), (2, 0, 2, 1), (1, 1, 1, 0), (10, 0, 2, 52), (0, 0, 0, 0), (0, 0, 0, 0), (2, 0, 2, 1), (1, 20, 2, 0), (0, 0, 0, 0), (10, 0, 4, 52), (0, 0, 0, 0), (0, 0, 0, 0), (2, 0, 3, 1), (9, 0, 2, 52), (0, 0, 0, 0), (0, 0, 0, 0), (2, 0, 3, 1), (1, 20, 2, 0), (0, 0, 0, 0), (10, 0, 4, 52), (0, 0, 0, 0), (0, 0, 0, 0), (3, 0, 0, 1), (12, 662, 7, 1), (0, 0, 0, 0), (0, 0, 0, 0), (1, 0, 1, 0), (14, 0, 0, 0), (1, 12, 2, 0), (0, 0, 0, 0), (10, 0, 1, 54), (0, 0, 0, 0), (0, 0, 0, 0), (1, (-1), 1, 0), (29, 0, 0, 0), (3, 0, 0, 1), (28, 743, 95, 1), (0, 0, 0, 0), (0, 0, 0, 0), (1, 20, 2, 0), (0, 0, 0, 0), (1, 7, 2, 0), (0, 0, 0, 0), (3, 0, 0, 1), (12, 662, 7, 1), (0, 0, 0, 0), (0, 0, 0, 0), (1, 0, 1, 0), (14, 0, 0, 0), (7, 0, 2, 0), (7, 0, 0, 0), (4, 0, 4, 2), (0, 0, 0, 0), (3, 0, 0, 1), (12, 662, 7, 1), (0, 0, 0, 0), (0, 0, 0, 0), (2, 0, 4, 2), (0, 0, 0, 0), (2, 0, 1, 1), (15, 0, 0, 0), (3, 0, 0, 1), (12, 662, 7, 1), (0, 0, 0, 0), (0, 0, 0, 0), (2, 0, 4, 2), (0, 0, 0, 0), (1, 1, 1, 0), (7, 0, 0, 0), (2, 0, 2, 1), (15, 0, 0, 0), (3, 0, 0, 1), (12, 662, 7, 1), (0, 0, 0, 0), (0, 0, 0, 0), (2, 0, 4, 2), (0, 0, 0, 0), (1, 2, 1, 0), (7, 0, 0, 0), (2, 0, 3, 1), (15, 0, 0, 0), (3, 0, 0, 1), (12, 662, 7, 1), (0, 0, 0, 0), (0, 0, 0, 0), (2, 0, 4, 2), (0, 0, 0, 0), (1, 3, 1, 0), (7, 0, 0, 0), (1, 0, 1, 0), (15, 0, 0, 0), (3, 0, 0, 1), (12, 662, 7, 1), (0, 0, 0, 0), (0, 0, 0, 0), (2, 0, 4, 2), (0, 0, 0, 0), (1, 4, 1, 0), (7, 0, 0, 0), (1, (-1), 1, 0), (15, 0, 0, 0), (3, 0, 0, 1), (12, 662, 7, 1), (0, 0, 0, 0), (0, 0, 0, 0), (2, 0, 4, 2), (0, 0, 0, 0), (1, 5, 1, 0), (7, 0, 0, 0), (1, (-1), 1, 0), (15, 0, 0, 0), (3, 0, 0, 1), (12, 662, 7, 1), (0, 0, 0, 0), (0, 0, 0, 0), (2, 0, 4, 2), (0, 0, 0, 0), (1, 6, 2, 0), (0, 0, 0, 0), (7, 0, 0, 0), (1, 0, 1, 0), (15, 0, 0, 0), (3, 0, 0, 1), (12, 662, 7, 1), (0, 0, 0, 0), (0, 0, 0, 0), (1, 0, 1, 0), (3, 0, 0, 1), (12, 662, 7, 1), (0, 0, 0, 0), (0, 0, 0, 0), (1, 0, 1, 0), (14, 0, 0, 0), (1, 1, 1, 0), (7, 0, 0, 0), (15, 0, 0, 0), (3, 0, 0, 1), (12, 662, 7, 1), (0, 0, 0, 0), (0, 0, 0, 0), (1, 0, 1, 0), (14, 0, 0, 0), (1, 1, 1, 0), (7, 0, 1, 0), (29, 0, 0, 0)]
/-- ReedBenchModel.keep()V -/
def xk_95 : List xI := [(3, 0, 0, 1), (12, 664, 7, 3), (0, 0, 0, 0), (0, 0, 0, 0), (1, 6, 2, 0), (0, 0, 0, 0), (10, 0, 1, 44), (0, 0, 0, 0), (0, 0, 0, 0), (1, 0, 1, 0), (4, 0, 1, 1), (2, 0, 1, 1), (1, 560, 3, 0), (0, 0, 0, 0), (0, 0, 0, 0), (10, 0, 3, 39), (0, 0, 0, 0), (0, 0, 0, 0), (3, 0, 0, 1), (12, 663, 7, 2), (0, 0, 0, 0), (0, 0, 0, 0), (2, 0, 1, 1), (3, 0, 0, 1), (12, 663, 7, 2), (0, 0, 0, 0), (0, 0, 0, 0), (2, 0, 1, 1), (1, 112, 2, 0), (0, 0, 0, 0), (7, 0, 0, 0), (14, 0, 0, 0), (15, 0, 0, 0), (6, 1, 1, 0), (0, 0, 0, 0), (0, 0, 0, 0), (11, 0, 0, 11), (0, 0, 0, 0), (0, 0, 0, 0), (3, 0, 0, 1), (1, 5, 1, 0), (13, 664, 7, 3), (0, 0, 0, 0), (0, 0, 0, 0), (1, 0, 1, 0), (4, 0, 1, 1), (2, 0, 1, 1), (1, 112, 2, 0), (0, 0, 0, 0), (10, 0, 3, 78), (0, 0, 0, 0), (0, 0, 0, 0), (3, 0, 0, 1), (12, 663, 7, 2), (0, 0, 0, 0), (0, 0, 0, 0), (3, 0, 0, 1), (12, 664, 7, 3), (0, 0, 0, 0), (0, 0, 0, 0), (1, 112, 2, 0), (0, 0, 0, 0), (7, 0, 2, 0), (2, 0, 1, 1), (7, 0, 0, 0), (3, 0, 0, 1), (12, 662, 7, 1), (0, 0, 0, 0), (0, 0, 0, 0), (2, 0, 1, 1), (14, 0, 0, 0), (15, 0, 0, 0), (6, 1, 1, 0), (0, 0, 0, 0), (0, 0, 0, 0), (11, 0, 0, 46), (0, 0, 0, 0), (0, 0, 0, 0), (3, 0, 0, 1), (3, 0, 0, 1), (12, 664, 7, 3), (0, 0, 0, 0), (0, 0, 0, 0), (1, 1, 1, 0), (7, 0, 0, 0), (13, 664, 7, 3), (0, 0, 0, 0), (0, 0, 0, 0), (30, 0, 0, 0)]
/-- ReedBenchModel.scrap(I)Z -/
def xk_96 : List xI := [(3, 0, 0, 1), (1, 0, 1, 0), (13, 661, 7, 0), (0, 0, 0, 0), (0, 0, 0, 0), (3, 0, 0, 1), (28, 735, 93, 1), (0, 0, 0, 0), (0, 0, 0, 0), (3, 0, 0, 1), (2, 0, 1, 1), (28, 751, 97, 2), (0, 0, 0, 0), (0, 0, 0, 0), (9, 0, 0, 25), (0, 0, 0, 0), (0, 0, 0, 0), (3, 0, 0, 1), (2, 0, 1, 1), (28, 755, 98, 2), (0, 0, 0, 0), (0, 0, 0, 0), (9, 0, 1, 27), (0, 0, 0, 0), (0, 0, 0, 0), (1, 0, 1, 0), (29, 0, 0, 0), (3, 0, 0, 1), (28, 743, 95, 1), (0, 0, 0, 0), (0, 0, 0, 0), (3, 0, 0, 1), (12, 662, 7, 1), (0, 0, 0, 0), (0, 0, 0, 0), (1, 20, 2, 0), (0, 0, 0, 0), (1, 7, 2, 0), (0, 0, 0, 0), (2, 0, 1, 1), (7, 0, 2, 0), (7, 0, 0, 0), (1, 3, 1, 0), (7, 0, 0, 0), (1, 2, 1, 0), (15, 0, 0, 0), (1, 1, 1, 0), (29, 0, 0, 0)]
/-- ReedBenchModel.isReed(I)Z -/
def xk_97 : List xI := [(2, 0, 1, 1), (9, 0, 2, 18), (0, 0, 0, 0), (0, 0, 0, 0), (2, 0, 1, 1), (3, 0, 0, 1), (12, 662, 7, 1), (0, 0, 0, 0), (0, 0, 0, 0), (1, 0, 1, 0), (14, 0, 0, 0), (10, 0, 3, 18), (0, 0, 0, 0), (0, 0, 0, 0), (1, 1, 1, 0), (11, 0, 0, 19), (0, 0, 0, 0), (0, 0, 0, 0), (1, 0, 1, 0), (29, 0, 0, 0)]
/-- ReedBenchModel.isFree(I)Z -/
def xk_98 : List xI := [(3, 0, 0, 1), (2, 0, 1, 1), (1, 3, 1, 0), (28, 759, 99, 3), (0, 0, 0, 0), (0, 0, 0, 0), (9, 0, 1, 13), (0, 0, 0, 0), (0, 0, 0, 0), (1, 1, 1, 0), (11, 0, 0, 14), (0, 0, 0, 0), (0, 0, 0, 0), (1, 0, 1, 0), (29, 0, 0, 0)]
/-- ReedBenchModel.reedAt(II)I -/
def xk_99 : List xI := [(3, 0, 0, 1), (12, 662, 7, 1), (0, 0, 0, 0), (0, 0, 0, 0), (1, 20, 2, 0), (0, 0, 0, 0), (1, 7, 2, 0), (0, 0, 0, 0), (2, 0, 1, 1), (7, 0, 2, 0), (7, 0, 0, 0), (2, 0, 2, 1), (7, 0, 0, 0), (14, 0, 0, 0), (29, 0, 0, 0)]
/-- ReedBenchModel.rates(II)Z -/
def xk_100 : List xI := [(3, 0, 0, 1), (1, 0, 1, 0), (13, 661, 7, 0), (0, 0, 0, 0), (0, 0, 0, 0), (3, 0, 0, 1), (28, 735, 93, 1), (0, 0, 0, 0), (0, 0, 0, 0), (2, 0, 1, 1), (1, 1, 1, 0), (10, 0, 2, 30), (0, 0, 0, 0), (0, 0, 0, 0), (2, 0, 1, 1), (1, 20, 2, 0), (0, 0, 0, 0), (10, 0, 4, 30), (0, 0, 0, 0), (0, 0, 0, 0), (2, 0, 2, 1), (9, 0, 2, 30), (0, 0, 0, 0), (0, 0, 0, 0), (2, 0, 2, 1), (1, 50, 2, 0), (0, 0, 0, 0), (10, 0, 5, 32), (0, 0, 0, 0), (0, 0, 0, 0), (1, 0, 1, 0), (29, 0, 0, 0), (3, 0, 0, 1), (28, 743, 95, 1), (0, 0, 0, 0), (0, 0, 0, 0), (3, 0, 0, 1), (12, 662, 7, 1), (0, 0, 0, 0), (0, 0, 0, 0), (1, 1, 1, 0), (2, 0, 1, 1), (15, 0, 0, 0), (3, 0, 0, 1), (12, 662, 7, 1), (0, 0, 0, 0), (0, 0, 0, 0), (1, 2, 1, 0), (2, 0, 2, 1), (15, 0, 0, 0), (1, 1, 1, 0), (29, 0, 0, 0)]
/-- ReedBenchModel.want(II)Z -/
def xk_101 : List xI := [(3, 0, 0, 1), (1, 0, 1, 0), (13, 661, 7, 0), (0, 0, 0, 0), (0, 0, 0, 0), (3, 0, 0, 1), (28, 735, 93, 1), (0, 0, 0, 0), (0, 0, 0, 0), (2, 0, 1, 1), (9, 0, 2, 31), (0, 0, 0, 0), (0, 0, 0, 0), (2, 0, 1, 1), (1, 7, 2, 0), (0, 0, 0, 0), (10, 0, 4, 31), (0, 0, 0, 0), (0, 0, 0, 0), (2, 0, 2, 1), (1, (-1), 1, 0), (10, 0, 2, 31), (0, 0, 0, 0), (0, 0, 0, 0), (2, 0, 2, 1), (1, 9999, 3, 0), (0, 0, 0, 0), (0, 0, 0, 0), (10, 0, 5, 33), (0, 0, 0, 0), (0, 0, 0, 0), (1, 0, 1, 0), (29, 0, 0, 0), (3, 0, 0, 1), (28, 743, 95, 1), (0, 0, 0, 0), (0, 0, 0, 0), (3, 0, 0, 1), (12, 662, 7, 1), (0, 0, 0, 0), (0, 0, 0, 0), (1, 4, 1, 0), (2, 0, 1, 1), (7, 0, 0, 0), (2, 0, 2, 1), (15, 0, 0, 0), (1, 1, 1, 0), (29, 0, 0, 0)]
/-- ReedBenchModel.tuning(II)Z -/
def xk_102 : List xI := [(3, 0, 0, 1), (1, 0, 1, 0), (13, 661, 7, 0), (0, 0, 0, 0), (0, 0, 0, 0), (3, 0, 0, 1), (28, 735, 93, 1), (0, 0, 0, 0), (0, 0, 0, 0), (2, 0, 1, 1), (9, 0, 2, 29), (0, 0, 0, 0), (0, 0, 0, 0), (2, 0, 1, 1), (1, 2, 1, 0), (10, 0, 4, 29), (0, 0, 0, 0), (0, 0, 0, 0), (2, 0, 2, 1), (9, 0, 2, 29), (0, 0, 0, 0), (0, 0, 0, 0), (2, 0, 2, 1), (1, 8000, 3, 0), (0, 0, 0, 0), (0, 0, 0, 0), (10, 0, 5, 31), (0, 0, 0, 0), (0, 0, 0, 0), (1, 0, 1, 0), (29, 0, 0, 0), (3, 0, 0, 1), (28, 743, 95, 1), (0, 0, 0, 0), (0, 0, 0, 0), (1, 0, 1, 0), (4, 0, 3, 1), (2, 0, 3, 1), (1, 8, 2, 0), (0, 0, 0, 0), (10, 0, 3, 92), (0, 0, 0, 0), (0, 0, 0, 0), (3, 0, 0, 1), (12, 662, 7, 1), (0, 0, 0, 0), (0, 0, 0, 0), (1, 4, 1, 0), (2, 0, 3, 1), (7, 0, 0, 0), (2, 0, 2, 1), (2, 0, 1, 1), (9, 0, 1, 64), (0, 0, 0, 0), (0, 0, 0, 0), (3, 0, 0, 1), (12, 666, 7, 5), (0, 0, 0, 0), (0, 0, 0, 0), (2, 0, 3, 1), (14, 0, 0, 0), (11, 0, 0, 84), (0, 0, 0, 0), (0, 0, 0, 0), (2, 0, 1, 1), (1, 1, 1, 0), (10, 0, 1, 78), (0, 0, 0, 0), (0, 0, 0, 0), (3, 0, 0, 1), (12, 667, 7, 6), (0, 0, 0, 0), (0, 0, 0, 0), (2, 0, 3, 1), (14, 0, 0, 0), (11, 0, 0, 84), (0, 0, 0, 0), (0, 0, 0, 0), (3, 0, 0, 1), (12, 668, 7, 7), (0, 0, 0, 0), (0, 0, 0, 0), (2, 0, 3, 1), (14, 0, 0, 0), (7, 0, 0, 0), (15, 0, 0, 0), (6, 1, 3, 0), (0, 0, 0, 0), (0, 0, 0, 0), (11, 0, 0, 37), (0, 0, 0, 0), (0, 0, 0, 0), (1, 1, 1, 0), (29, 0, 0, 0)]
/-- ReedBenchModel.beat(III)Z -/
def xk_103 : List xI := [(3, 0, 0, 1), (1, 0, 1, 0), (13, 661, 7, 0), (0, 0, 0, 0), (0, 0, 0, 0), (3, 0, 0, 1), (28, 735, 93, 1), (0, 0, 0, 0), (0, 0, 0, 0), (2, 0, 1, 1), (9, 0, 2, 42), (0, 0, 0, 0), (0, 0, 0, 0), (2, 0, 1, 1), (1, 3, 1, 0), (10, 0, 4, 42), (0, 0, 0, 0), (0, 0, 0, 0), (2, 0, 2, 1), (1, (-100), 2, 0), (0, 0, 0, 0), (10, 0, 2, 42), (0, 0, 0, 0), (0, 0, 0, 0), (2, 0, 2, 1), (1, 100, 2, 0), (0, 0, 0, 0), (10, 0, 4, 42), (0, 0, 0, 0), (0, 0, 0, 0), (2, 0, 3, 1), (1, (-100), 2, 0), (0, 0, 0, 0), (10, 0, 2, 42), (0, 0, 0, 0), (0, 0, 0, 0), (2, 0, 3, 1), (1, 100, 2, 0), (0, 0, 0, 0), (10, 0, 5, 44), (0, 0, 0, 0), (0, 0, 0, 0), (1, 0, 1, 0), (29, 0, 0, 0), (3, 0, 0, 1), (28, 743, 95, 1), (0, 0, 0, 0), (0, 0, 0, 0), (3, 0, 0, 1), (12, 662, 7, 1), (0, 0, 0, 0), (0, 0, 0, 0), (1, 12, 2, 0), (0, 0, 0, 0), (2, 0, 1, 1), (7, 0, 0, 0), (2, 0, 2, 1), (15, 0, 0, 0), (3, 0, 0, 1), (12, 662, 7, 1), (0, 0, 0, 0), (0, 0, 0, 0), (1, 16, 2, 0), (0, 0, 0, 0), (2, 0, 1, 1), (7, 0, 0, 0), (2, 0, 3, 1), (15, 0, 0, 0), (1, 1, 1, 0), (29, 0, 0, 0)]
/-- ReedBenchModel.file(III)I -/
def xk_104 : List xI := [(3, 0, 0, 1), (1, 0, 1, 0), (13, 661, 7, 0), (0, 0, 0, 0), (0, 0, 0, 0), (3, 0, 0, 1), (28, 735, 93, 1), (0, 0, 0, 0), (0, 0, 0, 0), (3, 0, 0, 1), (2, 0, 1, 1), (28, 751, 97, 2), (0, 0, 0, 0), (0, 0, 0, 0), (9, 0, 0, 35), (0, 0, 0, 0), (0, 0, 0, 0), (3, 0, 0, 1), (2, 0, 1, 1), (28, 755, 98, 2), (0, 0, 0, 0), (0, 0, 0, 0), (9, 0, 0, 35), (0, 0, 0, 0), (0, 0, 0, 0), (3, 0, 0, 1), (2, 0, 1, 1), (2, 0, 2, 1), (2, 0, 3, 1), (28, 783, 105, 4), (0, 0, 0, 0), (0, 0, 0, 0), (9, 0, 1, 38), (0, 0, 0, 0), (0, 0, 0, 0), (1, (-100000), 2, 787), (0, 0, 0, 0), (29, 0, 0, 0), (3, 0, 0, 1), (28, 743, 95, 1), (0, 0, 0, 0), (0, 0, 0, 0), (3, 0, 0, 1), (2, 0, 1, 1), (2, 0, 2, 1), (2, 0, 3, 1), (28, 788, 106, 4), (0, 0, 0, 0), (0, 0, 0, 0), (3, 0, 0, 1), (2, 0, 1, 1), (1, 0, 1, 0), (28, 759, 99, 3), (0, 0, 0, 0), (0, 0, 0, 0), (29, 0, 0, 0)]
/-- ReedBenchModel.canFile(III)Z -/
def xk_105 : List xI := [(2, 0, 2, 1), (9, 0, 2, 32), (0, 0, 0, 0), (0, 0, 0, 0), (2, 0, 2, 1), (3, 0, 0, 1), (2, 0, 1, 1), (1, 2, 1, 0), (28, 759, 99, 3), (0, 0, 0, 0), (0, 0, 0, 0), (10, 0, 4, 32), (0, 0, 0, 0), (0, 0, 0, 0), (2, 0, 3, 1), (9, 0, 2, 32), (0, 0, 0, 0), (0, 0, 0, 0), (2, 0, 3, 1), (3, 0, 0, 1), (2, 0, 1, 1), (1, 1, 1, 0), (28, 759, 99, 3), (0, 0, 0, 0), (0, 0, 0, 0), (10, 0, 3, 32), (0, 0, 0, 0), (0, 0, 0, 0), (1, 1, 1, 0), (11, 0, 0, 33), (0, 0, 0, 0), (0, 0, 0, 0), (1, 0, 1, 0), (29, 0, 0, 0)]
/-- ReedBenchModel.files(III)V -/
def xk_106 : List xI := [(1, 20, 2, 0), (0, 0, 0, 0), (1, 7, 2, 0), (0, 0, 0, 0), (2, 0, 1, 1), (7, 0, 2, 0), (7, 0, 0, 0), (4, 0, 4, 2), (0, 0, 0, 0), (3, 0, 0, 1), (12, 662, 7, 1), (0, 0, 0, 0), (0, 0, 0, 0), (2, 0, 4, 2), (0, 0, 0, 0), (3, 0, 0, 1), (2, 0, 1, 1), (2, 0, 2, 1), (2, 0, 3, 1), (28, 792, 107, 4), (0, 0, 0, 0), (0, 0, 0, 0), (15, 0, 0, 0), (3, 0, 0, 1), (12, 662, 7, 1), (0, 0, 0, 0), (0, 0, 0, 0), (2, 0, 4, 2), (0, 0, 0, 0), (1, 1, 1, 0), (7, 0, 0, 0), (3, 0, 0, 1), (12, 662, 7, 1), (0, 0, 0, 0), (0, 0, 0, 0), (2, 0, 4, 2), (0, 0, 0, 0), (1, 1, 1, 0), (7, 0, 0, 0), (14, 0, 0, 0), (2, 0, 3, 1), (7, 0, 1, 0), (15, 0, 0, 0), (3, 0, 0, 1), (12, 662, 7, 1), (0, 0, 0, 0), (0, 0, 0, 0), (2, 0, 4, 2), (0, 0, 0, 0), (1, 2, 1, 0), (7, 0, 0, 0), (3, 0, 0, 1), (12, 662, 7, 1), (0, 0, 0, 0), (0, 0, 0, 0), (2, 0, 4, 2), (0, 0, 0, 0), (1, 2, 1, 0), (7, 0, 0, 0), (14, 0, 0, 0), (2, 0, 2, 1), (7, 0, 1, 0), (15, 0, 0, 0), (3, 0, 0, 1), (12, 662, 7, 1), (0, 0, 0, 0), (0, 0, 0, 0), (2, 0, 4, 2), (0, 0, 0, 0), (1, 6, 2, 0), (0, 0, 0, 0), (7, 0, 0, 0), (3, 0, 0, 1), (12, 662, 7, 1), (0, 0, 0, 0), (0, 0, 0, 0), (2, 0, 4, 2), (0, 0, 0, 0), (1, 6, 2, 0), (0, 0, 0, 0), (7, 0, 0, 0), (14, 0, 0, 0), (2, 0, 2, 1), (7, 0, 0, 0), (2, 0, 3, 1), (7, 0, 0, 0), (15, 0, 0, 0), (30, 0, 0, 0)]
/-- ReedBenchModel.pitch(III)I -/
def xk_107 : List xI := [(3, 0, 0, 1), (2, 0, 1, 1), (1, 0, 1, 0), (28, 759, 99, 3), (0, 0, 0, 0), (0, 0, 0, 0), (2, 0, 2, 1), (3, 0, 0, 1), (12, 662, 7, 1), (0, 0, 0, 0), (0, 0, 0, 0), (1, 1, 1, 0), (14, 0, 0, 0), (7, 0, 2, 0), (7, 0, 0, 0), (2, 0, 3, 1), (3, 0, 0, 1), (2, 0, 1, 1), (1, 1, 1, 0), (28, 759, 99, 3), (0, 0, 0, 0), (0, 0, 0, 0), (7, 0, 2, 0), (2, 0, 3, 1), (2, 0, 3, 1), (1, 1, 1, 0), (7, 0, 1, 0), (7, 0, 2, 0), (1, 2, 1, 0), (7, 0, 3, 0), (7, 0, 1, 0), (7, 0, 1, 0), (29, 0, 0, 0)]
/-- ReedBenchModel.look(I)I -/
def xk_108 : List xI := [(3, 0, 0, 1), (1, 0, 1, 0), (13, 661, 7, 0), (0, 0, 0, 0), (0, 0, 0, 0), (3, 0, 0, 1), (28, 735, 93, 1), (0, 0, 0, 0), (0, 0, 0, 0), (2, 0, 1, 1), (9, 0, 1, 20), (0, 0, 0, 0), (0, 0, 0, 0), (3, 0, 0, 1), (12, 662, 7, 1), (0, 0, 0, 0), (0, 0, 0, 0), (1, 0, 1, 0), (14, 0, 0, 0), (29, 0, 0, 0), (2, 0, 1, 1), (1, 1, 1, 0), (10, 0, 1, 59), (0, 0, 0, 0), (0, 0, 0, 0), (1, 0, 1, 0), (4, 0, 2, 1), (1, 0, 1, 0), (4, 0, 3, 1), (2, 0, 3, 1), (3, 0, 0, 1), (12, 662, 7, 1), (0, 0, 0, 0), (0, 0, 0, 0), (1, 0, 1, 0), (14, 0, 0, 0), (10, 0, 3, 57), (0, 0, 0, 0), (0, 0, 0, 0), (3, 0, 0, 1), (2, 0, 3, 1), (28, 755, 98, 2), (0, 0, 0, 0), (0, 0, 0, 0), (9, 0, 0, 51), (0, 0, 0, 0), (0, 0, 0, 0), (2, 0, 2, 1), (1, 1, 1, 0), (7, 0, 0, 0), (4, 0, 2, 1), (6, 1, 3, 0), (0, 0, 0, 0), (0, 0, 0, 0), (11, 0, 0, 29), (0, 0, 0, 0), (0, 0, 0, 0), (2, 0, 2, 1), (29, 0, 0, 0), (2, 0, 1, 1), (1, 2, 1, 0), (10, 0, 1, 71), (0, 0, 0, 0), (0, 0, 0, 0), (3, 0, 0, 1), (12, 662, 7, 1), (0, 0, 0, 0), (0, 0, 0, 0), (1, 1, 1, 0), (14, 0, 0, 0), (29, 0, 0, 0), (2, 0, 1, 1), (1, 3, 1, 0), (10, 0, 1, 83), (0, 0, 0, 0), (0, 0, 0, 0), (3, 0, 0, 1), (12, 662, 7, 1), (0, 0, 0, 0), (0, 0, 0, 0), (1, 2, 1, 0), (14, 0, 0, 0), (29, 0, 0, 0), (2, 0, 1, 1), (1, 4, 1, 0), (10, 0, 1, 120), (0, 0, 0, 0), (0, 0, 0, 0), (1, 0, 1, 0), (4, 0, 2, 1), (1, 0, 1, 0), (4, 0, 3, 1), (2, 0, 3, 1), (1, 8, 2, 0), (0, 0, 0, 0), (10, 0, 3, 118), (0, 0, 0, 0), (0, 0, 0, 0), (3, 0, 0, 1), (2, 0, 3, 1), (28, 800, 109, 2), (0, 0, 0, 0), (0, 0, 0, 0), (9, 0, 0, 112), (0, 0, 0, 0), (0, 0, 0, 0), (2, 0, 2, 1), (1, 1, 1, 0), (2, 0, 3, 1), (7, 0, 8, 0), (7, 0, 6, 0), (4, 0, 2, 1), (6, 1, 3, 0), (0, 0, 0, 0), (0, 0, 0, 0), (11, 0, 0, 92), (0, 0, 0, 0), (0, 0, 0, 0), (2, 0, 2, 1), (29, 0, 0, 0), (2, 0, 1, 1), (1, 5, 1, 0), (10, 0, 1, 132), (0, 0, 0, 0), (0, 0, 0, 0), (3, 0, 0, 1), (12, 662, 7, 1), (0, 0, 0, 0), (0, 0, 0, 0), (1, 3, 1, 0), (14, 0, 0, 0), (29, 0, 0, 0), (2, 0, 1, 1), (1, 10, 2, 0), (0, 0, 0, 0), (10, 0, 2, 156), (0, 0, 0, 0), (0, 0, 0, 0), (2, 0, 1, 1), (1, 18, 2, 0), (0, 0, 0, 0), (10, 0, 3, 156), (0, 0, 0, 0), (0, 0, 0, 0), (3, 0, 0, 1), (12, 662, 7, 1), (0, 0, 0, 0), (0, 0, 0, 0), (1, 4, 1, 0), (2, 0, 1, 1), (7, 0, 0, 0), (1, 10, 2, 0), (0, 0, 0, 0), (7, 0, 1, 0), (14, 0, 0, 0), (29, 0, 0, 0), (2, 0, 1, 1), (1, 20, 2, 0), (0, 0, 0, 0), (10, 0, 2, 168), (0, 0, 0, 0), (0, 0, 0, 0), (2, 0, 1, 1), (1, 27, 2, 0), (0, 0, 0, 0), (10, 0, 5, 172), (0, 0, 0, 0), (0, 0, 0, 0), (1, (-1001), 3, 0), (0, 0, 0, 0), (0, 0, 0, 0), (29, 0, 0, 0), (2, 0, 1, 1), (1, 20, 2, 0), (0, 0, 0, 0), (7, 0, 1, 0), (1, 2, 1, 0), (7, 0, 3, 0), (4, 0, 2, 1), (3, 0, 0, 1), (2, 0, 2, 1), (28, 804, 110, 2), (0, 0, 0, 0), (0, 0, 0, 0), (9, 0, 1, 193), (0, 0, 0, 0), (0, 0, 0, 0), (1, (-1001), 3, 0), (0, 0, 0, 0), (0, 0, 0, 0), (11, 0, 0, 220), (0, 0, 0, 0), (0, 0, 0, 0), (2, 0, 1, 1), (1, 2, 1, 0), (7, 0, 4, 0), (9, 0, 1, 211), (0, 0, 0, 0), (0, 0, 0, 0), (3, 0, 0, 1), (12, 662, 7, 1), (0, 0, 0, 0), (0, 0, 0, 0), (1, 12, 2, 0), (0, 0, 0, 0), (2, 0, 2, 1), (7, 0, 0, 0), (14, 0, 0, 0), (11, 0, 0, 220), (0, 0, 0, 0), (0, 0, 0, 0), (3, 0, 0, 1), (12, 662, 7, 1), (0, 0, 0, 0), (0, 0, 0, 0), (1, 16, 2, 0), (0, 0, 0, 0), (2, 0, 2, 1), (7, 0, 0, 0), (14, 0, 0, 0), (29, 0, 0, 0)]
/-- ReedBenchModel.isWanted(I)Z -/
def xk_109 : List xI := [(3, 0, 0, 1), (12, 662, 7, 1), (0, 0, 0, 0), (0, 0, 0, 0), (1, 4, 1, 0), (2, 0, 1, 1), (7, 0, 0, 0), (14, 0, 0, 0), (1, (-1), 1, 0), (10, 0, 0, 16), (0, 0, 0, 0), (0, 0, 0, 0), (1, 1, 1, 0), (11, 0, 0, 17), (0, 0, 0, 0), (0, 0, 0, 0), (1, 0, 1, 0), (29, 0, 0, 0)]
/-- ReedBenchModel.beats(I)Z -/
def xk_110 : List xI := [(3, 0, 0, 1), (12, 662, 7, 1), (0, 0, 0, 0), (0, 0, 0, 0), (1, 12, 2, 0), (0, 0, 0, 0), (2, 0, 1, 1), (7, 0, 0, 0), (14, 0, 0, 0), (3, 0, 0, 1), (12, 662, 7, 1), (0, 0, 0, 0), (0, 0, 0, 0), (1, 16, 2, 0), (0, 0, 0, 0), (2, 0, 1, 1), (7, 0, 0, 0), (14, 0, 0, 0), (10, 0, 4, 25), (0, 0, 0, 0), (0, 0, 0, 0), (1, 1, 1, 0), (11, 0, 0, 26), (0, 0, 0, 0), (0, 0, 0, 0), (1, 0, 1, 0), (29, 0, 0, 0)]
/-- ReedBenchModel.of(II)I -/
def xk_111 : List xI := [(3, 0, 0, 1), (1, 0, 1, 0), (13, 661, 7, 0), (0, 0, 0, 0), (0, 0, 0, 0), (3, 0, 0, 1), (28, 735, 93, 1), (0, 0, 0, 0), (0, 0, 0, 0), (3, 0, 0, 1), (2, 0, 1, 1), (28, 751, 97, 2), (0, 0, 0, 0), (0, 0, 0, 0), (9, 0, 0, 36), (0, 0, 0, 0), (0, 0, 0, 0), (2, 0, 2, 1), (9, 0, 2, 36), (0, 0, 0, 0), (0, 0, 0, 0), (2, 0, 2, 1), (1, 7, 2, 0), (0, 0, 0, 0), (10, 0, 3, 36), (0, 0, 0, 0), (0, 0, 0, 0), (3, 0, 0, 1), (2, 0, 1, 1), (2, 0, 2, 1), (28, 759, 99, 3), (0, 0, 0, 0), (0, 0, 0, 0), (11, 0, 0, 38), (0, 0, 0, 0), (0, 0, 0, 0), (1, (-100000), 2, 787), (0, 0, 0, 0), (29, 0, 0, 0)]
/-- ReedBenchModel.work(III)I -/
def xk_112 : List xI := [(3, 0, 0, 1), (1, 0, 1, 0), (13, 661, 7, 0), (0, 0, 0, 0), (0, 0, 0, 0), (3, 0, 0, 1), (28, 735, 93, 1), (0, 0, 0, 0), (0, 0, 0, 0), (3, 0, 0, 1), (2, 0, 1, 1), (28, 751, 97, 2), (0, 0, 0, 0), (0, 0, 0, 0), (9, 0, 0, 53), (0, 0, 0, 0), (0, 0, 0, 0), (2, 0, 2, 1), (9, 0, 2, 53), (0, 0, 0, 0), (0, 0, 0, 0), (2, 0, 2, 1), (1, 7, 2, 0), (0, 0, 0, 0), (10, 0, 4, 53), (0, 0, 0, 0), (0, 0, 0, 0), (3, 0, 0, 1), (2, 0, 2, 1), (28, 800, 109, 2), (0, 0, 0, 0), (0, 0, 0, 0), (9, 0, 0, 53), (0, 0, 0, 0), (0, 0, 0, 0), (2, 0, 3, 1), (9, 0, 2, 53), (0, 0, 0, 0), (0, 0, 0, 0), (2, 0, 3, 1), (1, 2, 1, 0), (10, 0, 4, 53), (0, 0, 0, 0), (0, 0, 0, 0), (3, 0, 0, 1), (2, 0, 1, 1), (2, 0, 2, 1), (28, 816, 113, 3), (0, 0, 0, 0), (0, 0, 0, 0), (9, 0, 1, 55), (0, 0, 0, 0), (0, 0, 0, 0), (1, (-1), 1, 0), (29, 0, 0, 0), (2, 0, 3, 1), (9, 0, 1, 66), (0, 0, 0, 0), (0, 0, 0, 0), (3, 0, 0, 1), (12, 671, 7, 10), (0, 0, 0, 0), (0, 0, 0, 0), (11, 0, 0, 87), (0, 0, 0, 0), (0, 0, 0, 0), (2, 0, 3, 1), (1, 1, 1, 0), (10, 0, 1, 78), (0, 0, 0, 0), (0, 0, 0, 0), (3, 0, 0, 1), (12, 672, 7, 11), (0, 0, 0, 0), (0, 0, 0, 0), (11, 0, 0, 87), (0, 0, 0, 0), (0, 0, 0, 0), (3, 0, 0, 1), (12, 671, 7, 10), (0, 0, 0, 0), (0, 0, 0, 0), (3, 0, 0, 1), (12, 672, 7, 11), (0, 0, 0, 0), (0, 0, 0, 0), (7, 0, 1, 0), (29, 0, 0, 0)]
/-- ReedBenchModel.works(II)Z -/
def xk_113 : List xI := [(3, 0, 0, 1), (1, 0, 1, 0), (2, 0, 1, 1), (2, 0, 2, 1), (28, 820, 114, 4), (0, 0, 0, 0), (0, 0, 0, 0), (3, 0, 0, 1), (1, 1000000, 2, 824), (0, 0, 0, 0), (13, 671, 7, 10), (0, 0, 0, 0), (0, 0, 0, 0), (1, 0, 1, 0), (4, 0, 3, 1), (2, 0, 3, 1), (1, 101, 2, 0), (0, 0, 0, 0), (10, 0, 3, 89), (0, 0, 0, 0), (0, 0, 0, 0), (3, 0, 0, 1), (12, 669, 7, 8), (0, 0, 0, 0), (0, 0, 0, 0), (2, 0, 3, 1), (14, 0, 0, 0), (3, 0, 0, 1), (12, 671, 7, 10), (0, 0, 0, 0), (0, 0, 0, 0), (10, 0, 4, 83), (0, 0, 0, 0), (0, 0, 0, 0), (3, 0, 0, 1), (12, 669, 7, 8), (0, 0, 0, 0), (0, 0, 0, 0), (2, 0, 3, 1), (14, 0, 0, 0), (3, 0, 0, 1), (12, 671, 7, 10), (0, 0, 0, 0), (0, 0, 0, 0), (10, 0, 1, 63), (0, 0, 0, 0), (0, 0, 0, 0), (3, 0, 0, 1), (12, 670, 7, 9), (0, 0, 0, 0), (0, 0, 0, 0), (2, 0, 3, 1), (14, 0, 0, 0), (3, 0, 0, 1), (12, 672, 7, 11), (0, 0, 0, 0), (0, 0, 0, 0), (10, 0, 2, 63), (0, 0, 0, 0), (0, 0, 0, 0), (11, 0, 0, 83), (0, 0, 0, 0), (0, 0, 0, 0), (3, 0, 0, 1), (3, 0, 0, 1), (12, 669, 7, 8), (0, 0, 0, 0), (0, 0, 0, 0), (2, 0, 3, 1), (14, 0, 0, 0), (13, 671, 7, 10), (0, 0, 0, 0), (0, 0, 0, 0), (3, 0, 0, 1), (3, 0, 0, 1), (12, 670, 7, 9), (0, 0, 0, 0), (0, 0, 0, 0), (2, 0, 3, 1), (14, 0, 0, 0), (13, 672, 7, 11), (0, 0, 0, 0), (0, 0, 0, 0), (6, 1, 3, 0), (0, 0, 0, 0), (0, 0, 0, 0), (11, 0, 0, 15), (0, 0, 0, 0), (0, 0, 0, 0), (3, 0, 0, 1), (12, 671, 7, 10), (0, 0, 0, 0), (0, 0, 0, 0), (1, 1000000, 2, 824), (0, 0, 0, 0), (10, 0, 3, 102), (0, 0, 0, 0), (0, 0, 0, 0), (1, 1, 1, 0), (11, 0, 0, 103), (0, 0, 0, 0), (0, 0, 0, 0), (1, 0, 1, 0), (29, 0, 0, 0)]
/-- ReedBenchModel.reach(III)V -/
def xk_114 : List xI := [(1, 0, 1, 0), (4, 0, 4, 2), (0, 0, 0, 0), (2, 0, 4, 2), (0, 0, 0, 0), (1, 101, 2, 0), (0, 0, 0, 0), (10, 0, 3, 30), (0, 0, 0, 0), (0, 0, 0, 0), (3, 0, 0, 1), (12, 669, 7, 8), (0, 0, 0, 0), (0, 0, 0, 0), (1, 101, 2, 0), (0, 0, 0, 0), (2, 0, 1, 1), (7, 0, 2, 0), (2, 0, 4, 2), (0, 0, 0, 0), (7, 0, 0, 0), (1, 1000000, 2, 824), (0, 0, 0, 0), (15, 0, 0, 0), (6, 1, 4, 0), (0, 0, 0, 0), (0, 0, 0, 0), (11, 0, 0, 3), (0, 0, 0, 0), (0, 0, 0, 0), (1, 0, 1, 0), (4, 0, 4, 2), (0, 0, 0, 0), (2, 0, 4, 2), (0, 0, 0, 0), (3, 0, 0, 1), (2, 0, 2, 1), (1, 2, 1, 0), (28, 759, 99, 3), (0, 0, 0, 0), (0, 0, 0, 0), (10, 0, 4, 194), (0, 0, 0, 0), (0, 0, 0, 0), (1, 0, 1, 0), (4, 0, 5, 2), (0, 0, 0, 0), (2, 0, 5, 2), (0, 0, 0, 0), (3, 0, 0, 1), (2, 0, 2, 1), (1, 1, 1, 0), (28, 759, 99, 3), (0, 0, 0, 0), (0, 0, 0, 0), (10, 0, 3, 188), (0, 0, 0, 0), (0, 0, 0, 0), (3, 0, 0, 1), (2, 0, 2, 1), (2, 0, 4, 2), (0, 0, 0, 0), (2, 0, 5, 2), (0, 0, 0, 0), (28, 792, 107, 4), (0, 0, 0, 0), (0, 0, 0, 0), (3, 0, 0, 1), (12, 662, 7, 1), (0, 0, 0, 0), (0, 0, 0, 0), (1, 4, 1, 0), (2, 0, 3, 1), (7, 0, 0, 0), (14, 0, 0, 0), (7, 0, 1, 0), (4, 0, 6, 2), (0, 0, 0, 0), (2, 0, 6, 2), (0, 0, 0, 0), (3, 0, 0, 1), (12, 662, 7, 1), (0, 0, 0, 0), (0, 0, 0, 0), (1, 2, 1, 0), (14, 0, 0, 0), (8, 0, 0, 0), (10, 0, 2, 182), (0, 0, 0, 0), (0, 0, 0, 0), (2, 0, 6, 2), (0, 0, 0, 0), (3, 0, 0, 1), (12, 662, 7, 1), (0, 0, 0, 0), (0, 0, 0, 0), (1, 2, 1, 0), (14, 0, 0, 0), (10, 0, 5, 104), (0, 0, 0, 0), (0, 0, 0, 0), (11, 0, 0, 182), (0, 0, 0, 0), (0, 0, 0, 0), (1, 101, 2, 0), (0, 0, 0, 0), (2, 0, 1, 1), (7, 0, 2, 0), (2, 0, 6, 2), (0, 0, 0, 0), (7, 0, 0, 0), (1, 50, 2, 0), (0, 0, 0, 0), (7, 0, 0, 0), (4, 0, 7, 2), (0, 0, 0, 0), (2, 0, 4, 2), (0, 0, 0, 0), (2, 0, 5, 2), (0, 0, 0, 0), (7, 0, 0, 0), (3, 0, 0, 1), (12, 669, 7, 8), (0, 0, 0, 0), (0, 0, 0, 0), (2, 0, 7, 2), (0, 0, 0, 0), (14, 0, 0, 0), (10, 0, 4, 182), (0, 0, 0, 0), (0, 0, 0, 0), (2, 0, 4, 2), (0, 0, 0, 0), (2, 0, 5, 2), (0, 0, 0, 0), (7, 0, 0, 0), (3, 0, 0, 1), (12, 669, 7, 8), (0, 0, 0, 0), (0, 0, 0, 0), (2, 0, 7, 2), (0, 0, 0, 0), (14, 0, 0, 0), (10, 0, 1, 161), (0, 0, 0, 0), (0, 0, 0, 0), (2, 0, 4, 2), (0, 0, 0, 0), (3, 0, 0, 1), (12, 670, 7, 9), (0, 0, 0, 0), (0, 0, 0, 0), (2, 0, 7, 2), (0, 0, 0, 0), (14, 0, 0, 0), (10, 0, 2, 161), (0, 0, 0, 0), (0, 0, 0, 0), (11, 0, 0, 182), (0, 0, 0, 0), (0, 0, 0, 0), (3, 0, 0, 1), (12, 669, 7, 8), (0, 0, 0, 0), (0, 0, 0, 0), (2, 0, 7, 2), (0, 0, 0, 0), (2, 0, 4, 2), (0, 0, 0, 0), (2, 0, 5, 2), (0, 0, 0, 0), (7, 0, 0, 0), (15, 0, 0, 0), (3, 0, 0, 1), (12, 670, 7, 9), (0, 0, 0, 0), (0, 0, 0, 0), (2, 0, 7, 2), (0, 0, 0, 0), (2, 0, 4, 2), (0, 0, 0, 0), (15, 0, 0, 0), (6, 1, 5, 0), (0, 0, 0, 0), (0, 0, 0, 0), (11, 0, 0, 47), (0, 0, 0, 0), (0, 0, 0, 0), (6, 1, 4, 0), (0, 0, 0, 0), (0, 0, 0, 0), (11, 0, 0, 33), (0, 0, 0, 0), (0, 0, 0, 0), (30, 0, 0, 0)]
/-- ReedBenchModel.pairWork(IIII)I -/
def xk_115 : List xI := [(3, 0, 0, 1), (1, 0, 1, 0), (13, 661, 7, 0), (0, 0, 0, 0), (0, 0, 0, 0), (3, 0, 0, 1), (28, 735, 93, 1), (0, 0, 0, 0), (0, 0, 0, 0), (3, 0, 0, 1), (2, 0, 1, 1), (28, 751, 97, 2), (0, 0, 0, 0), (0, 0, 0, 0), (9, 0, 0, 82), (0, 0, 0, 0), (0, 0, 0, 0), (3, 0, 0, 1), (2, 0, 2, 1), (28, 751, 97, 2), (0, 0, 0, 0), (0, 0, 0, 0), (9, 0, 0, 82), (0, 0, 0, 0), (0, 0, 0, 0), (2, 0, 1, 1), (2, 0, 2, 1), (10, 0, 0, 82), (0, 0, 0, 0), (0, 0, 0, 0), (2, 0, 3, 1), (9, 0, 2, 82), (0, 0, 0, 0), (0, 0, 0, 0), (2, 0, 3, 1), (1, 3, 1, 0), (10, 0, 4, 82), (0, 0, 0, 0), (0, 0, 0, 0), (3, 0, 0, 1), (1, 2, 1, 0), (2, 0, 3, 1), (7, 0, 2, 0), (28, 800, 109, 2), (0, 0, 0, 0), (0, 0, 0, 0), (9, 0, 0, 82), (0, 0, 0, 0), (0, 0, 0, 0), (3, 0, 0, 1), (1, 2, 1, 0), (2, 0, 3, 1), (7, 0, 2, 0), (1, 1, 1, 0), (7, 0, 0, 0), (28, 800, 109, 2), (0, 0, 0, 0), (0, 0, 0, 0), (9, 0, 0, 82), (0, 0, 0, 0), (0, 0, 0, 0), (2, 0, 4, 2), (0, 0, 0, 0), (9, 0, 2, 82), (0, 0, 0, 0), (0, 0, 0, 0), (2, 0, 4, 2), (0, 0, 0, 0), (1, 4, 1, 0), (10, 0, 4, 82), (0, 0, 0, 0), (0, 0, 0, 0), (3, 0, 0, 1), (2, 0, 1, 1), (2, 0, 2, 1), (2, 0, 3, 1), (28, 829, 116, 4), (0, 0, 0, 0), (0, 0, 0, 0), (9, 0, 1, 84), (0, 0, 0, 0), (0, 0, 0, 0), (1, (-1), 1, 0), (29, 0, 0, 0), (2, 0, 4, 2), (0, 0, 0, 0), (9, 0, 1, 94), (0, 0, 0, 0), (0, 0, 0, 0), (3, 0, 0, 1), (12, 673, 7, 12), (0, 0, 0, 0), (0, 0, 0, 0), (29, 0, 0, 0), (2, 0, 4, 2), (0, 0, 0, 0), (1, 1, 1, 0), (10, 0, 1, 105), (0, 0, 0, 0), (0, 0, 0, 0), (3, 0, 0, 1), (12, 674, 7, 13), (0, 0, 0, 0), (0, 0, 0, 0), (29, 0, 0, 0), (2, 0, 4, 2), (0, 0, 0, 0), (1, 2, 1, 0), (10, 0, 1, 116), (0, 0, 0, 0), (0, 0, 0, 0), (3, 0, 0, 1), (12, 675, 7, 14), (0, 0, 0, 0), (0, 0, 0, 0), (29, 0, 0, 0), (2, 0, 4, 2), (0, 0, 0, 0), (1, 3, 1, 0), (10, 0, 1, 129), (0, 0, 0, 0), (0, 0, 0, 0), (3, 0, 0, 1), (12, 676, 7, 15), (0, 0, 0, 0), (0, 0, 0, 0), (11, 0, 0, 148), (0, 0, 0, 0), (0, 0, 0, 0), (3, 0, 0, 1), (12, 673, 7, 12), (0, 0, 0, 0), (0, 0, 0, 0), (3, 0, 0, 1), (12, 674, 7, 13), (0, 0, 0, 0), (0, 0, 0, 0), (7, 0, 1, 0), (3, 0, 0, 1), (12, 675, 7, 14), (0, 0, 0, 0), (0, 0, 0, 0), (7, 0, 1, 0), (3, 0, 0, 1), (12, 676, 7, 15), (0, 0, 0, 0), (0, 0, 0, 0), (7, 0, 1, 0), (29, 0, 0, 0)]
/-- ReedBenchModel.pairWorks(III)Z -/
def xk_116 : List xI := [(3, 0, 0, 1), (1, 0, 1, 0), (2, 0, 1, 1), (1, 2, 1, 0), (2, 0, 3, 1), (7, 0, 2, 0), (28, 820, 114, 4), (0, 0, 0, 0), (0, 0, 0, 0), (3, 0, 0, 1), (1, 1, 1, 0), (2, 0, 2, 1), (1, 2, 1, 0), (2, 0, 3, 1), (7, 0, 2, 0), (1, 1, 1, 0), (7, 0, 0, 0), (28, 820, 114, 4), (0, 0, 0, 0), (0, 0, 0, 0), (3, 0, 0, 1), (1, 1000000, 2, 824), (0, 0, 0, 0), (13, 673, 7, 12), (0, 0, 0, 0), (0, 0, 0, 0), (3, 0, 0, 1), (12, 662, 7, 1), (0, 0, 0, 0), (0, 0, 0, 0), (1, 4, 1, 0), (1, 2, 1, 0), (2, 0, 3, 1), (7, 0, 2, 0), (7, 0, 0, 0), (1, 1, 1, 0), (7, 0, 0, 0), (14, 0, 0, 0), (3, 0, 0, 1), (12, 662, 7, 1), (0, 0, 0, 0), (0, 0, 0, 0), (1, 4, 1, 0), (1, 2, 1, 0), (2, 0, 3, 1), (7, 0, 2, 0), (7, 0, 0, 0), (14, 0, 0, 0), (7, 0, 1, 0), (4, 0, 4, 2), (0, 0, 0, 0), (1, 0, 1, 0), (4, 0, 5, 2), (0, 0, 0, 0), (2, 0, 5, 2), (0, 0, 0, 0), (1, 101, 2, 0), (0, 0, 0, 0), (10, 0, 3, 358), (0, 0, 0, 0), (0, 0, 0, 0), (3, 0, 0, 1), (12, 669, 7, 8), (0, 0, 0, 0), (0, 0, 0, 0), (2, 0, 5, 2), (0, 0, 0, 0), (14, 0, 0, 0), (1, 1000000, 2, 824), (0, 0, 0, 0), (10, 0, 1, 76), (0, 0, 0, 0), (0, 0, 0, 0), (11, 0, 0, 352), (0, 0, 0, 0), (0, 0, 0, 0), (1, 0, 1, 0), (4, 0, 6, 2), (0, 0, 0, 0), (2, 0, 6, 2), (0, 0, 0, 0), (1, 101, 2, 0), (0, 0, 0, 0), (10, 0, 3, 352), (0, 0, 0, 0), (0, 0, 0, 0), (3, 0, 0, 1), (12, 669, 7, 8), (0, 0, 0, 0), (0, 0, 0, 0), (1, 101, 2, 0), (0, 0, 0, 0), (2, 0, 6, 2), (0, 0, 0, 0), (7, 0, 0, 0), (14, 0, 0, 0), (1, 1000000, 2, 824), (0, 0, 0, 0), (10, 0, 1, 104), (0, 0, 0, 0), (0, 0, 0, 0), (11, 0, 0, 346), (0, 0, 0, 0), (0, 0, 0, 0), (2, 0, 4, 2), (0, 0, 0, 0), (2, 0, 6, 2), (0, 0, 0, 0), (7, 0, 0, 0), (2, 0, 5, 2), (0, 0, 0, 0), (7, 0, 1, 0), (4, 0, 7, 2), (0, 0, 0, 0), (3, 0, 0, 1), (2, 0, 3, 1), (28, 804, 110, 2), (0, 0, 0, 0), (0, 0, 0, 0), (9, 0, 0, 153), (0, 0, 0, 0), (0, 0, 0, 0), (2, 0, 7, 2), (0, 0, 0, 0), (3, 0, 0, 1), (12, 662, 7, 1), (0, 0, 0, 0), (0, 0, 0, 0), (1, 12, 2, 0), (0, 0, 0, 0), (2, 0, 3, 1), (7, 0, 0, 0), (14, 0, 0, 0), (10, 0, 2, 346), (0, 0, 0, 0), (0, 0, 0, 0), (2, 0, 7, 2), (0, 0, 0, 0), (3, 0, 0, 1), (12, 662, 7, 1), (0, 0, 0, 0), (0, 0, 0, 0), (1, 16, 2, 0), (0, 0, 0, 0), (2, 0, 3, 1), (7, 0, 0, 0), (14, 0, 0, 0), (10, 0, 5, 153), (0, 0, 0, 0), (0, 0, 0, 0), (11, 0, 0, 346), (0, 0, 0, 0), (0, 0, 0, 0), (3, 0, 0, 1), (12, 669, 7, 8), (0, 0, 0, 0), (0, 0, 0, 0), (2, 0, 5, 2), (0, 0, 0, 0), (14, 0, 0, 0), (3, 0, 0, 1), (12, 669, 7, 8), (0, 0, 0, 0), (0, 0, 0, 0), (1, 101, 2, 0), (0, 0, 0, 0), (2, 0, 6, 2), (0, 0, 0, 0), (7, 0, 0, 0), (14, 0, 0, 0), (7, 0, 0, 0), (4, 0, 8, 2), (0, 0, 0, 0), (3, 0, 0, 1), (12, 669, 7, 8), (0, 0, 0, 0), (0, 0, 0, 0), (2, 0, 5, 2), (0, 0, 0, 0), (14, 0, 0, 0), (3, 0, 0, 1), (12, 670, 7, 9), (0, 0, 0, 0), (0, 0, 0, 0), (2, 0, 5, 2), (0, 0, 0, 0), (14, 0, 0, 0), (7, 0, 1, 0), (4, 0, 9, 2), (0, 0, 0, 0), (2, 0, 8, 2), (0, 0, 0, 0), (3, 0, 0, 1), (12, 673, 7, 12), (0, 0, 0, 0), (0, 0, 0, 0), (10, 0, 3, 203), (0, 0, 0, 0), (0, 0, 0, 0), (1, 1, 1, 0), (11, 0, 0, 204), (0, 0, 0, 0), (0, 0, 0, 0), (1, 0, 1, 0), (4, 0, 10, 2), (0, 0, 0, 0), (2, 0, 8, 2), (0, 0, 0, 0), (3, 0, 0, 1), (12, 673, 7, 12), (0, 0, 0, 0), (0, 0, 0, 0), (10, 0, 1, 301), (0, 0, 0, 0), (0, 0, 0, 0), (3, 0, 0, 1), (12, 670, 7, 9), (0, 0, 0, 0), (0, 0, 0, 0), (2, 0, 5, 2), (0, 0, 0, 0), (14, 0, 0, 0), (3, 0, 0, 1), (12, 674, 7, 13), (0, 0, 0, 0), (0, 0, 0, 0), (10, 0, 0, 251), (0, 0, 0, 0), (0, 0, 0, 0), (3, 0, 0, 1), (12, 670, 7, 9), (0, 0, 0, 0), (0, 0, 0, 0), (2, 0, 5, 2), (0, 0, 0, 0), (14, 0, 0, 0), (3, 0, 0, 1), (12, 674, 7, 13), (0, 0, 0, 0), (0, 0, 0, 0), (10, 0, 3, 247), (0, 0, 0, 0), (0, 0, 0, 0), (1, 1, 1, 0), (11, 0, 0, 299), (0, 0, 0, 0), (0, 0, 0, 0), (1, 0, 1, 0), (11, 0, 0, 299), (0, 0, 0, 0), (0, 0, 0, 0), (2, 0, 9, 2), (0, 0, 0, 0), (3, 0, 0, 1), (12, 675, 7, 14), (0, 0, 0, 0), (0, 0, 0, 0), (10, 0, 0, 277), (0, 0, 0, 0), (0, 0, 0, 0), (2, 0, 9, 2), (0, 0, 0, 0), (3, 0, 0, 1), (12, 675, 7, 14), (0, 0, 0, 0), (0, 0, 0, 0), (10, 0, 3, 273), (0, 0, 0, 0), (0, 0, 0, 0), (1, 1, 1, 0), (11, 0, 0, 299), (0, 0, 0, 0), (0, 0, 0, 0), (1, 0, 1, 0), (11, 0, 0, 299), (0, 0, 0, 0), (0, 0, 0, 0), (3, 0, 0, 1), (12, 670, 7, 9), (0, 0, 0, 0), (0, 0, 0, 0), (1, 101, 2, 0), (0, 0, 0, 0), (2, 0, 6, 2), (0, 0, 0, 0), (7, 0, 0, 0), (14, 0, 0, 0), (3, 0, 0, 1), (12, 676, 7, 15), (0, 0, 0, 0), (0, 0, 0, 0), (10, 0, 3, 298), (0, 0, 0, 0), (0, 0, 0, 0), (1, 1, 1, 0), (11, 0, 0, 299), (0, 0, 0, 0), (0, 0, 0, 0), (1, 0, 1, 0), (4, 0, 10, 2), (0, 0, 0, 0), (2, 0, 10, 2), (0, 0, 0, 0), (9, 0, 1, 309), (0, 0, 0, 0), (0, 0, 0, 0), (11, 0, 0, 346), (0, 0, 0, 0), (0, 0, 0, 0), (3, 0, 0, 1), (2, 0, 8, 2), (0, 0, 0, 0), (13, 673, 7, 12), (0, 0, 0, 0), (0, 0, 0, 0), (3, 0, 0, 1), (3, 0, 0, 1), (12, 670, 7, 9), (0, 0, 0, 0), (0, 0, 0, 0), (2, 0, 5, 2), (0, 0, 0, 0), (14, 0, 0, 0), (13, 674, 7, 13), (0, 0, 0, 0), (0, 0, 0, 0), (3, 0, 0, 1), (2, 0, 9, 2), (0, 0, 0, 0), (13, 675, 7, 14), (0, 0, 0, 0), (0, 0, 0, 0), (3, 0, 0, 1), (3, 0, 0, 1), (12, 670, 7, 9), (0, 0, 0, 0), (0, 0, 0, 0), (1, 101, 2, 0), (0, 0, 0, 0), (2, 0, 6, 2), (0, 0, 0, 0), (7, 0, 0, 0), (14, 0, 0, 0), (13, 676, 7, 15), (0, 0, 0, 0), (0, 0, 0, 0), (6, 1, 6, 0), (0, 0, 0, 0), (0, 0, 0, 0), (11, 0, 0, 79), (0, 0, 0, 0), (0, 0, 0, 0), (6, 1, 5, 0), (0, 0, 0, 0), (0, 0, 0, 0), (11, 0, 0, 54), (0, 0, 0, 0), (0, 0, 0, 0), (3, 0, 0, 1), (12, 673, 7, 12), (0, 0, 0, 0), (0, 0, 0, 0), (1, 1000000, 2, 824), (0, 0, 0, 0), (10, 0, 3, 371), (0, 0, 0, 0), (0, 0, 0, 0), (1, 1, 1, 0), (11, 0, 0, 372), (0, 0, 0, 0), (0, 0, 0, 0), (1, 0, 1, 0), (29, 0, 0, 0)]
/-- ReedBenchModel.best(I)I -/
def xk_117 : List xI := [(3, 0, 0, 1), (1, 0, 1, 0), (13, 661, 7, 0), (0, 0, 0, 0), (0, 0, 0, 0), (3, 0, 0, 1), (28, 735, 93, 1), (0, 0, 0, 0), (0, 0, 0, 0), (2, 0, 1, 1), (9, 0, 0, 25), (0, 0, 0, 0), (0, 0, 0, 0), (2, 0, 1, 1), (1, 10, 2, 0), (0, 0, 0, 0), (10, 0, 2, 29), (0, 0, 0, 0), (0, 0, 0, 0), (2, 0, 1, 1), (1, 18, 2, 0), (0, 0, 0, 0), (10, 0, 3, 29), (0, 0, 0, 0), (0, 0, 0, 0), (1, 1, 1, 0), (11, 0, 0, 30), (0, 0, 0, 0), (0, 0, 0, 0), (1, 0, 1, 0), (4, 0, 2, 1), (2, 0, 2, 1), (9, 0, 0, 42), (0, 0, 0, 0), (0, 0, 0, 0), (3, 0, 0, 1), (28, 837, 118, 1), (0, 0, 0, 0), (0, 0, 0, 0), (9, 0, 1, 44), (0, 0, 0, 0), (0, 0, 0, 0), (1, (-1), 1, 0), (29, 0, 0, 0), (2, 0, 1, 1), (9, 0, 1, 57), (0, 0, 0, 0), (0, 0, 0, 0), (3, 0, 0, 1), (12, 679, 7, 18), (0, 0, 0, 0), (0, 0, 0, 0), (1, 0, 1, 0), (14, 0, 0, 0), (11, 0, 0, 66), (0, 0, 0, 0), (0, 0, 0, 0), (3, 0, 0, 1), (12, 683, 7, 22), (0, 0, 0, 0), (0, 0, 0, 0), (2, 0, 1, 1), (1, 10, 2, 0), (0, 0, 0, 0), (7, 0, 1, 0), (14, 0, 0, 0), (29, 0, 0, 0)]
/-- ReedBenchModel.takesLay()Z -/
def xk_118 : List xI := [(3, 0, 0, 1), (28, 841, 119, 1), (0, 0, 0, 0), (0, 0, 0, 0), (3, 0, 0, 1), (12, 679, 7, 18), (0, 0, 0, 0), (0, 0, 0, 0), (1, 0, 1, 0), (14, 0, 0, 0), (1, 1000000, 2, 824), (0, 0, 0, 0), (10, 0, 2, 17), (0, 0, 0, 0), (0, 0, 0, 0), (1, 0, 1, 0), (29, 0, 0, 0), (1, 0, 1, 0), (4, 0, 1, 1), (1, 0, 1, 0), (4, 0, 2, 1), (2, 0, 2, 1), (1, 4, 1, 0), (10, 0, 3, 428), (0, 0, 0, 0), (0, 0, 0, 0), (3, 0, 0, 1), (1, 2, 1, 0), (2, 0, 2, 1), (7, 0, 2, 0), (28, 800, 109, 2), (0, 0, 0, 0), (0, 0, 0, 0), (4, 0, 3, 1), (3, 0, 0, 1), (1, 2, 1, 0), (2, 0, 2, 1), (7, 0, 2, 0), (1, 1, 1, 0), (7, 0, 0, 0), (28, 800, 109, 2), (0, 0, 0, 0), (0, 0, 0, 0), (4, 0, 4, 2), (0, 0, 0, 0), (3, 0, 0, 1), (12, 683, 7, 22), (0, 0, 0, 0), (0, 0, 0, 0), (1, 2, 1, 0), (2, 0, 2, 1), (7, 0, 2, 0), (1, (-1), 1, 0), (15, 0, 0, 0), (3, 0, 0, 1), (12, 683, 7, 22), (0, 0, 0, 0), (0, 0, 0, 0), (1, 2, 1, 0), (2, 0, 2, 1), (7, 0, 2, 0), (1, 1, 1, 0), (7, 0, 0, 0), (1, (-1), 1, 0), (15, 0, 0, 0), (2, 0, 3, 1), (9, 0, 1, 77), (0, 0, 0, 0), (0, 0, 0, 0), (2, 0, 4, 2), (0, 0, 0, 0), (9, 0, 1, 77), (0, 0, 0, 0), (0, 0, 0, 0), (11, 0, 0, 422), (0, 0, 0, 0), (0, 0, 0, 0), (1, 4096, 3, 0), (0, 0, 0, 0), (0, 0, 0, 0), (2, 0, 2, 1), (7, 0, 2, 0), (2, 0, 1, 1), (7, 0, 0, 0), (4, 0, 5, 2), (0, 0, 0, 0), (1, 4096, 3, 0), (0, 0, 0, 0), (0, 0, 0, 0), (2, 0, 2, 1), (1, 1, 1, 0), (7, 0, 0, 0), (7, 0, 2, 0), (4, 0, 6, 2), (0, 0, 0, 0), (1, 0, 1, 0), (4, 0, 7, 2), (0, 0, 0, 0), (2, 0, 7, 2), (0, 0, 0, 0), (1, 12, 2, 0), (0, 0, 0, 0), (10, 0, 3, 368), (0, 0, 0, 0), (0, 0, 0, 0), (3, 0, 0, 1), (12, 683, 7, 22), (0, 0, 0, 0), (0, 0, 0, 0), (1, 2, 1, 0), (2, 0, 2, 1), (7, 0, 2, 0), (14, 0, 0, 0), (1, (-1), 1, 0), (10, 0, 1, 368), (0, 0, 0, 0), (0, 0, 0, 0), (3, 0, 0, 1), (12, 683, 7, 22), (0, 0, 0, 0), (0, 0, 0, 0), (1, 2, 1, 0), (2, 0, 2, 1), (7, 0, 2, 0), (1, 1, 1, 0), (7, 0, 0, 0), (14, 0, 0, 0), (1, (-1), 1, 0), (10, 0, 1, 368), (0, 0, 0, 0), (0, 0, 0, 0), (3, 0, 0, 1), (2, 0, 1, 1), (2, 0, 7, 2), (0, 0, 0, 0), (28, 853, 122, 3), (0, 0, 0, 0), (0, 0, 0, 0), (9, 0, 0, 144), (0, 0, 0, 0), (0, 0, 0, 0), (11, 0, 0, 362), (0, 0, 0, 0), (0, 0, 0, 0), (2, 0, 4, 2), (0, 0, 0, 0), (9, 0, 1, 191), (0, 0, 0, 0), (0, 0, 0, 0), (3, 0, 0, 1), (2, 0, 5, 2), (0, 0, 0, 0), (2, 0, 6, 2), (0, 0, 0, 0), (2, 0, 1, 1), (1, 1, 1, 0), (2, 0, 7, 2), (0, 0, 0, 0), (7, 0, 8, 0), (7, 0, 6, 0), (7, 0, 0, 0), (3, 0, 0, 1), (12, 677, 7, 16), (0, 0, 0, 0), (0, 0, 0, 0), (1, 8, 2, 0), (0, 0, 0, 0), (2, 0, 7, 2), (0, 0, 0, 0), (7, 0, 2, 0), (1, 2, 1, 0), (2, 0, 2, 1), (7, 0, 2, 0), (7, 0, 0, 0), (14, 0, 0, 0), (28, 857, 123, 4), (0, 0, 0, 0), (0, 0, 0, 0), (9, 0, 0, 191), (0, 0, 0, 0), (0, 0, 0, 0), (3, 0, 0, 1), (12, 683, 7, 22), (0, 0, 0, 0), (0, 0, 0, 0), (1, 2, 1, 0), (2, 0, 2, 1), (7, 0, 2, 0), (2, 0, 7, 2), (0, 0, 0, 0), (15, 0, 0, 0), (2, 0, 3, 1), (9, 0, 1, 241), (0, 0, 0, 0), (0, 0, 0, 0), (3, 0, 0, 1), (2, 0, 5, 2), (0, 0, 0, 0), (2, 0, 6, 2), (0, 0, 0, 0), (2, 0, 1, 1), (1, 1, 1, 0), (2, 0, 7, 2), (0, 0, 0, 0), (7, 0, 8, 0), (7, 0, 6, 0), (7, 0, 0, 0), (3, 0, 0, 1), (12, 677, 7, 16), (0, 0, 0, 0), (0, 0, 0, 0), (1, 8, 2, 0), (0, 0, 0, 0), (2, 0, 7, 2), (0, 0, 0, 0), (7, 0, 2, 0), (1, 2, 1, 0), (2, 0, 2, 1), (7, 0, 2, 0), (7, 0, 0, 0), (1, 1, 1, 0), (7, 0, 0, 0), (14, 0, 0, 0), (28, 857, 123, 4), (0, 0, 0, 0), (0, 0, 0, 0), (9, 0, 0, 241), (0, 0, 0, 0), (0, 0, 0, 0), (3, 0, 0, 1), (12, 683, 7, 22), (0, 0, 0, 0), (0, 0, 0, 0), (1, 2, 1, 0), (2, 0, 2, 1), (7, 0, 2, 0), (1, 1, 1, 0), (7, 0, 0, 0), (2, 0, 7, 2), (0, 0, 0, 0), (15, 0, 0, 0), (1, 0, 1, 0), (4, 0, 8, 2), (0, 0, 0, 0), (2, 0, 8, 2), (0, 0, 0, 0), (1, 12, 2, 0), (0, 0, 0, 0), (10, 0, 3, 362), (0, 0, 0, 0), (0, 0, 0, 0), (2, 0, 3, 1), (9, 0, 0, 362), (0, 0, 0, 0), (0, 0, 0, 0), (2, 0, 4, 2), (0, 0, 0, 0), (9, 0, 0, 362), (0, 0, 0, 0), (0, 0, 0, 0), (3, 0, 0, 1), (12, 683, 7, 22), (0, 0, 0, 0), (0, 0, 0, 0), (1, 2, 1, 0), (2, 0, 2, 1), (7, 0, 2, 0), (14, 0, 0, 0), (1, (-1), 1, 0), (10, 0, 1, 362), (0, 0, 0, 0), (0, 0, 0, 0), (3, 0, 0, 1), (2, 0, 1, 1), (2, 0, 8, 2), (0, 0, 0, 0), (28, 853, 122, 3), (0, 0, 0, 0), (0, 0, 0, 0), (9, 0, 1, 356), (0, 0, 0, 0), (0, 0, 0, 0), (2, 0, 8, 2), (0, 0, 0, 0), (2, 0, 7, 2), (0, 0, 0, 0), (10, 0, 0, 356), (0, 0, 0, 0), (0, 0, 0, 0), (3, 0, 0, 1), (2, 0, 5, 2), (0, 0, 0, 0), (2, 0, 6, 2), (0, 0, 0, 0), (2, 0, 1, 1), (1, 1, 1, 0), (2, 0, 7, 2), (0, 0, 0, 0), (7, 0, 8, 0), (7, 0, 6, 0), (1, 1, 1, 0), (2, 0, 8, 2), (0, 0, 0, 0), (7, 0, 8, 0), (7, 0, 6, 0), (7, 0, 0, 0), (3, 0, 0, 1), (12, 678, 7, 17), (0, 0, 0, 0), (0, 0, 0, 0), (1, 144, 3, 0), (0, 0, 0, 0), (0, 0, 0, 0), (2, 0, 2, 1), (7, 0, 2, 0), (1, 12, 2, 0), (0, 0, 0, 0), (2, 0, 7, 2), (0, 0, 0, 0), (7, 0, 2, 0), (7, 0, 0, 0), (2, 0, 8, 2), (0, 0, 0, 0), (7, 0, 0, 0), (14, 0, 0, 0), (28, 857, 123, 4), (0, 0, 0, 0), (0, 0, 0, 0), (9, 0, 1, 334), (0, 0, 0, 0), (0, 0, 0, 0), (11, 0, 0, 356), (0, 0, 0, 0), (0, 0, 0, 0), (3, 0, 0, 1), (12, 683, 7, 22), (0, 0, 0, 0), (0, 0, 0, 0), (1, 2, 1, 0), (2, 0, 2, 1), (7, 0, 2, 0), (2, 0, 7, 2), (0, 0, 0, 0), (15, 0, 0, 0), (3, 0, 0, 1), (12, 683, 7, 22), (0, 0, 0, 0), (0, 0, 0, 0), (1, 2, 1, 0), (2, 0, 2, 1), (7, 0, 2, 0), (1, 1, 1, 0), (7, 0, 0, 0), (2, 0, 8, 2), (0, 0, 0, 0), (15, 0, 0, 0), (6, 1, 8, 0), (0, 0, 0, 0), (0, 0, 0, 0), (11, 0, 0, 244), (0, 0, 0, 0), (0, 0, 0, 0), (6, 1, 7, 0), (0, 0, 0, 0), (0, 0, 0, 0), (11, 0, 0, 98), (0, 0, 0, 0), (0, 0, 0, 0), (3, 0, 0, 1), (12, 683, 7, 22), (0, 0, 0, 0), (0, 0, 0, 0), (1, 2, 1, 0), (2, 0, 2, 1), (7, 0, 2, 0), (14, 0, 0, 0), (1, (-1), 1, 0), (10, 0, 0, 393), (0, 0, 0, 0), (0, 0, 0, 0), (2, 0, 1, 1), (1, 1, 1, 0), (3, 0, 0, 1), (12, 683, 7, 22), (0, 0, 0, 0), (0, 0, 0, 0), (1, 2, 1, 0), (2, 0, 2, 1), (7, 0, 2, 0), (14, 0, 0, 0), (7, 0, 8, 0), (7, 0, 6, 0), (4, 0, 1, 1), (3, 0, 0, 1), (12, 683, 7, 22), (0, 0, 0, 0), (0, 0, 0, 0), (1, 2, 1, 0), (2, 0, 2, 1), (7, 0, 2, 0), (1, 1, 1, 0), (7, 0, 0, 0), (14, 0, 0, 0), (1, (-1), 1, 0), (10, 0, 0, 422), (0, 0, 0, 0), (0, 0, 0, 0), (2, 0, 1, 1), (1, 1, 1, 0), (3, 0, 0, 1), (12, 683, 7, 22), (0, 0, 0, 0), (0, 0, 0, 0), (1, 2, 1, 0), (2, 0, 2, 1), (7, 0, 2, 0), (1, 1, 1, 0), (7, 0, 0, 0), (14, 0, 0, 0), (7, 0, 8, 0), (7, 0, 6, 0), (4, 0, 1, 1), (6, 1, 2, 0), (0, 0, 0, 0), (0, 0, 0, 0), (11, 0, 0, 21), (0, 0, 0, 0), (0, 0, 0, 0), (1, 1, 1, 0), (29, 0, 0, 0)]
/-- ReedBenchModel.findLays()V -/
def xk_119 : List xI := [(3, 0, 0, 1), (28, 845, 120, 1), (0, 0, 0, 0), (0, 0, 0, 0), (1, 4, 1, 0), (4, 0, 1, 1), (2, 0, 1, 1), (9, 0, 2, 359), (0, 0, 0, 0), (0, 0, 0, 0), (2, 0, 1, 1), (1, 4, 1, 0), (10, 0, 3, 29), (0, 0, 0, 0), (0, 0, 0, 0), (3, 0, 0, 1), (1, 2, 1, 0), (2, 0, 1, 1), (7, 0, 2, 0), (28, 800, 109, 2), (0, 0, 0, 0), (0, 0, 0, 0), (9, 0, 0, 29), (0, 0, 0, 0), (0, 0, 0, 0), (1, 1, 1, 0), (11, 0, 0, 30), (0, 0, 0, 0), (0, 0, 0, 0), (1, 0, 1, 0), (4, 0, 2, 1), (2, 0, 1, 1), (1, 4, 1, 0), (10, 0, 3, 52), (0, 0, 0, 0), (0, 0, 0, 0), (3, 0, 0, 1), (1, 2, 1, 0), (2, 0, 1, 1), (7, 0, 2, 0), (1, 1, 1, 0), (7, 0, 0, 0), (28, 800, 109, 2), (0, 0, 0, 0), (0, 0, 0, 0), (9, 0, 0, 52), (0, 0, 0, 0), (0, 0, 0, 0), (1, 1, 1, 0), (11, 0, 0, 53), (0, 0, 0, 0), (0, 0, 0, 0), (1, 0, 1, 0), (4, 0, 3, 1), (1, 0, 1, 0), (4, 0, 4, 2), (0, 0, 0, 0), (2, 0, 4, 2), (0, 0, 0, 0), (1, 4096, 3, 0), (0, 0, 0, 0), (0, 0, 0, 0), (10, 0, 3, 353), (0, 0, 0, 0), (0, 0, 0, 0), (3, 0, 0, 1), (2, 0, 1, 1), (1, 4, 1, 0), (10, 0, 1, 75), (0, 0, 0, 0), (0, 0, 0, 0), (1, 0, 1, 0), (11, 0, 0, 77), (0, 0, 0, 0), (0, 0, 0, 0), (1, 1000000, 2, 824), (0, 0, 0, 0), (13, 681, 7, 20), (0, 0, 0, 0), (0, 0, 0, 0), (3, 0, 0, 1), (2, 0, 1, 1), (1, 4, 1, 0), (10, 0, 1, 90), (0, 0, 0, 0), (0, 0, 0, 0), (1, 1, 1, 0), (11, 0, 0, 91), (0, 0, 0, 0), (0, 0, 0, 0), (1, 0, 1, 0), (13, 682, 7, 21), (0, 0, 0, 0), (0, 0, 0, 0), (1, 4096, 3, 0), (0, 0, 0, 0), (0, 0, 0, 0), (2, 0, 1, 1), (1, 1, 1, 0), (7, 0, 0, 0), (7, 0, 2, 0), (4, 0, 5, 2), (0, 0, 0, 0), (2, 0, 1, 1), (1, 4, 1, 0), (10, 0, 3, 126), (0, 0, 0, 0), (0, 0, 0, 0), (2, 0, 2, 1), (9, 0, 1, 126), (0, 0, 0, 0), (0, 0, 0, 0), (2, 0, 3, 1), (9, 0, 1, 126), (0, 0, 0, 0), (0, 0, 0, 0), (3, 0, 0, 1), (2, 0, 5, 2), (0, 0, 0, 0), (2, 0, 4, 2), (0, 0, 0, 0), (7, 0, 0, 0), (1, 0, 1, 0), (28, 849, 121, 3), (0, 0, 0, 0), (0, 0, 0, 0), (1, 0, 1, 0), (4, 0, 6, 2), (0, 0, 0, 0), (2, 0, 6, 2), (0, 0, 0, 0), (1, 12, 2, 0), (0, 0, 0, 0), (10, 0, 3, 313), (0, 0, 0, 0), (0, 0, 0, 0), (2, 0, 2, 1), (9, 0, 1, 144), (0, 0, 0, 0), (0, 0, 0, 0), (2, 0, 3, 1), (9, 0, 0, 313), (0, 0, 0, 0), (0, 0, 0, 0), (3, 0, 0, 1), (2, 0, 4, 2), (0, 0, 0, 0), (2, 0, 6, 2), (0, 0, 0, 0), (28, 853, 122, 3), (0, 0, 0, 0), (0, 0, 0, 0), (9, 0, 0, 158), (0, 0, 0, 0), (0, 0, 0, 0), (11, 0, 0, 307), (0, 0, 0, 0), (0, 0, 0, 0), (2, 0, 3, 1), (9, 0, 1, 190), (0, 0, 0, 0), (0, 0, 0, 0), (3, 0, 0, 1), (2, 0, 5, 2), (0, 0, 0, 0), (2, 0, 4, 2), (0, 0, 0, 0), (1, 1, 1, 0), (2, 0, 6, 2), (0, 0, 0, 0), (7, 0, 8, 0), (7, 0, 6, 0), (7, 0, 0, 0), (3, 0, 0, 1), (12, 677, 7, 16), (0, 0, 0, 0), (0, 0, 0, 0), (1, 8, 2, 0), (0, 0, 0, 0), (2, 0, 6, 2), (0, 0, 0, 0), (7, 0, 2, 0), (1, 2, 1, 0), (2, 0, 1, 1), (7, 0, 2, 0), (7, 0, 0, 0), (14, 0, 0, 0), (28, 849, 121, 3), (0, 0, 0, 0), (0, 0, 0, 0), (2, 0, 2, 1), (9, 0, 1, 224), (0, 0, 0, 0), (0, 0, 0, 0), (3, 0, 0, 1), (2, 0, 5, 2), (0, 0, 0, 0), (2, 0, 4, 2), (0, 0, 0, 0), (1, 1, 1, 0), (2, 0, 6, 2), (0, 0, 0, 0), (7, 0, 8, 0), (7, 0, 6, 0), (7, 0, 0, 0), (3, 0, 0, 1), (12, 677, 7, 16), (0, 0, 0, 0), (0, 0, 0, 0), (1, 8, 2, 0), (0, 0, 0, 0), (2, 0, 6, 2), (0, 0, 0, 0), (7, 0, 2, 0), (1, 2, 1, 0), (2, 0, 1, 1), (7, 0, 2, 0), (7, 0, 0, 0), (1, 1, 1, 0), (7, 0, 0, 0), (14, 0, 0, 0), (28, 849, 121, 3), (0, 0, 0, 0), (0, 0, 0, 0), (2, 0, 2, 1), (9, 0, 0, 307), (0, 0, 0, 0), (0, 0, 0, 0), (2, 0, 3, 1), (9, 0, 1, 235), (0, 0, 0, 0), (0, 0, 0, 0), (11, 0, 0, 307), (0, 0, 0, 0), (0, 0, 0, 0), (1, 0, 1, 0), (4, 0, 7, 2), (0, 0, 0, 0), (2, 0, 7, 2), (0, 0, 0, 0), (1, 12, 2, 0), (0, 0, 0, 0), (10, 0, 3, 307), (0, 0, 0, 0), (0, 0, 0, 0), (3, 0, 0, 1), (2, 0, 4, 2), (0, 0, 0, 0), (2, 0, 7, 2), (0, 0, 0, 0), (28, 853, 122, 3), (0, 0, 0, 0), (0, 0, 0, 0), (9, 0, 1, 301), (0, 0, 0, 0), (0, 0, 0, 0), (2, 0, 7, 2), (0, 0, 0, 0), (2, 0, 6, 2), (0, 0, 0, 0), (10, 0, 0, 301), (0, 0, 0, 0), (0, 0, 0, 0), (3, 0, 0, 1), (2, 0, 5, 2), (0, 0, 0, 0), (2, 0, 4, 2), (0, 0, 0, 0), (1, 1, 1, 0), (2, 0, 6, 2), (0, 0, 0, 0), (7, 0, 8, 0), (7, 0, 6, 0), (1, 1, 1, 0), (2, 0, 7, 2), (0, 0, 0, 0), (7, 0, 8, 0), (7, 0, 6, 0), (7, 0, 0, 0), (3, 0, 0, 1), (12, 678, 7, 17), (0, 0, 0, 0), (0, 0, 0, 0), (1, 144, 3, 0), (0, 0, 0, 0), (0, 0, 0, 0), (2, 0, 1, 1), (7, 0, 2, 0), (1, 12, 2, 0), (0, 0, 0, 0), (2, 0, 6, 2), (0, 0, 0, 0), (7, 0, 2, 0), (7, 0, 0, 0), (2, 0, 7, 2), (0, 0, 0, 0), (7, 0, 0, 0), (14, 0, 0, 0), (28, 849, 121, 3), (0, 0, 0, 0), (0, 0, 0, 0), (6, 1, 7, 0), (0, 0, 0, 0), (0, 0, 0, 0), (11, 0, 0, 238), (0, 0, 0, 0), (0, 0, 0, 0), (6, 1, 6, 0), (0, 0, 0, 0), (0, 0, 0, 0), (11, 0, 0, 129), (0, 0, 0, 0), (0, 0, 0, 0), (3, 0, 0, 1), (12, 679, 7, 18), (0, 0, 0, 0), (0, 0, 0, 0), (1, 4096, 3, 0), (0, 0, 0, 0), (0, 0, 0, 0), (2, 0, 1, 1), (7, 0, 2, 0), (2, 0, 4, 2), (0, 0, 0, 0), (7, 0, 0, 0), (3, 0, 0, 1), (12, 681, 7, 20), (0, 0, 0, 0), (0, 0, 0, 0), (15, 0, 0, 0), (3, 0, 0, 1), (12, 680, 7, 19), (0, 0, 0, 0), (0, 0, 0, 0), (1, 4096, 3, 0), (0, 0, 0, 0), (0, 0, 0, 0), (2, 0, 1, 1), (7, 0, 2, 0), (2, 0, 4, 2), (0, 0, 0, 0), (7, 0, 0, 0), (3, 0, 0, 1), (12, 682, 7, 21), (0, 0, 0, 0), (0, 0, 0, 0), (15, 0, 0, 0), (6, 1, 4, 0), (0, 0, 0, 0), (0, 0, 0, 0), (11, 0, 0, 57), (0, 0, 0, 0), (0, 0, 0, 0), (6, (-1), 1, 0), (0, 0, 0, 0), (0, 0, 0, 0), (11, 0, 0, 6), (0, 0, 0, 0), (0, 0, 0, 0), (30, 0, 0, 0)]
/-- ReedBenchModel.findCosts()V -/
def xk_120 : List xI := [(1, 0, 1, 0), (4, 0, 1, 1), (2, 0, 1, 1), (1, 12, 2, 0), (0, 0, 0, 0), (10, 0, 3, 89), (0, 0, 0, 0), (0, 0, 0, 0), (1, 0, 1, 0), (4, 0, 2, 1), (2, 0, 2, 1), (1, 8, 2, 0), (0, 0, 0, 0), (10, 0, 3, 83), (0, 0, 0, 0), (0, 0, 0, 0), (3, 0, 0, 1), (12, 677, 7, 16), (0, 0, 0, 0), (0, 0, 0, 0), (1, 8, 2, 0), (0, 0, 0, 0), (2, 0, 1, 1), (7, 0, 2, 0), (2, 0, 2, 1), (7, 0, 0, 0), (1, 1000000, 2, 824), (0, 0, 0, 0), (15, 0, 0, 0), (3, 0, 0, 1), (2, 0, 1, 1), (28, 751, 97, 2), (0, 0, 0, 0), (0, 0, 0, 0), (9, 0, 0, 77), (0, 0, 0, 0), (0, 0, 0, 0), (3, 0, 0, 1), (2, 0, 1, 1), (28, 755, 98, 2), (0, 0, 0, 0), (0, 0, 0, 0), (9, 0, 0, 77), (0, 0, 0, 0), (0, 0, 0, 0), (3, 0, 0, 1), (2, 0, 2, 1), (28, 800, 109, 2), (0, 0, 0, 0), (0, 0, 0, 0), (9, 0, 0, 77), (0, 0, 0, 0), (0, 0, 0, 0), (3, 0, 0, 1), (2, 0, 1, 1), (2, 0, 2, 1), (28, 816, 113, 3), (0, 0, 0, 0), (0, 0, 0, 0), (9, 0, 0, 77), (0, 0, 0, 0), (0, 0, 0, 0), (3, 0, 0, 1), (12, 677, 7, 16), (0, 0, 0, 0), (0, 0, 0, 0), (1, 8, 2, 0), (0, 0, 0, 0), (2, 0, 1, 1), (7, 0, 2, 0), (2, 0, 2, 1), (7, 0, 0, 0), (3, 0, 0, 1), (12, 671, 7, 10), (0, 0, 0, 0), (0, 0, 0, 0), (15, 0, 0, 0), (6, 1, 2, 0), (0, 0, 0, 0), (0, 0, 0, 0), (11, 0, 0, 10), (0, 0, 0, 0), (0, 0, 0, 0), (6, 1, 1, 0), (0, 0, 0, 0), (0, 0, 0, 0), (11, 0, 0, 2), (0, 0, 0, 0), (0, 0, 0, 0), (1, 0, 1, 0), (4, 0, 1, 1), (2, 0, 1, 1), (1, 4, 1, 0), (10, 0, 3, 267), (0, 0, 0, 0), (0, 0, 0, 0), (1, 0, 1, 0), (4, 0, 2, 1), (2, 0, 2, 1), (1, 12, 2, 0), (0, 0, 0, 0), (10, 0, 3, 261), (0, 0, 0, 0), (0, 0, 0, 0), (1, 0, 1, 0), (4, 0, 3, 1), (2, 0, 3, 1), (1, 12, 2, 0), (0, 0, 0, 0), (10, 0, 3, 255), (0, 0, 0, 0), (0, 0, 0, 0), (1, 144, 3, 0), (0, 0, 0, 0), (0, 0, 0, 0), (2, 0, 1, 1), (7, 0, 2, 0), (1, 12, 2, 0), (0, 0, 0, 0), (2, 0, 2, 1), (7, 0, 2, 0), (7, 0, 0, 0), (2, 0, 3, 1), (7, 0, 0, 0), (4, 0, 4, 2), (0, 0, 0, 0), (3, 0, 0, 1), (12, 678, 7, 17), (0, 0, 0, 0), (0, 0, 0, 0), (2, 0, 4, 2), (0, 0, 0, 0), (1, 1000000, 2, 824), (0, 0, 0, 0), (15, 0, 0, 0), (2, 0, 2, 1), (2, 0, 3, 1), (10, 0, 0, 249), (0, 0, 0, 0), (0, 0, 0, 0), (3, 0, 0, 1), (12, 677, 7, 16), (0, 0, 0, 0), (0, 0, 0, 0), (1, 8, 2, 0), (0, 0, 0, 0), (2, 0, 2, 1), (7, 0, 2, 0), (1, 2, 1, 0), (2, 0, 1, 1), (7, 0, 2, 0), (7, 0, 0, 0), (14, 0, 0, 0), (1, 1000000, 2, 824), (0, 0, 0, 0), (10, 0, 0, 249), (0, 0, 0, 0), (0, 0, 0, 0), (3, 0, 0, 1), (12, 677, 7, 16), (0, 0, 0, 0), (0, 0, 0, 0), (1, 8, 2, 0), (0, 0, 0, 0), (2, 0, 3, 1), (7, 0, 2, 0), (1, 2, 1, 0), (2, 0, 1, 1), (7, 0, 2, 0), (7, 0, 0, 0), (1, 1, 1, 0), (7, 0, 0, 0), (14, 0, 0, 0), (1, 1000000, 2, 824), (0, 0, 0, 0), (10, 0, 1, 181), (0, 0, 0, 0), (0, 0, 0, 0), (11, 0, 0, 249), (0, 0, 0, 0), (0, 0, 0, 0), (3, 0, 0, 1), (2, 0, 1, 1), (28, 804, 110, 2), (0, 0, 0, 0), (0, 0, 0, 0), (9, 0, 1, 228), (0, 0, 0, 0), (0, 0, 0, 0), (3, 0, 0, 1), (12, 678, 7, 17), (0, 0, 0, 0), (0, 0, 0, 0), (2, 0, 4, 2), (0, 0, 0, 0), (3, 0, 0, 1), (12, 677, 7, 16), (0, 0, 0, 0), (0, 0, 0, 0), (1, 8, 2, 0), (0, 0, 0, 0), (2, 0, 2, 1), (7, 0, 2, 0), (1, 2, 1, 0), (2, 0, 1, 1), (7, 0, 2, 0), (7, 0, 0, 0), (14, 0, 0, 0), (3, 0, 0, 1), (12, 677, 7, 16), (0, 0, 0, 0), (0, 0, 0, 0), (1, 8, 2, 0), (0, 0, 0, 0), (2, 0, 3, 1), (7, 0, 2, 0), (1, 2, 1, 0), (2, 0, 1, 1), (7, 0, 2, 0), (7, 0, 0, 0), (1, 1, 1, 0), (7, 0, 0, 0), (14, 0, 0, 0), (7, 0, 0, 0), (15, 0, 0, 0), (11, 0, 0, 249), (0, 0, 0, 0), (0, 0, 0, 0), (3, 0, 0, 1), (2, 0, 2, 1), (2, 0, 3, 1), (2, 0, 1, 1), (28, 829, 116, 4), (0, 0, 0, 0), (0, 0, 0, 0), (9, 0, 0, 249), (0, 0, 0, 0), (0, 0, 0, 0), (3, 0, 0, 1), (12, 678, 7, 17), (0, 0, 0, 0), (0, 0, 0, 0), (2, 0, 4, 2), (0, 0, 0, 0), (3, 0, 0, 1), (12, 673, 7, 12), (0, 0, 0, 0), (0, 0, 0, 0), (15, 0, 0, 0), (6, 1, 3, 0), (0, 0, 0, 0), (0, 0, 0, 0), (11, 0, 0, 106), (0, 0, 0, 0), (0, 0, 0, 0), (6, 1, 2, 0), (0, 0, 0, 0), (0, 0, 0, 0), (11, 0, 0, 98), (0, 0, 0, 0), (0, 0, 0, 0), (6, 1, 1, 0), (0, 0, 0, 0), (0, 0, 0, 0), (11, 0, 0, 91), (0, 0, 0, 0), (0, 0, 0, 0), (30, 0, 0, 0)]
/-- ReedBenchModel.comes(II)V -/
def xk_121 : List xI := [(2, 0, 2, 1), (1, 1000000, 2, 824), (0, 0, 0, 0), (10, 0, 3, 17), (0, 0, 0, 0), (0, 0, 0, 0), (3, 0, 0, 1), (12, 679, 7, 18), (0, 0, 0, 0), (0, 0, 0, 0), (2, 0, 1, 1), (14, 0, 0, 0), (1, 1000000, 2, 824), (0, 0, 0, 0), (10, 0, 2, 18), (0, 0, 0, 0), (0, 0, 0, 0), (30, 0, 0, 0), (2, 0, 2, 1), (3, 0, 0, 1), (12, 679, 7, 18), (0, 0, 0, 0), (0, 0, 0, 0), (2, 0, 1, 1), (14, 0, 0, 0), (7, 0, 0, 0), (4, 0, 3, 1), (2, 0, 3, 1), (3, 0, 0, 1), (12, 681, 7, 20), (0, 0, 0, 0), (0, 0, 0, 0), (10, 0, 3, 45), (0, 0, 0, 0), (0, 0, 0, 0), (3, 0, 0, 1), (2, 0, 3, 1), (13, 681, 7, 20), (0, 0, 0, 0), (0, 0, 0, 0), (3, 0, 0, 1), (1, 0, 1, 0), (13, 682, 7, 21), (0, 0, 0, 0), (0, 0, 0, 0), (2, 0, 3, 1), (3, 0, 0, 1), (12, 681, 7, 20), (0, 0, 0, 0), (0, 0, 0, 0), (10, 0, 1, 68), (0, 0, 0, 0), (0, 0, 0, 0), (3, 0, 0, 1), (3, 0, 0, 1), (12, 682, 7, 21), (0, 0, 0, 0), (0, 0, 0, 0), (3, 0, 0, 1), (12, 680, 7, 19), (0, 0, 0, 0), (0, 0, 0, 0), (2, 0, 1, 1), (14, 0, 0, 0), (7, 0, 0, 0), (13, 682, 7, 21), (0, 0, 0, 0), (0, 0, 0, 0), (30, 0, 0, 0)]
/-- ReedBenchModel.has(II)Z -/
def xk_122 : List xI := [(2, 0, 1, 1), (2, 0, 2, 1), (7, 0, 9, 0), (1, 1, 1, 0), (7, 0, 5, 0), (1, 1, 1, 0), (10, 0, 1, 13), (0, 0, 0, 0), (0, 0, 0, 0), (1, 1, 1, 0), (11, 0, 0, 14), (0, 0, 0, 0), (0, 0, 0, 0), (1, 0, 1, 0), (29, 0, 0, 0)]
/-- ReedBenchModel.fits(III)Z -/
def xk_123 : List xI := [(2, 0, 3, 1), (1, 1000000, 2, 824), (0, 0, 0, 0), (10, 0, 3, 38), (0, 0, 0, 0), (0, 0, 0, 0), (3, 0, 0, 1), (12, 679, 7, 18), (0, 0, 0, 0), (0, 0, 0, 0), (2, 0, 2, 1), (14, 0, 0, 0), (1, 1000000, 2, 824), (0, 0, 0, 0), (10, 0, 3, 38), (0, 0, 0, 0), (0, 0, 0, 0), (2, 0, 3, 1), (3, 0, 0, 1), (12, 679, 7, 18), (0, 0, 0, 0), (0, 0, 0, 0), (2, 0, 2, 1), (14, 0, 0, 0), (7, 0, 0, 0), (3, 0, 0, 1), (12, 679, 7, 18), (0, 0, 0, 0), (0, 0, 0, 0), (2, 0, 1, 1), (14, 0, 0, 0), (10, 0, 1, 38), (0, 0, 0, 0), (0, 0, 0, 0), (1, 1, 1, 0), (11, 0, 0, 39), (0, 0, 0, 0), (0, 0, 0, 0), (1, 0, 1, 0), (29, 0, 0, 0)]
/-- ReedBenchModel.lays()I -/
def xk_124 : List xI := [(3, 0, 0, 1), (1, 0, 1, 0), (13, 661, 7, 0), (0, 0, 0, 0), (0, 0, 0, 0), (3, 0, 0, 1), (28, 735, 93, 1), (0, 0, 0, 0), (0, 0, 0, 0), (3, 0, 0, 1), (28, 841, 119, 1), (0, 0, 0, 0), (0, 0, 0, 0), (3, 0, 0, 1), (12, 679, 7, 18), (0, 0, 0, 0), (0, 0, 0, 0), (1, 0, 1, 0), (14, 0, 0, 0), (1, 1000000, 2, 824), (0, 0, 0, 0), (10, 0, 2, 28), (0, 0, 0, 0), (0, 0, 0, 0), (1, 0, 1, 0), (11, 0, 0, 34), (0, 0, 0, 0), (0, 0, 0, 0), (3, 0, 0, 1), (12, 680, 7, 19), (0, 0, 0, 0), (0, 0, 0, 0), (1, 0, 1, 0), (14, 0, 0, 0), (29, 0, 0, 0)]
/-- ReedBenchModel.make()I -/
def xk_125 : List xI := [(3, 0, 0, 1), (1, 0, 1, 0), (13, 661, 7, 0), (0, 0, 0, 0), (0, 0, 0, 0), (3, 0, 0, 1), (28, 735, 93, 1), (0, 0, 0, 0), (0, 0, 0, 0), (1, 0, 1, 0), (4, 0, 1, 1), (1, 0, 1, 0), (4, 0, 2, 1), (2, 0, 2, 1), (1, 8, 2, 0), (0, 0, 0, 0), (10, 0, 3, 43), (0, 0, 0, 0), (0, 0, 0, 0), (2, 0, 1, 1), (9, 0, 1, 31), (0, 0, 0, 0), (0, 0, 0, 0), (3, 0, 0, 1), (2, 0, 2, 1), (28, 800, 109, 2), (0, 0, 0, 0), (0, 0, 0, 0), (9, 0, 0, 35), (0, 0, 0, 0), (0, 0, 0, 0), (1, 1, 1, 0), (11, 0, 0, 36), (0, 0, 0, 0), (0, 0, 0, 0), (1, 0, 1, 0), (4, 0, 1, 1), (6, 1, 2, 0), (0, 0, 0, 0), (0, 0, 0, 0), (11, 0, 0, 13), (0, 0, 0, 0), (0, 0, 0, 0), (2, 0, 1, 1), (9, 0, 0, 54), (0, 0, 0, 0), (0, 0, 0, 0), (3, 0, 0, 1), (28, 837, 118, 1), (0, 0, 0, 0), (0, 0, 0, 0), (9, 0, 1, 56), (0, 0, 0, 0), (0, 0, 0, 0), (1, (-1), 1, 0), (29, 0, 0, 0), (3, 0, 0, 1), (28, 743, 95, 1), (0, 0, 0, 0), (0, 0, 0, 0), (3, 0, 0, 1), (12, 662, 7, 1), (0, 0, 0, 0), (0, 0, 0, 0), (1, 3, 1, 0), (14, 0, 0, 0), (4, 0, 2, 1), (3, 0, 0, 1), (12, 662, 7, 1), (0, 0, 0, 0), (0, 0, 0, 0), (1, 3, 1, 0), (2, 0, 2, 1), (1, 1, 1, 0), (7, 0, 0, 0), (15, 0, 0, 0), (1, 0, 1, 0), (4, 0, 3, 1), (2, 0, 3, 1), (1, 4, 1, 0), (10, 0, 3, 301), (0, 0, 0, 0), (0, 0, 0, 0), (3, 0, 0, 1), (12, 683, 7, 22), (0, 0, 0, 0), (0, 0, 0, 0), (1, 2, 1, 0), (2, 0, 3, 1), (7, 0, 2, 0), (14, 0, 0, 0), (4, 0, 4, 2), (0, 0, 0, 0), (3, 0, 0, 1), (12, 683, 7, 22), (0, 0, 0, 0), (0, 0, 0, 0), (1, 2, 1, 0), (2, 0, 3, 1), (7, 0, 2, 0), (1, 1, 1, 0), (7, 0, 0, 0), (14, 0, 0, 0), (4, 0, 5, 2), (0, 0, 0, 0), (2, 0, 4, 2), (0, 0, 0, 0), (1, (-1), 1, 0), (10, 0, 0, 185), (0, 0, 0, 0), (0, 0, 0, 0), (2, 0, 5, 2), (0, 0, 0, 0), (1, (-1), 1, 0), (10, 0, 0, 185), (0, 0, 0, 0), (0, 0, 0, 0), (3, 0, 0, 1), (2, 0, 3, 1), (28, 804, 110, 2), (0, 0, 0, 0), (0, 0, 0, 0), (9, 0, 0, 185), (0, 0, 0, 0), (0, 0, 0, 0), (3, 0, 0, 1), (2, 0, 4, 2), (0, 0, 0, 0), (2, 0, 5, 2), (0, 0, 0, 0), (2, 0, 3, 1), (28, 829, 116, 4), (0, 0, 0, 0), (0, 0, 0, 0), (24, 0, 0, 0), (3, 0, 0, 1), (12, 673, 7, 12), (0, 0, 0, 0), (0, 0, 0, 0), (3, 0, 0, 1), (12, 674, 7, 13), (0, 0, 0, 0), (0, 0, 0, 0), (7, 0, 1, 0), (3, 0, 0, 1), (12, 675, 7, 14), (0, 0, 0, 0), (0, 0, 0, 0), (7, 0, 1, 0), (3, 0, 0, 1), (12, 676, 7, 15), (0, 0, 0, 0), (0, 0, 0, 0), (7, 0, 1, 0), (4, 0, 6, 2), (0, 0, 0, 0), (3, 0, 0, 1), (2, 0, 4, 2), (0, 0, 0, 0), (3, 0, 0, 1), (12, 674, 7, 13), (0, 0, 0, 0), (0, 0, 0, 0), (3, 0, 0, 1), (12, 675, 7, 14), (0, 0, 0, 0), (0, 0, 0, 0), (28, 788, 106, 4), (0, 0, 0, 0), (0, 0, 0, 0), (3, 0, 0, 1), (2, 0, 5, 2), (0, 0, 0, 0), (3, 0, 0, 1), (12, 676, 7, 15), (0, 0, 0, 0), (0, 0, 0, 0), (2, 0, 6, 2), (0, 0, 0, 0), (28, 788, 106, 4), (0, 0, 0, 0), (0, 0, 0, 0), (11, 0, 0, 261), (0, 0, 0, 0), (0, 0, 0, 0), (2, 0, 4, 2), (0, 0, 0, 0), (1, (-1), 1, 0), (10, 0, 0, 222), (0, 0, 0, 0), (0, 0, 0, 0), (3, 0, 0, 1), (2, 0, 4, 2), (0, 0, 0, 0), (1, 2, 1, 0), (2, 0, 3, 1), (7, 0, 2, 0), (28, 816, 113, 3), (0, 0, 0, 0), (0, 0, 0, 0), (9, 0, 0, 222), (0, 0, 0, 0), (0, 0, 0, 0), (3, 0, 0, 1), (2, 0, 4, 2), (0, 0, 0, 0), (3, 0, 0, 1), (12, 672, 7, 11), (0, 0, 0, 0), (0, 0, 0, 0), (3, 0, 0, 1), (12, 671, 7, 10), (0, 0, 0, 0), (0, 0, 0, 0), (3, 0, 0, 1), (12, 672, 7, 11), (0, 0, 0, 0), (0, 0, 0, 0), (7, 0, 1, 0), (28, 788, 106, 4), (0, 0, 0, 0), (0, 0, 0, 0), (2, 0, 5, 2), (0, 0, 0, 0), (1, (-1), 1, 0), (10, 0, 0, 261), (0, 0, 0, 0), (0, 0, 0, 0), (3, 0, 0, 1), (2, 0, 5, 2), (0, 0, 0, 0), (1, 2, 1, 0), (2, 0, 3, 1), (7, 0, 2, 0), (1, 1, 1, 0), (7, 0, 0, 0), (28, 816, 113, 3), (0, 0, 0, 0), (0, 0, 0, 0), (9, 0, 0, 261), (0, 0, 0, 0), (0, 0, 0, 0), (3, 0, 0, 1), (2, 0, 5, 2), (0, 0, 0, 0), (3, 0, 0, 1), (12, 672, 7, 11), (0, 0, 0, 0), (0, 0, 0, 0), (3, 0, 0, 1), (12, 671, 7, 10), (0, 0, 0, 0), (0, 0, 0, 0), (3, 0, 0, 1), (12, 672, 7, 11), (0, 0, 0, 0), (0, 0, 0, 0), (7, 0, 1, 0), (28, 788, 106, 4), (0, 0, 0, 0), (0, 0, 0, 0), (2, 0, 4, 2), (0, 0, 0, 0), (1, (-1), 1, 0), (10, 0, 0, 277), (0, 0, 0, 0), (0, 0, 0, 0), (3, 0, 0, 1), (1, 2, 1, 0), (2, 0, 3, 1), (7, 0, 2, 0), (2, 0, 4, 2), (0, 0, 0, 0), (2, 0, 2, 1), (28, 869, 126, 4), (0, 0, 0, 0), (0, 0, 0, 0), (2, 0, 5, 2), (0, 0, 0, 0), (1, (-1), 1, 0), (10, 0, 0, 295), (0, 0, 0, 0), (0, 0, 0, 0), (3, 0, 0, 1), (1, 2, 1, 0), (2, 0, 3, 1), (7, 0, 2, 0), (1, 1, 1, 0), (7, 0, 0, 0), (2, 0, 5, 2), (0, 0, 0, 0), (2, 0, 2, 1), (28, 869, 126, 4), (0, 0, 0, 0), (0, 0, 0, 0), (6, 1, 3, 0), (0, 0, 0, 0), (0, 0, 0, 0), (11, 0, 0, 78), (0, 0, 0, 0), (0, 0, 0, 0), (1, 0, 1, 0), (4, 0, 3, 1), (2, 0, 3, 1), (1, 8, 2, 0), (0, 0, 0, 0), (10, 0, 3, 324), (0, 0, 0, 0), (0, 0, 0, 0), (3, 0, 0, 1), (12, 662, 7, 1), (0, 0, 0, 0), (0, 0, 0, 0), (1, 4, 1, 0), (2, 0, 3, 1), (7, 0, 0, 0), (1, (-1), 1, 0), (15, 0, 0, 0), (6, 1, 3, 0), (0, 0, 0, 0), (0, 0, 0, 0), (11, 0, 0, 303), (0, 0, 0, 0), (0, 0, 0, 0), (2, 0, 2, 1), (29, 0, 0, 0)]
/-- ReedBenchModel.sets(III)V -/
def xk_126 : List xI := [(1, 20, 2, 0), (0, 0, 0, 0), (1, 7, 2, 0), (0, 0, 0, 0), (2, 0, 2, 1), (7, 0, 2, 0), (7, 0, 0, 0), (4, 0, 4, 2), (0, 0, 0, 0), (3, 0, 0, 1), (12, 662, 7, 1), (0, 0, 0, 0), (0, 0, 0, 0), (2, 0, 4, 2), (0, 0, 0, 0), (1, 3, 1, 0), (7, 0, 0, 0), (1, 1, 1, 0), (15, 0, 0, 0), (3, 0, 0, 1), (12, 662, 7, 1), (0, 0, 0, 0), (0, 0, 0, 0), (2, 0, 4, 2), (0, 0, 0, 0), (1, 4, 1, 0), (7, 0, 0, 0), (2, 0, 3, 1), (15, 0, 0, 0), (3, 0, 0, 1), (12, 662, 7, 1), (0, 0, 0, 0), (0, 0, 0, 0), (2, 0, 4, 2), (0, 0, 0, 0), (1, 5, 1, 0), (7, 0, 0, 0), (2, 0, 1, 1), (15, 0, 0, 0), (30, 0, 0, 0)]
/-- ReedBenchModel.lacks()I -/
def xk_127 : List xI := [(3, 0, 0, 1), (1, 0, 1, 0), (13, 661, 7, 0), (0, 0, 0, 0), (0, 0, 0, 0), (3, 0, 0, 1), (28, 735, 93, 1), (0, 0, 0, 0), (0, 0, 0, 0), (3, 0, 0, 1), (28, 845, 120, 1), (0, 0, 0, 0), (0, 0, 0, 0), (1, 4, 1, 0), (4, 0, 1, 1), (2, 0, 1, 1), (9, 0, 2, 427), (0, 0, 0, 0), (0, 0, 0, 0), (2, 0, 1, 1), (1, 4, 1, 0), (10, 0, 3, 38), (0, 0, 0, 0), (0, 0, 0, 0), (3, 0, 0, 1), (1, 2, 1, 0), (2, 0, 1, 1), (7, 0, 2, 0), (28, 800, 109, 2), (0, 0, 0, 0), (0, 0, 0, 0), (9, 0, 0, 38), (0, 0, 0, 0), (0, 0, 0, 0), (1, 1, 1, 0), (11, 0, 0, 39), (0, 0, 0, 0), (0, 0, 0, 0), (1, 0, 1, 0), (4, 0, 2, 1), (2, 0, 1, 1), (1, 4, 1, 0), (10, 0, 3, 61), (0, 0, 0, 0), (0, 0, 0, 0), (3, 0, 0, 1), (1, 2, 1, 0), (2, 0, 1, 1), (7, 0, 2, 0), (1, 1, 1, 0), (7, 0, 0, 0), (28, 800, 109, 2), (0, 0, 0, 0), (0, 0, 0, 0), (9, 0, 0, 61), (0, 0, 0, 0), (0, 0, 0, 0), (1, 1, 1, 0), (11, 0, 0, 62), (0, 0, 0, 0), (0, 0, 0, 0), (1, 0, 1, 0), (4, 0, 3, 1), (2, 0, 1, 1), (1, 4, 1, 0), (10, 0, 0, 72), (0, 0, 0, 0), (0, 0, 0, 0), (2, 0, 2, 1), (9, 0, 1, 76), (0, 0, 0, 0), (0, 0, 0, 0), (1, 0, 1, 0), (11, 0, 0, 85), (0, 0, 0, 0), (0, 0, 0, 0), (1, 1000, 3, 0), (0, 0, 0, 0), (0, 0, 0, 0), (1, 1, 1, 0), (1, 2, 1, 0), (2, 0, 1, 1), (7, 0, 2, 0), (7, 0, 8, 0), (7, 0, 0, 0), (4, 0, 4, 2), (0, 0, 0, 0), (2, 0, 1, 1), (1, 4, 1, 0), (10, 0, 0, 96), (0, 0, 0, 0), (0, 0, 0, 0), (2, 0, 3, 1), (9, 0, 1, 100), (0, 0, 0, 0), (0, 0, 0, 0), (1, 0, 1, 0), (11, 0, 0, 109), (0, 0, 0, 0), (0, 0, 0, 0), (1, 1000, 3, 0), (0, 0, 0, 0), (0, 0, 0, 0), (1, 2, 1, 0), (1, 2, 1, 0), (2, 0, 1, 1), (7, 0, 2, 0), (7, 0, 8, 0), (7, 0, 0, 0), (4, 0, 5, 2), (0, 0, 0, 0), (1, 0, 1, 0), (4, 0, 6, 2), (0, 0, 0, 0), (2, 0, 6, 2), (0, 0, 0, 0), (1, 4096, 3, 0), (0, 0, 0, 0), (0, 0, 0, 0), (10, 0, 3, 421), (0, 0, 0, 0), (0, 0, 0, 0), (1, 4096, 3, 0), (0, 0, 0, 0), (0, 0, 0, 0), (2, 0, 1, 1), (1, 1, 1, 0), (7, 0, 0, 0), (7, 0, 2, 0), (4, 0, 7, 2), (0, 0, 0, 0), (2, 0, 1, 1), (1, 4, 1, 0), (10, 0, 1, 140), (0, 0, 0, 0), (0, 0, 0, 0), (1, 0, 1, 0), (11, 0, 0, 156), (0, 0, 0, 0), (0, 0, 0, 0), (2, 0, 4, 2), (0, 0, 0, 0), (2, 0, 5, 2), (0, 0, 0, 0), (7, 0, 0, 0), (3, 0, 0, 1), (12, 679, 7, 18), (0, 0, 0, 0), (0, 0, 0, 0), (2, 0, 7, 2), (0, 0, 0, 0), (2, 0, 6, 2), (0, 0, 0, 0), (7, 0, 0, 0), (14, 0, 0, 0), (7, 0, 0, 0), (4, 0, 8, 2), (0, 0, 0, 0), (1, 0, 1, 0), (4, 0, 9, 2), (0, 0, 0, 0), (2, 0, 9, 2), (0, 0, 0, 0), (1, 12, 2, 0), (0, 0, 0, 0), (10, 0, 3, 400), (0, 0, 0, 0), (0, 0, 0, 0), (2, 0, 1, 1), (1, 4, 1, 0), (10, 0, 3, 400), (0, 0, 0, 0), (0, 0, 0, 0), (3, 0, 0, 1), (2, 0, 6, 2), (0, 0, 0, 0), (2, 0, 9, 2), (0, 0, 0, 0), (28, 853, 122, 3), (0, 0, 0, 0), (0, 0, 0, 0), (9, 0, 0, 187), (0, 0, 0, 0), (0, 0, 0, 0), (11, 0, 0, 394), (0, 0, 0, 0), (0, 0, 0, 0), (2, 0, 7, 2), (0, 0, 0, 0), (2, 0, 6, 2), (0, 0, 0, 0), (1, 1, 1, 0), (2, 0, 9, 2), (0, 0, 0, 0), (7, 0, 8, 0), (7, 0, 6, 0), (7, 0, 0, 0), (4, 0, 10, 2), (0, 0, 0, 0), (2, 0, 2, 1), (9, 0, 0, 249), (0, 0, 0, 0), (0, 0, 0, 0), (3, 0, 0, 1), (12, 677, 7, 16), (0, 0, 0, 0), (0, 0, 0, 0), (1, 8, 2, 0), (0, 0, 0, 0), (2, 0, 9, 2), (0, 0, 0, 0), (7, 0, 2, 0), (1, 2, 1, 0), (2, 0, 1, 1), (7, 0, 2, 0), (7, 0, 0, 0), (14, 0, 0, 0), (1, 1000000, 2, 824), (0, 0, 0, 0), (10, 0, 3, 249), (0, 0, 0, 0), (0, 0, 0, 0), (2, 0, 5, 2), (0, 0, 0, 0), (3, 0, 0, 1), (12, 679, 7, 18), (0, 0, 0, 0), (0, 0, 0, 0), (2, 0, 10, 2), (0, 0, 0, 0), (14, 0, 0, 0), (7, 0, 0, 0), (2, 0, 8, 2), (0, 0, 0, 0), (10, 0, 3, 249), (0, 0, 0, 0), (0, 0, 0, 0), (2, 0, 5, 2), (0, 0, 0, 0), (3, 0, 0, 1), (12, 679, 7, 18), (0, 0, 0, 0), (0, 0, 0, 0), (2, 0, 10, 2), (0, 0, 0, 0), (14, 0, 0, 0), (7, 0, 0, 0), (4, 0, 8, 2), (0, 0, 0, 0), (2, 0, 3, 1), (9, 0, 0, 301), (0, 0, 0, 0), (0, 0, 0, 0), (3, 0, 0, 1), (12, 677, 7, 16), (0, 0, 0, 0), (0, 0, 0, 0), (1, 8, 2, 0), (0, 0, 0, 0), (2, 0, 9, 2), (0, 0, 0, 0), (7, 0, 2, 0), (1, 2, 1, 0), (2, 0, 1, 1), (7, 0, 2, 0), (7, 0, 0, 0), (1, 1, 1, 0), (7, 0, 0, 0), (14, 0, 0, 0), (1, 1000000, 2, 824), (0, 0, 0, 0), (10, 0, 3, 301), (0, 0, 0, 0), (0, 0, 0, 0), (2, 0, 4, 2), (0, 0, 0, 0), (3, 0, 0, 1), (12, 679, 7, 18), (0, 0, 0, 0), (0, 0, 0, 0), (2, 0, 10, 2), (0, 0, 0, 0), (14, 0, 0, 0), (7, 0, 0, 0), (2, 0, 8, 2), (0, 0, 0, 0), (10, 0, 3, 301), (0, 0, 0, 0), (0, 0, 0, 0), (2, 0, 4, 2), (0, 0, 0, 0), (3, 0, 0, 1), (12, 679, 7, 18), (0, 0, 0, 0), (0, 0, 0, 0), (2, 0, 10, 2), (0, 0, 0, 0), (14, 0, 0, 0), (7, 0, 0, 0), (4, 0, 8, 2), (0, 0, 0, 0), (1, 0, 1, 0), (4, 0, 11, 2), (0, 0, 0, 0), (2, 0, 11, 2), (0, 0, 0, 0), (1, 12, 2, 0), (0, 0, 0, 0), (10, 0, 3, 394), (0, 0, 0, 0), (0, 0, 0, 0), (2, 0, 2, 1), (9, 0, 0, 394), (0, 0, 0, 0), (0, 0, 0, 0), (2, 0, 3, 1), (9, 0, 0, 394), (0, 0, 0, 0), (0, 0, 0, 0), (3, 0, 0, 1), (2, 0, 6, 2), (0, 0, 0, 0), (2, 0, 11, 2), (0, 0, 0, 0), (28, 853, 122, 3), (0, 0, 0, 0), (0, 0, 0, 0), (9, 0, 1, 388), (0, 0, 0, 0), (0, 0, 0, 0), (3, 0, 0, 1), (12, 678, 7, 17), (0, 0, 0, 0), (0, 0, 0, 0), (1, 144, 3, 0), (0, 0, 0, 0), (0, 0, 0, 0), (2, 0, 1, 1), (7, 0, 2, 0), (1, 12, 2, 0), (0, 0, 0, 0), (2, 0, 9, 2), (0, 0, 0, 0), (7, 0, 2, 0), (7, 0, 0, 0), (2, 0, 11, 2), (0, 0, 0, 0), (7, 0, 0, 0), (14, 0, 0, 0), (1, 1000000, 2, 824), (0, 0, 0, 0), (10, 0, 2, 357), (0, 0, 0, 0), (0, 0, 0, 0), (11, 0, 0, 388), (0, 0, 0, 0), (0, 0, 0, 0), (3, 0, 0, 1), (12, 679, 7, 18), (0, 0, 0, 0), (0, 0, 0, 0), (2, 0, 10, 2), (0, 0, 0, 0), (1, 1, 1, 0), (2, 0, 11, 2), (0, 0, 0, 0), (7, 0, 8, 0), (7, 0, 6, 0), (14, 0, 0, 0), (2, 0, 8, 2), (0, 0, 0, 0), (10, 0, 3, 388), (0, 0, 0, 0), (0, 0, 0, 0), (3, 0, 0, 1), (12, 679, 7, 18), (0, 0, 0, 0), (0, 0, 0, 0), (2, 0, 10, 2), (0, 0, 0, 0), (1, 1, 1, 0), (2, 0, 11, 2), (0, 0, 0, 0), (7, 0, 8, 0), (7, 0, 6, 0), (14, 0, 0, 0), (4, 0, 8, 2), (0, 0, 0, 0), (6, 1, 11, 0), (0, 0, 0, 0), (0, 0, 0, 0), (11, 0, 0, 304), (0, 0, 0, 0), (0, 0, 0, 0), (6, 1, 9, 0), (0, 0, 0, 0), (0, 0, 0, 0), (11, 0, 0, 161), (0, 0, 0, 0), (0, 0, 0, 0), (3, 0, 0, 1), (12, 679, 7, 18), (0, 0, 0, 0), (0, 0, 0, 0), (1, 4096, 3, 0), (0, 0, 0, 0), (0, 0, 0, 0), (2, 0, 1, 1), (7, 0, 2, 0), (2, 0, 6, 2), (0, 0, 0, 0), (7, 0, 0, 0), (2, 0, 8, 2), (0, 0, 0, 0), (15, 0, 0, 0), (6, 1, 6, 0), (0, 0, 0, 0), (0, 0, 0, 0), (11, 0, 0, 114), (0, 0, 0, 0), (0, 0, 0, 0), (6, (-1), 1, 0), (0, 0, 0, 0), (0, 0, 0, 0), (11, 0, 0, 15), (0, 0, 0, 0), (0, 0, 0, 0), (3, 0, 0, 1), (12, 679, 7, 18), (0, 0, 0, 0), (0, 0, 0, 0), (1, 0, 1, 0), (14, 0, 0, 0), (1, 1000, 3, 0), (0, 0, 0, 0), (0, 0, 0, 0), (7, 0, 4, 0), (29, 0, 0, 0)]
/-- ReedBenchLaw.law([I)Z -/
def xk_128 : List xI := [(19, 80, 6, 0), (0, 0, 0, 0), (0, 0, 0, 0), (23, 0, 0, 0), (28, 82, 0, 1), (0, 0, 0, 0), (0, 0, 0, 0), (5, 0, 1, 1), (19, 655, 7, 0), (0, 0, 0, 0), (0, 0, 0, 0), (23, 0, 0, 0), (28, 657, 91, 1), (0, 0, 0, 0), (0, 0, 0, 0), (5, 0, 2, 1), (1, 0, 1, 0), (4, 0, 3, 1), (2, 0, 3, 1), (3, 0, 0, 1), (18, 0, 0, 0), (1, 5, 1, 0), (7, 0, 1, 0), (10, 0, 4, 596), (0, 0, 0, 0), (0, 0, 0, 0), (3, 0, 0, 1), (2, 0, 3, 1), (14, 0, 0, 0), (1, 15, 2, 0), (0, 0, 0, 0), (7, 0, 5, 0), (32, 0, 590, 80), (0, 0, 0, 0), (0, 0, 0, 0), (0, 0, 0, 0), (0, 0, 0, 0), (0, 0, 0, 0), (0, 0, 0, 0), (0, 0, 0, 0), (0, 0, 0, 0), (0, 0, 0, 0), (0, 0, 0, 0), (0, 0, 0, 0), (0, 0, 0, 0), (0, 0, 0, 0), (0, 0, 0, 0), (0, 0, 0, 0), (0, 0, 0, 0), (0, 0, 0, 0), (0, 0, 0, 0), (0, 0, 0, 0), (0, 0, 0, 0), (0, 0, 0, 0), (0, 0, 0, 0), (0, 0, 0, 0), (0, 0, 0, 0), (0, 0, 0, 0), (0, 0, 0, 0), (0, 0, 0, 0), (0, 0, 0, 0), (0, 0, 0, 0), (0, 0, 0, 0), (0, 0, 0, 0), (0, 0, 0, 0), (0, 0, 0, 0), (0, 0, 0, 0), (0, 0, 0, 0), (0, 0, 0, 0), (0, 0, 0, 0), (0, 0, 0, 0), (0, 0, 0, 0), (0, 0, 0, 0), (0, 0, 0, 0), (0, 0, 0, 0), (0, 0, 0, 0), (0, 0, 0, 0), (0, 0, 0, 0), (0, 0, 0, 0), (0, 0, 0, 0), (0, 0, 0, 0), (0, 0, 0, 0), (0, 0, 0, 0), (0, 0, 0, 0), (0, 0, 0, 0), (0, 0, 0, 0), (0, 0, 0, 0), (0, 0, 0, 0), (0, 0, 0, 0), (0, 0, 0, 0), (0, 0, 0, 0), (0, 0, 0, 0), (0, 0, 0, 0), (0, 0, 0, 0), (0, 0, 0, 0), (0, 0, 0, 0), (0, 0, 0, 0), (0, 0, 0, 0), (0, 0, 0, 0), (0, 0, 0, 0), (0, 0, 0, 0), (0, 0, 0, 0), (0, 0, 0, 0), (0, 0, 0, 0), (0, 0, 0, 0), (0, 0, 0, 0), (0, 0, 0, 0), (0, 0, 0, 0), (0, 0, 0, 0), (0, 0, 0, 0), (0, 0, 0, 0), (0, 0, 0, 0), (3, 0, 1, 1), (3, 0, 0, 1), (2, 0, 3, 1), (1, 1, 1, 0), (7, 0, 0, 0), (14, 0, 0, 0), (3, 0, 0, 1), (2, 0, 3, 1), (1, 2, 1, 0), (7, 0, 0, 0), (14, 0, 0, 0), (3, 0, 0, 1), (2, 0, 3, 1), (1, 3, 1, 0), (7, 0, 0, 0), (14, 0, 0, 0), (28, 281, 8, 4), (0, 0, 0, 0), (0, 0, 0, 0), (3, 0, 2, 1), (3, 0, 0, 1), (2, 0, 3, 1), (1, 1, 1, 0), (7, 0, 0, 0), (14, 0, 0, 0), (3, 0, 0, 1), (2, 0, 3, 1), (1, 2, 1, 0), (7, 0, 0, 0), (14, 0, 0, 0), (3, 0, 0, 1), (2, 0, 3, 1), (1, 3, 1, 0), (7, 0, 0, 0), (14, 0, 0, 0), (28, 739, 94, 4), (0, 0, 0, 0), (0, 0, 0, 0), (10, 0, 0, 590), (0, 0, 0, 0), (0, 0, 0, 0), (1, 0, 1, 0), (29, 0, 0, 0), (3, 0, 1, 1), (3, 0, 0, 1), (2, 0, 3, 1), (1, 1, 1, 0), (7, 0, 0, 0), (14, 0, 0, 0), (28, 318, 17, 2), (0, 0, 0, 0), (0, 0, 0, 0), (3, 0, 2, 1), (3, 0, 0, 1), (2, 0, 3, 1), (1, 1, 1, 0), (7, 0, 0, 0), (14, 0, 0, 0), (28, 747, 96, 2), (0, 0, 0, 0), (0, 0, 0, 0), (10, 0, 0, 590), (0, 0, 0, 0), (0, 0, 0, 0), (1, 0, 1, 0), (29, 0, 0, 0), (3, 0, 1, 1), (3, 0, 0, 1), (2, 0, 3, 1), (1, 1, 1, 0), (7, 0, 0, 0), (14, 0, 0, 0), (3, 0, 0, 1), (2, 0, 3, 1), (1, 2, 1, 0), (7, 0, 0, 0), (14, 0, 0, 0), (28, 330, 20, 3), (0, 0, 0, 0), (0, 0, 0, 0), (3, 0, 2, 1), (3, 0, 0, 1), (2, 0, 3, 1), (1, 1, 1, 0), (7, 0, 0, 0), (14, 0, 0, 0), (3, 0, 0, 1), (2, 0, 3, 1), (1, 2, 1, 0), (7, 0, 0, 0), (14, 0, 0, 0), (28, 763, 100, 3), (0, 0, 0, 0), (0, 0, 0, 0), (10, 0, 0, 590), (0, 0, 0, 0), (0, 0, 0, 0), (1, 0, 1, 0), (29, 0, 0, 0), (3, 0, 1, 1), (3, 0, 0, 1), (2, 0, 3, 1), (1, 1, 1, 0), (7, 0, 0, 0), (14, 0, 0, 0), (3, 0, 0, 1), (2, 0, 3, 1), (1, 2, 1, 0), (7, 0, 0, 0), (14, 0, 0, 0), (28, 334, 21, 3), (0, 0, 0, 0), (0, 0, 0, 0), (3, 0, 2, 1), (3, 0, 0, 1), (2, 0, 3, 1), (1, 1, 1, 0), (7, 0, 0, 0), (14, 0, 0, 0), (3, 0, 0, 1), (2, 0, 3, 1), (1, 2, 1, 0), (7, 0, 0, 0), (14, 0, 0, 0), (28, 767, 101, 3), (0, 0, 0, 0), (0, 0, 0, 0), (10, 0, 0, 590), (0, 0, 0, 0), (0, 0, 0, 0), (1, 0, 1, 0), (29, 0, 0, 0), (3, 0, 1, 1), (3, 0, 0, 1), (2, 0, 3, 1), (1, 1, 1, 0), (7, 0, 0, 0), (14, 0, 0, 0), (3, 0, 0, 1), (2, 0, 3, 1), (1, 2, 1, 0), (7, 0, 0, 0), (14, 0, 0, 0), (28, 338, 22, 3), (0, 0, 0, 0), (0, 0, 0, 0), (3, 0, 2, 1), (3, 0, 0, 1), (2, 0, 3, 1), (1, 1, 1, 0), (7, 0, 0, 0), (14, 0, 0, 0), (3, 0, 0, 1), (2, 0, 3, 1), (1, 2, 1, 0), (7, 0, 0, 0), (14, 0, 0, 0), (28, 771, 102, 3), (0, 0, 0, 0), (0, 0, 0, 0), (10, 0, 0, 590), (0, 0, 0, 0), (0, 0, 0, 0), (1, 0, 1, 0), (29, 0, 0, 0), (3, 0, 1, 1), (3, 0, 0, 1), (2, 0, 3, 1), (1, 1, 1, 0), (7, 0, 0, 0), (14, 0, 0, 0), (3, 0, 0, 1), (2, 0, 3, 1), (1, 2, 1, 0), (7, 0, 0, 0), (14, 0, 0, 0), (3, 0, 0, 1), (2, 0, 3, 1), (1, 3, 1, 0), (7, 0, 0, 0), (14, 0, 0, 0), (28, 344, 23, 4), (0, 0, 0, 0), (0, 0, 0, 0), (3, 0, 2, 1), (3, 0, 0, 1), (2, 0, 3, 1), (1, 1, 1, 0), (7, 0, 0, 0), (14, 0, 0, 0), (3, 0, 0, 1), (2, 0, 3, 1), (1, 2, 1, 0), (7, 0, 0, 0), (14, 0, 0, 0), (3, 0, 0, 1), (2, 0, 3, 1), (1, 3, 1, 0), (7, 0, 0, 0), (14, 0, 0, 0), (28, 775, 103, 4), (0, 0, 0, 0), (0, 0, 0, 0), (10, 0, 0, 590), (0, 0, 0, 0), (0, 0, 0, 0), (1, 0, 1, 0), (29, 0, 0, 0), (3, 0, 1, 1), (3, 0, 0, 1), (2, 0, 3, 1), (1, 1, 1, 0), (7, 0, 0, 0), (14, 0, 0, 0), (3, 0, 0, 1), (2, 0, 3, 1), (1, 2, 1, 0), (7, 0, 0, 0), (14, 0, 0, 0), (3, 0, 0, 1), (2, 0, 3, 1), (1, 3, 1, 0), (7, 0, 0, 0), (14, 0, 0, 0), (28, 348, 24, 4), (0, 0, 0, 0), (0, 0, 0, 0), (3, 0, 2, 1), (3, 0, 0, 1), (2, 0, 3, 1), (1, 1, 1, 0), (7, 0, 0, 0), (14, 0, 0, 0), (3, 0, 0, 1), (2, 0, 3, 1), (1, 2, 1, 0), (7, 0, 0, 0), (14, 0, 0, 0), (3, 0, 0, 1), (2, 0, 3, 1), (1, 3, 1, 0), (7, 0, 0, 0), (14, 0, 0, 0), (28, 779, 104, 4), (0, 0, 0, 0), (0, 0, 0, 0), (10, 0, 0, 590), (0, 0, 0, 0), (0, 0, 0, 0), (1, 0, 1, 0), (29, 0, 0, 0), (3, 0, 1, 1), (3, 0, 0, 1), (2, 0, 3, 1), (1, 1, 1, 0), (7, 0, 0, 0), (14, 0, 0, 0), (28, 362, 27, 2), (0, 0, 0, 0), (0, 0, 0, 0), (3, 0, 2, 1), (3, 0, 0, 1), (2, 0, 3, 1), (1, 1, 1, 0), (7, 0, 0, 0), (14, 0, 0, 0), (28, 796, 108, 2), (0, 0, 0, 0), (0, 0, 0, 0), (10, 0, 0, 590), (0, 0, 0, 0), (0, 0, 0, 0), (1, 0, 1, 0), (29, 0, 0, 0), (3, 0, 1, 1), (3, 0, 0, 1), (2, 0, 3, 1), (1, 1, 1, 0), (7, 0, 0, 0), (14, 0, 0, 0), (3, 0, 0, 1), (2, 0, 3, 1), (1, 2, 1, 0), (7, 0, 0, 0), (14, 0, 0, 0), (28, 393, 34, 3), (0, 0, 0, 0), (0, 0, 0, 0), (3, 0, 2, 1), (3, 0, 0, 1), (2, 0, 3, 1), (1, 1, 1, 0), (7, 0, 0, 0), (14, 0, 0, 0), (3, 0, 0, 1), (2, 0, 3, 1), (1, 2, 1, 0), (7, 0, 0, 0), (14, 0, 0, 0), (28, 808, 111, 3), (0, 0, 0, 0), (0, 0, 0, 0), (10, 0, 0, 590), (0, 0, 0, 0), (0, 0, 0, 0), (1, 0, 1, 0), (29, 0, 0, 0), (3, 0, 1, 1), (3, 0, 0, 1), (2, 0, 3, 1), (1, 1, 1, 0), (7, 0, 0, 0), (14, 0, 0, 0), (3, 0, 0, 1), (2, 0, 3, 1), (1, 2, 1, 0), (7, 0, 0, 0), (14, 0, 0, 0), (3, 0, 0, 1), (2, 0, 3, 1), (1, 3, 1, 0), (7, 0, 0, 0), (14, 0, 0, 0), (28, 398, 35, 4), (0, 0, 0, 0), (0, 0, 0, 0), (3, 0, 2, 1), (3, 0, 0, 1), (2, 0, 3, 1), (1, 1, 1, 0), (7, 0, 0, 0), (14, 0, 0, 0), (3, 0, 0, 1), (2, 0, 3, 1), (1, 2, 1, 0), (7, 0, 0, 0), (14, 0, 0, 0), (3, 0, 0, 1), (2, 0, 3, 1), (1, 3, 1, 0), (7, 0, 0, 0), (14, 0, 0, 0), (28, 812, 112, 4), (0, 0, 0, 0), (0, 0, 0, 0), (10, 0, 0, 590), (0, 0, 0, 0), (0, 0, 0, 0), (1, 0, 1, 0), (29, 0, 0, 0), (3, 0, 1, 1), (3, 0, 0, 1), (2, 0, 3, 1), (1, 1, 1, 0), (7, 0, 0, 0), (14, 0, 0, 0), (3, 0, 0, 1), (2, 0, 3, 1), (1, 2, 1, 0), (7, 0, 0, 0), (14, 0, 0, 0), (3, 0, 0, 1), (2, 0, 3, 1), (1, 3, 1, 0), (7, 0, 0, 0), (14, 0, 0, 0), (3, 0, 0, 1), (2, 0, 3, 1), (1, 4, 1, 0), (7, 0, 0, 0), (14, 0, 0, 0), (28, 427, 42, 5), (0, 0, 0, 0), (0, 0, 0, 0), (3, 0, 2, 1), (3, 0, 0, 1), (2, 0, 3, 1), (1, 1, 1, 0), (7, 0, 0, 0), (14, 0, 0, 0), (3, 0, 0, 1), (2, 0, 3, 1), (1, 2, 1, 0), (7, 0, 0, 0), (14, 0, 0, 0), (3, 0, 0, 1), (2, 0, 3, 1), (1, 3, 1, 0), (7, 0, 0, 0), (14, 0, 0, 0), (3, 0, 0, 1), (2, 0, 3, 1), (1, 4, 1, 0), (7, 0, 0, 0), (14, 0, 0, 0), (28, 825, 115, 5), (0, 0, 0, 0), (0, 0, 0, 0), (10, 0, 0, 590), (0, 0, 0, 0), (0, 0, 0, 0), (1, 0, 1, 0), (29, 0, 0, 0), (3, 0, 1, 1), (3, 0, 0, 1), (2, 0, 3, 1), (1, 1, 1, 0), (7, 0, 0, 0), (14, 0, 0, 0), (28, 481, 56, 2), (0, 0, 0, 0), (0, 0, 0, 0), (3, 0, 2, 1), (3, 0, 0, 1), (2, 0, 3, 1), (1, 1, 1, 0), (7, 0, 0, 0), (14, 0, 0, 0), (28, 833, 117, 2), (0, 0, 0, 0), (0, 0, 0, 0), (10, 0, 0, 590), (0, 0, 0, 0), (0, 0, 0, 0), (1, 0, 1, 0), (29, 0, 0, 0), (3, 0, 1, 1), (28, 581, 76, 1), (0, 0, 0, 0), (0, 0, 0, 0), (3, 0, 2, 1), (28, 861, 124, 1), (0, 0, 0, 0), (0, 0, 0, 0), (10, 0, 0, 590), (0, 0, 0, 0), (0, 0, 0, 0), (1, 0, 1, 0), (29, 0, 0, 0), (3, 0, 1, 1), (28, 585, 77, 1), (0, 0, 0, 0), (0, 0, 0, 0), (3, 0, 2, 1), (28, 865, 125, 1), (0, 0, 0, 0), (0, 0, 0, 0), (10, 0, 0, 590), (0, 0, 0, 0), (0, 0, 0, 0), (1, 0, 1, 0), (29, 0, 0, 0), (3, 0, 1, 1), (28, 615, 82, 1), (0, 0, 0, 0), (0, 0, 0, 0), (3, 0, 2, 1), (28, 873, 127, 1), (0, 0, 0, 0), (0, 0, 0, 0), (10, 0, 0, 590), (0, 0, 0, 0), (0, 0, 0, 0), (1, 0, 1, 0), (29, 0, 0, 0), (3, 0, 1, 1), (28, 647, 89, 1), (0, 0, 0, 0), (0, 0, 0, 0), (3, 0, 2, 1), (28, 731, 92, 1), (0, 0, 0, 0), (0, 0, 0, 0), (10, 0, 0, 590), (0, 0, 0, 0), (0, 0, 0, 0), (1, 0, 1, 0), (29, 0, 0, 0), (6, 5, 3, 0), (0, 0, 0, 0), (0, 0, 0, 0), (11, 0, 0, 18), (0, 0, 0, 0), (0, 0, 0, 0), (1, 1, 1, 0), (29, 0, 0, 0)]
def xprog : List (List xI) := [xk_0, xk_1, xk_2, xk_3, xk_4, xk_5, xk_6, xk_7, xk_8, xk_9, xk_10, xk_11, xk_12, xk_13, xk_14, xk_15, xk_16, xk_17, xk_18, xk_19, xk_20, xk_21, xk_22, xk_23, xk_24, xk_25, xk_26, xk_27, xk_28, xk_29, xk_30, xk_31, xk_32, xk_33, xk_34, xk_35, xk_36, xk_37, xk_38, xk_39, xk_40, xk_41, xk_42, xk_43, xk_44, xk_45, xk_46, xk_47, xk_48, xk_49, xk_50, xk_51, xk_52, xk_53, xk_54, xk_55, xk_56, xk_57, xk_58, xk_59, xk_60, xk_61, xk_62, xk_63, xk_64, xk_65, xk_66, xk_67, xk_68, xk_69, xk_70, xk_71, xk_72, xk_73, xk_74, xk_75, xk_76, xk_77, xk_78, xk_79, xk_80, xk_81, xk_82, xk_83, xk_84, xk_85, xk_86, xk_87, xk_88, xk_89, xk_90, xk_91, xk_92, xk_93, xk_94, xk_95, xk_96, xk_97, xk_98, xk_99, xk_100, xk_101, xk_102, xk_103, xk_104, xk_105, xk_106, xk_107, xk_108, xk_109, xk_110, xk_111, xk_112, xk_113, xk_114, xk_115, xk_116, xk_117, xk_118, xk_119, xk_120, xk_121, xk_122, xk_123, xk_124, xk_125, xk_126, xk_127, xk_128]
def xins (mi pc : Nat) : xI := xnth (xnth xprog mi []) pc (0, 0, 0, 0)
def xswt : List (Nat × Nat × List Nat) := [(27, 45, [84, 92, 103, 111, 119, 127]), (34, 25, [68, 73, 78, 83, 88, 93, 98]), (35, 49, [76, 82, 88]), (42, 67, [100, 106, 112, 118, 124]), (128, 32, [112, 155, 178, 211, 244, 277, 320, 363, 386, 419, 462, 515, 538, 551, 564, 577])]
def xsw (mi pc : Nat) : List Nat := match xswt.find? (fun q => q.1 == mi && q.2.1 == pc) with
  | some q => q.2.2
  | none => []
/-- of a method: maxLocals, answer (0 none, 1 int, 2 boolean), arguments with the receiver, kind (0 static, 1 virtual, 2 <init>), class, frames, words, cells, slots, bytes -/
def xinf : List (List Nat) := [[1, 0, 1, 2, 6, 4, 82, 145, 11169, 49], [2, 0, 1, 2, 4, 2, 40, 16, 112, 90], [1, 0, 1, 2, 3, 1, 20, 0, 0, 25], [4, 0, 2, 0, 99, 0, 0, 0, 0, 21], [2, 0, 1, 2, 1, 3, 61, 103, 726, 41], [1, 0, 1, 2, 5, 1, 20, 15, 1426, 33], [1, 0, 1, 2, 2, 2, 40, 7, 8882, 50], [1, 0, 1, 2, 0, 1, 20, 2, 672, 22], [6, 1, 4, 1, 6, 4, 101, 0, 0, 100], [3, 2, 3, 0, 6, 0, 0, 0, 0, 16], [1, 0, 1, 1, 6, 3, 81, 0, 0, 19], [2, 0, 2, 1, 1, 2, 60, 0, 0, 51], [3, 0, 2, 1, 4, 1, 38, 0, 0, 105], [2, 0, 2, 1, 3, 0, 0, 0, 0, 57], [2, 1, 2, 0, 99, 0, 0, 0, 0, 11], [1, 0, 1, 1, 2, 0, 0, 0, 0, 6], [4, 0, 4, 1, 3, 0, 0, 0, 0, 36], [2, 2, 2, 1, 6, 4, 101, 0, 0, 32], [2, 2, 2, 1, 4, 1, 21, 0, 0, 26], [2, 2, 2, 1, 4, 0, 0, 0, 0, 24], [3, 2, 3, 1, 6, 4, 101, 0, 0, 44], [3, 2, 3, 1, 6, 4, 101, 0, 0, 39], [4, 2, 3, 1, 6, 4, 101, 0, 0, 63], [5, 2, 4, 1, 6, 4, 101, 0, 0, 71], [4, 1, 4, 1, 6, 4, 101, 0, 0, 69], [3, 2, 3, 1, 3, 1, 22, 0, 0, 32], [5, 0, 4, 1, 3, 0, 0, 0, 0, 73], [2, 1, 2, 1, 6, 3, 64, 0, 0, 139], [3, 1, 2, 1, 6, 1, 21, 0, 0, 47], [2, 2, 2, 1, 4, 0, 0, 0, 0, 30], [3, 1, 1, 1, 4, 2, 42, 0, 0, 32], [1, 1, 1, 0, 99, 0, 0, 0, 0, 53], [3, 1, 1, 1, 4, 1, 21, 0, 0, 32], [2, 2, 2, 1, 4, 0, 0, 0, 0, 26], [4, 1, 3, 1, 6, 1, 21, 0, 0, 106], [5, 1, 4, 1, 6, 3, 75, 0, 0, 96], [6, 1, 4, 1, 5, 2, 50, 0, 0, 51], [10, 0, 4, 0, 5, 1, 21, 0, 0, 151], [2, 1, 2, 0, 5, 0, 0, 0, 0, 9], [1, 1, 1, 0, 5, 0, 0, 0, 0, 5], [1, 1, 1, 0, 5, 0, 0, 0, 0, 5], [1, 1, 1, 0, 5, 1, 20, 0, 0, 10], [6, 1, 5, 1, 6, 5, 110, 0, 0, 132], [2, 2, 2, 1, 4, 1, 21, 0, 0, 37], [5, 1, 5, 1, 5, 4, 86, 0, 0, 23], [4, 0, 4, 1, 5, 2, 50, 0, 0, 15], [11, 0, 4, 1, 5, 2, 50, 0, 0, 166], [2, 1, 2, 0, 99, 0, 0, 0, 0, 11], [7, 1, 4, 0, 5, 0, 0, 0, 0, 72], [5, 1, 3, 1, 5, 3, 62, 0, 0, 75], [3, 1, 2, 0, 5, 2, 40, 0, 0, 40], [1, 1, 1, 0, 5, 0, 0, 0, 0, 5], [1, 1, 1, 0, 5, 0, 0, 0, 0, 8], [1, 1, 1, 0, 5, 0, 0, 0, 0, 7], [1, 1, 1, 0, 5, 0, 0, 0, 0, 5], [1, 1, 1, 0, 5, 1, 20, 0, 0, 20], [2, 1, 2, 1, 6, 8, 181, 0, 0, 67], [3, 0, 3, 1, 2, 7, 159, 0, 0, 73], [4, 0, 3, 1, 0, 6, 136, 0, 0, 76], [6, 0, 4, 1, 0, 3, 75, 0, 0, 65], [2, 2, 2, 1, 4, 2, 42, 0, 0, 22], [5, 0, 4, 1, 0, 5, 112, 0, 0, 88], [3, 1, 3, 1, 0, 0, 0, 0, 0, 12], [7, 0, 5, 1, 0, 4, 86, 0, 0, 82], [3, 0, 2, 1, 2, 1, 21, 0, 0, 48], [5, 0, 2, 1, 2, 4, 87, 0, 0, 109], [5, 0, 5, 1, 2, 3, 63, 0, 0, 40], [5, 0, 4, 1, 2, 1, 24, 0, 0, 63], [5, 0, 4, 1, 2, 0, 0, 0, 0, 75], [6, 0, 4, 1, 2, 1, 24, 0, 0, 98], [4, 1, 4, 1, 0, 0, 0, 0, 0, 17], [1, 2, 1, 1, 2, 0, 0, 0, 0, 15], [4, 0, 2, 1, 2, 3, 63, 0, 0, 64], [6, 1, 3, 1, 2, 1, 23, 0, 0, 98], [4, 2, 4, 1, 2, 0, 0, 0, 0, 40], [4, 1, 3, 1, 2, 1, 23, 0, 0, 59], [1, 1, 1, 1, 6, 8, 181, 0, 0, 23], [1, 1, 1, 1, 6, 8, 181, 0, 0, 80], [4, 0, 3, 1, 2, 6, 136, 0, 0, 70], [7, 0, 4, 1, 2, 5, 110, 0, 0, 138], [3, 0, 3, 1, 3, 0, 0, 0, 0, 16], [6, 0, 4, 1, 2, 3, 75, 0, 0, 76], [1, 1, 1, 1, 6, 8, 181, 0, 0, 27], [2, 1, 2, 1, 2, 4, 101, 0, 0, 24], [6, 1, 3, 0, 99, 3, 76, 0, 0, 133], [8, 0, 4, 0, 99, 2, 49, 0, 0, 123], [1, 1, 1, 0, 99, 0, 0, 0, 0, 8], [7, 1, 5, 0, 99, 1, 23, 0, 0, 128], [7, 0, 4, 0, 99, 1, 22, 0, 0, 112], [1, 2, 1, 1, 6, 3, 81, 0, 0, 25], [2, 2, 2, 1, 1, 2, 60, 0, 0, 55], [1, 0, 1, 2, 7, 1, 20, 12, 42852, 249], [2, 2, 1, 1, 7, 1, 21, 0, 0, 64], [2, 0, 1, 1, 7, 0, 0, 0, 0, 75], [5, 1, 4, 1, 7, 1, 21, 0, 0, 164], [2, 0, 1, 1, 7, 0, 0, 0, 0, 89], [2, 2, 2, 1, 7, 2, 43, 0, 0, 48], [2, 2, 2, 1, 7, 0, 0, 0, 0, 20], [2, 2, 2, 1, 7, 1, 22, 0, 0, 15], [3, 1, 3, 1, 7, 0, 0, 0, 0, 15], [3, 2, 3, 1, 7, 1, 21, 0, 0, 52], [3, 2, 3, 1, 7, 1, 21, 0, 0, 48], [4, 2, 3, 1, 7, 1, 21, 0, 0, 94], [4, 2, 4, 1, 7, 1, 21, 0, 0, 70], [4, 1, 4, 1, 7, 3, 69, 0, 0, 56], [4, 2, 4, 1, 7, 1, 22, 0, 0, 34], [5, 0, 4, 1, 7, 2, 45, 0, 0, 88], [4, 1, 4, 1, 7, 1, 22, 0, 0, 33], [4, 1, 2, 1, 7, 2, 43, 0, 0, 221], [2, 2, 2, 1, 7, 0, 0, 0, 0, 18], [2, 2, 2, 1, 7, 0, 0, 0, 0, 27], [3, 1, 3, 1, 7, 1, 22, 0, 0, 39], [4, 1, 4, 1, 7, 4, 95, 0, 0, 88], [4, 2, 3, 1, 7, 3, 72, 0, 0, 104], [8, 0, 4, 1, 7, 2, 45, 0, 0, 195], [5, 1, 5, 1, 7, 4, 102, 0, 0, 149], [11, 2, 4, 1, 7, 3, 72, 0, 0, 373], [3, 1, 2, 1, 7, 7, 181, 0, 0, 67], [9, 2, 1, 1, 7, 6, 153, 0, 0, 430], [8, 0, 1, 1, 7, 5, 126, 0, 0, 360], [5, 0, 1, 1, 7, 4, 102, 0, 0, 268], [4, 0, 3, 1, 7, 0, 0, 0, 0, 69], [3, 2, 3, 1, 7, 0, 0, 0, 0, 15], [4, 2, 4, 1, 7, 0, 0, 0, 0, 40], [1, 1, 1, 1, 7, 6, 153, 0, 0, 35], [7, 1, 1, 1, 7, 7, 181, 0, 0, 326], [5, 0, 4, 1, 7, 0, 0, 0, 0, 40], [12, 1, 1, 1, 7, 5, 126, 0, 0, 438], [4, 2, 1, 0, 99, 11, 414, 600000, 7302250, 598]]
def xmi (mi j : Nat) : Nat := xnth (xnth xinf mi []) j 0
def xys : List MethodName := [⟨"ReedBench", "<init>", "()V"⟩, ⟨"ReedBench$State", "<init>", "()V"⟩, ⟨"ReedBench$Reed", "<init>", "()V"⟩, ⟨"java/util/Arrays", "fill", "([II)V"⟩, ⟨"ReedBench$History", "<init>", "()V"⟩, ⟨"ReedBench$Works", "<init>", "()V"⟩, ⟨"ReedBench$Plan", "<init>", "()V"⟩, ⟨"ReedBench$Costs", "<init>", "()V"⟩, ⟨"ReedBench", "reed", "(III)I"⟩, ⟨"ReedBench", "within", "(III)Z"⟩, ⟨"ReedBench", "remember", "()V"⟩, ⟨"ReedBench$History", "keep", "(LReedBench$State;)V"⟩, ⟨"ReedBench$State", "copyFrom", "(LReedBench$State;)V"⟩, ⟨"ReedBench$Reed", "copyFrom", "(LReedBench$Reed;)V"⟩, ⟨"java/lang/Math", "min", "(II)I"⟩, ⟨"ReedBench$Plan", "forget", "()V"⟩, ⟨"ReedBench$Reed", "begin", "(III)V"⟩, ⟨"ReedBench", "scrap", "(I)Z"⟩, ⟨"ReedBench$State", "isFree", "(I)Z"⟩, ⟨"ReedBench$State", "hasReed", "(I)Z"⟩, ⟨"ReedBench", "rates", "(II)Z"⟩, ⟨"ReedBench", "want", "(II)Z"⟩, ⟨"ReedBench", "tuning", "(II)Z"⟩, ⟨"ReedBench", "beat", "(III)Z"⟩, ⟨"ReedBench", "file", "(III)I"⟩, ⟨"ReedBench$Reed", "bears", "(II)Z"⟩, ⟨"ReedBench$Reed", "takeStrokes", "(III)V"⟩, ⟨"ReedBench", "look", "(I)I"⟩, ⟨"ReedBench", "beatBound", "(I)I"⟩, ⟨"ReedBench$State", "isBound", "(I)Z"⟩, ⟨"ReedBench$State", "freeReeds", "()I"⟩, ⟨"java/lang/Integer", "bitCount", "(I)I"⟩, ⟨"ReedBench$State", "wantedSlots", "()I"⟩, ⟨"ReedBench$State", "isWanted", "(I)Z"⟩, ⟨"ReedBench", "of", "(II)I"⟩, ⟨"ReedBench", "work", "(III)I"⟩, ⟨"ReedBench$Works", "slotKey", "(LReedBench$State;II)I"⟩, ⟨"ReedBench$Works", "fillNear", "(LReedBench$State;II[I)V"⟩, ⟨"ReedBench$Works", "keyOf", "(II)I"⟩, ⟨"ReedBench$Works", "strokesOf", "(I)I"⟩, ⟨"ReedBench$Works", "tipOf", "(I)I"⟩, ⟨"ReedBench$Works", "rootOf", "(I)I"⟩, ⟨"ReedBench", "pairWork", "(IIII)I"⟩, ⟨"ReedBench$State", "isWantedPair", "(I)Z"⟩, ⟨"ReedBench$Works", "pairKey", "(LReedBench$State;III)I"⟩, ⟨"ReedBench$Works", "fillFirst", "(LReedBench$State;II)V"⟩, ⟨"ReedBench$Works", "fillPartner", "(LReedBench$State;II)V"⟩, ⟨"java/lang/Math", "max", "(II)I"⟩, ⟨"ReedBench$Works", "leastPlace", "([IIII)I"⟩, ⟨"ReedBench$Works", "joinWithPartner", "(LReedBench$State;I)I"⟩, ⟨"ReedBench$Works", "joinedKey", "(II)I"⟩, ⟨"ReedBench$Works", "pairStrokesOf", "(I)I"⟩, ⟨"ReedBench$Works", "firstTipOf", "(I)I"⟩, ⟨"ReedBench$Works", "firstRootOf", "(I)I"⟩, ⟨"ReedBench$Works", "otherTipOf", "(I)I"⟩, ⟨"ReedBench$Works", "otherRootOf", "(I)I"⟩, ⟨"ReedBench", "best", "(I)I"⟩, ⟨"ReedBench$Plan", "settle", "(LReedBench$State;LReedBench$Works;)V"⟩, ⟨"ReedBench$Costs", "reckon", "(LReedBench$State;LReedBench$Works;)V"⟩, ⟨"ReedBench$Costs", "reckonSlot", "(LReedBench$State;LReedBench$Works;I)V"⟩, ⟨"ReedBench$State", "mustBeat", "(I)Z"⟩, ⟨"ReedBench$Costs", "reckonPair", "(LReedBench$State;LReedBench$Works;I)V"⟩, ⟨"ReedBench$Costs", "ofSlot", "(II)I"⟩, ⟨"ReedBench$Costs", "reckonPartner", "(LReedBench$State;LReedBench$Works;II)V"⟩, ⟨"ReedBench$Plan", "putInOrder", "(LReedBench$State;)V"⟩, ⟨"ReedBench$Plan", "fillRows", "(LReedBench$State;)V"⟩, ⟨"ReedBench$Plan", "fillNext", "(LReedBench$State;III)V"⟩, ⟨"ReedBench$Plan", "fillBySlot", "(III)V"⟩, ⟨"ReedBench$Plan", "offer", "(III)V"⟩, ⟨"ReedBench$Plan", "fillByPair", "(III)V"⟩, ⟨"ReedBench$Costs", "ofPair", "(III)I"⟩, ⟨"ReedBench$Plan", "exists", "()Z"⟩, ⟨"ReedBench$Plan", "choose", "(LReedBench$State;)V"⟩, ⟨"ReedBench$Plan", "choosePair", "(II)I"⟩, ⟨"ReedBench$Plan", "leads", "(III)Z"⟩, ⟨"ReedBench$Plan", "chooseSlot", "(II)I"⟩, ⟨"ReedBench", "lays", "()I"⟩, ⟨"ReedBench", "make", "()I"⟩, ⟨"ReedBench$Plan", "carryOut", "(LReedBench$State;LReedBench$Works;)V"⟩, ⟨"ReedBench$Plan", "setPair", "(LReedBench$State;LReedBench$Works;I)V"⟩, ⟨"ReedBench$Reed", "putInto", "(II)V"⟩, ⟨"ReedBench$Plan", "setSlot", "(LReedBench$State;LReedBench$Works;I)V"⟩, ⟨"ReedBench", "lacks", "()I"⟩, ⟨"ReedBench$Plan", "fewestLeftOut", "(LReedBench$State;)I"⟩, ⟨"ReedBench$LeftOut", "seek", "(LReedBench$State;LReedBench$Costs;[I)I"⟩, ⟨"ReedBench$LeftOut", "addPair", "(LReedBench$Costs;[III)V"⟩, ⟨"ReedBench$LeftOut", "weightOf", "(I)I"⟩, ⟨"ReedBench$LeftOut", "withReed", "(LReedBench$Costs;[IIII)I"⟩, ⟨"ReedBench$LeftOut", "addSlot", "(LReedBench$Costs;[III)V"⟩, ⟨"ReedBench", "undo", "()Z"⟩, ⟨"ReedBench$History", "takeBack", "(LReedBench$State;)Z"⟩, ⟨"ReedBenchModel", "<init>", "()V"⟩, ⟨"ReedBenchModel", "undo", "()Z"⟩, ⟨"ReedBenchModel", "begins", "()V"⟩, ⟨"ReedBenchModel", "reed", "(III)I"⟩, ⟨"ReedBenchModel", "keep", "()V"⟩, ⟨"ReedBenchModel", "scrap", "(I)Z"⟩, ⟨"ReedBenchModel", "isReed", "(I)Z"⟩, ⟨"ReedBenchModel", "isFree", "(I)Z"⟩, ⟨"ReedBenchModel", "reedAt", "(II)I"⟩, ⟨"ReedBenchModel", "rates", "(II)Z"⟩, ⟨"ReedBenchModel", "want", "(II)Z"⟩, ⟨"ReedBenchModel", "tuning", "(II)Z"⟩, ⟨"ReedBenchModel", "beat", "(III)Z"⟩, ⟨"ReedBenchModel", "file", "(III)I"⟩, ⟨"ReedBenchModel", "canFile", "(III)Z"⟩, ⟨"ReedBenchModel", "files", "(III)V"⟩, ⟨"ReedBenchModel", "pitch", "(III)I"⟩, ⟨"ReedBenchModel", "look", "(I)I"⟩, ⟨"ReedBenchModel", "isWanted", "(I)Z"⟩, ⟨"ReedBenchModel", "beats", "(I)Z"⟩, ⟨"ReedBenchModel", "of", "(II)I"⟩, ⟨"ReedBenchModel", "work", "(III)I"⟩, ⟨"ReedBenchModel", "works", "(II)Z"⟩, ⟨"ReedBenchModel", "reach", "(III)V"⟩, ⟨"ReedBenchModel", "pairWork", "(IIII)I"⟩, ⟨"ReedBenchModel", "pairWorks", "(III)Z"⟩, ⟨"ReedBenchModel", "best", "(I)I"⟩, ⟨"ReedBenchModel", "takesLay", "()Z"⟩, ⟨"ReedBenchModel", "findLays", "()V"⟩, ⟨"ReedBenchModel", "findCosts", "()V"⟩, ⟨"ReedBenchModel", "comes", "(II)V"⟩, ⟨"ReedBenchModel", "has", "(II)Z"⟩, ⟨"ReedBenchModel", "fits", "(III)Z"⟩, ⟨"ReedBenchModel", "lays", "()I"⟩, ⟨"ReedBenchModel", "make", "()I"⟩, ⟨"ReedBenchModel", "sets", "(III)V"⟩, ⟨"ReedBenchModel", "lacks", "()I"⟩, ⟨"ReedBenchLaw", "law", "([I)Z"⟩]
def xy (mi : Nat) : MethodName := xnth xys mi x
def xbs : List ByteArray := [prog_1_method_1_code, prog_7_method_1_code, prog_6_method_1_code, prog_14_method_103_code, prog_3_method_1_code, prog_8_method_1_code, prog_5_method_1_code, prog_2_method_1_code, prog_1_method_2_code, prog_1_method_18_code, prog_1_method_19_code, prog_3_method_2_code, prog_7_method_2_code, prog_6_method_3_code, prog_12_method_69_code, prog_5_method_2_code, prog_6_method_2_code, prog_1_method_3_code, prog_7_method_4_code, prog_7_method_3_code, prog_1_method_4_code, prog_1_method_5_code, prog_1_method_6_code, prog_1_method_7_code, prog_1_method_8_code, prog_6_method_4_code, prog_6_method_5_code, prog_1_method_9_code, prog_1_method_20_code, prog_7_method_7_code, prog_7_method_9_code, prog_11_method_49_code, prog_7_method_10_code, prog_7_method_5_code, prog_1_method_10_code, prog_1_method_11_code, prog_8_method_12_code, prog_8_method_18_code, prog_8_method_2_code, prog_8_method_3_code, prog_8_method_4_code, prog_8_method_5_code, prog_1_method_12_code, prog_7_method_6_code, prog_8_method_13_code, prog_8_method_14_code, prog_8_method_15_code, prog_12_method_65_code, prog_8_method_16_code, prog_8_method_17_code, prog_8_method_6_code, prog_8_method_7_code, prog_8_method_8_code, prog_8_method_9_code, prog_8_method_10_code, prog_8_method_11_code, prog_1_method_13_code, prog_5_method_3_code, prog_2_method_4_code, prog_2_method_5_code, prog_7_method_8_code, prog_2_method_6_code, prog_2_method_2_code, prog_2_method_7_code, prog_5_method_5_code, prog_5_method_6_code, prog_5_method_7_code, prog_5_method_8_code, prog_5_method_10_code, prog_5_method_9_code, prog_2_method_3_code, prog_5_method_4_code, prog_5_method_11_code, prog_5_method_13_code, prog_5_method_14_code, prog_5_method_12_code, prog_1_method_14_code, prog_1_method_15_code, prog_5_method_15_code, prog_5_method_17_code, prog_6_method_6_code, prog_5_method_16_code, prog_1_method_16_code, prog_5_method_18_code, prog_4_method_2_code, prog_4_method_5_code, prog_4_method_3_code, prog_4_method_6_code, prog_4_method_4_code, prog_1_method_17_code, prog_3_method_3_code, prog_10_method_1_code, prog_10_method_5_code, prog_10_method_3_code, prog_10_method_9_code, prog_10_method_4_code, prog_10_method_10_code, prog_10_method_7_code, prog_10_method_8_code, prog_10_method_6_code, prog_10_method_11_code, prog_10_method_12_code, prog_10_method_13_code, prog_10_method_14_code, prog_10_method_19_code, prog_10_method_17_code, prog_10_method_18_code, prog_10_method_16_code, prog_10_method_21_code, prog_10_method_20_code, prog_10_method_15_code, prog_10_method_22_code, prog_10_method_26_code, prog_10_method_24_code, prog_10_method_23_code, prog_10_method_27_code, prog_10_method_25_code, prog_10_method_34_code, prog_10_method_33_code, prog_10_method_31_code, prog_10_method_28_code, prog_10_method_30_code, prog_10_method_29_code, prog_10_method_32_code, prog_10_method_35_code, prog_10_method_37_code, prog_10_method_36_code, prog_10_method_38_code, code]
def xb (mi : Nat) : ByteArray := xnth xbs mi code
def xret (mi : Nat) : Option FieldType := match xmi mi 1 with
  | 0 => none
  | 1 => some .int
  | _ => some .boolean
def xNs : List Nat := [2, 3, 9, 7, 8, 3, 4, 23]
def xN (ci : Nat) : Nat := xnth xNs ci 0
def xrfs : List (List Bool) := [[true, true], [true, false, false], [true, true, true, true, true, false, false, false, false], [false, false, false, false, false, false, false], [true, true, true, true, false, false, false, false], [true, true, true], [true, true, true, true], [false, true, true, false, false, true, true, true, true, true, false, false, false, false, false, false, true, true, true, true, false, false, true]]
def xrf (ci k : Nat) : Bool := xnth (xnth xrfs ci []) k false
def xbf (ci k : Nat) : Bool := (ci == 2 && k == 8) || (ci == 7 && k == 4)
abbrev xcl : List vw_C := [(RX0, TX0, 2), (RX1, TX1, 3), (RX3, TX3, 9), (RX4, TX4, 7), (RX5, TX5, 8), (RX6, TX6, 3), (RX7, TX7, 4), (RX8, TX8, 23)]
end
section
/-! ===== what an instruction does ===== -/
def xsem (t : Nat) (a : Int) (b c mi pc : Nat) (k : Nat × Nat) (ls : xL) (st : List xV) (M : xM) : Option xO := match t with
  | 1 => xgo (pc + b) k ls (.inl a :: st) M
  | 2 => match xnth ls b none with
    | some (.inl x) => xgo (pc + c) k ls (.inl x :: st) M
    | _ => none
  | 3 => match xnth ls b none with
    | some (.inr (x + 1)) => xgo (pc + c) k ls (.inr (x + 1) :: st) M
    | _ => none
  | 4 => match st with
    | .inl x :: r => xgo (pc + c) k (ls.set b (some (.inl x))) r M
    | _ => none
  | 5 => match st with
    | .inr (x + 1) :: r => xgo (pc + c) k (ls.set b (some (.inr (x + 1)))) r M
    | _ => none
  | 6 => match xnth ls b none with
    | some (.inl x) => xgo (pc + 3) k (ls.set b (some (.inl (x + a)))) st M
    | _ => none
  | 7 => match st with
    | .inl y :: .inl x :: r => match xbin b x y with
      | some z => xgo (pc + 1) k ls (.inl z :: r) M
      | none => none
    | _ => none
  | 8 => match st with
    | .inl x :: r => xgo (pc + 1) k ls (.inl (-x) :: r) M
    | _ => none
  | 9 => match st with
    | .inl x :: r => if xok x ∨ (b ≤ 1 ∧ x = 0) then xgo (if xcmp b x 0 then c else pc + 3) k ls r M else none
    | _ => none
  | 10 => match st with
    | .inl y :: .inl x :: r => if (xok x ∧ xok y) ∨ (b ≤ 1 ∧ x = y) then xgo (if xcmp b x y then c else pc + 3) k ls r M else none
    | _ => none
  | 11 => xgo c k ls st M
  | 12 => match st with
    | .inr p :: r => if (xat M p).1 = 10 + b then xgo (pc + 3) k ls ((if xrf b c then .inr ((xat M p).2.2 c) else .inl (M.2 p c)) :: r) M else none
    | _ => none
  | 13 => match st with
    | .inl x :: .inr p :: r => if (xat M p).1 = 10 + b ∧ xrf b c = false ∧ (xbf b c = true → x = 0 ∨ x = 1) then xgo (pc + 3) k ls r (xwr M p c x) else none
    | .inr (v + 1) :: .inr p :: r => if (xat M p).1 = 10 + b ∧ xrf b c = true then xgo (pc + 3) k ls r (xwref M p c (v + 1)) else none
    | _ => none
  | 14 => match st with
    | .inl i :: .inr p :: r => if ((xat M p).1 = 1 ∨ (xat M p).1 = 5) ∧ 0 ≤ i ∧ i < (xat M p).2.1 ∧ xok i then xgo (pc + 1) k ls (.inl (M.2 p i.toNat) :: r) M else none
    | _ => none
  | 15 => match st with
    | .inl x :: .inl i :: .inr p :: r => if (xat M p).1 = 1 ∧ 0 ≤ i ∧ i < (xat M p).2.1 ∧ xok i then xgo (pc + 1) k ls r (xwr M p i.toNat x) else none
    | _ => none
  | 16 => match st with
    | .inl i :: .inr p :: r => if ((xat M p).1 = 2 ∨ (xat M p).1 = 3 ∨ (xat M p).1 = 4) ∧ 0 ≤ i ∧ i < (xat M p).2.1 ∧ xok i then xgo (pc + 1) k ls (.inr ((xat M p).2.2 i.toNat) :: r) M else none
    | _ => none
  | 17 => match st with
    | .inr (v + 1) :: .inl i :: .inr p :: r => if ((xat M p).1 = 2 ∧ (xat M (v + 1)).1 = 13 ∨ (xat M p).1 = 3 ∧ (xat M (v + 1)).1 = 14) ∧ 0 ≤ i ∧ i < (xat M p).2.1 ∧ xok i then xgo (pc + 1) k ls r (xwref M p i.toNat (v + 1)) else none
    | _ => none
  | 18 => match st with
    | .inr p :: r => if (xat M p).1 = 1 ∨ (xat M p).1 = 5 then xgo (pc + 1) k ls (.inl (xat M p).2.1 :: r) M else none
    | _ => none
  | 19 => if k.1 + 1 ≤ xmi mi 7 ∧ k.2 + xN b ≤ xmi mi 8 then xgo (pc + 3) (k.1 + 1, k.2 + xN b) ls (.inr M.1.length :: st) (xnew M (10 + b) (xN b)) else none
  | 20 => match st with
    | .inl n :: r => if 0 ≤ n ∧ n ≤ 134217728 ∧ k.1 + 1 ≤ xmi mi 7 ∧ k.2 + n.toNat ≤ xmi mi 8 then xgo (pc + 2) (k.1 + 1, k.2 + n.toNat) ls (.inr M.1.length :: r) (xnew M 1 n.toNat) else none
    | _ => none
  | 21 => match st with
    | .inl n :: r => if 0 ≤ n ∧ n ≤ 134217728 ∧ k.1 + 1 ≤ xmi mi 7 ∧ k.2 + n.toNat ≤ xmi mi 8 then xgo (pc + 3) (k.1 + 1, k.2 + n.toNat) ls (.inr M.1.length :: r) (xnew M b n.toNat) else none
    | _ => none
  | 22 => match st with
    | .inl q :: .inl n :: r => if (0 ≤ n ∧ n ≤ 134217728) ∧ (0 ≤ q ∧ q ≤ 134217728) ∧ k.1 + (1 + n.toNat) ≤ xmi mi 7 ∧ k.2 + (n.toNat + n.toNat * q.toNat) ≤ xmi mi 8 then xgo (pc + 4) (k.1 + 1 + n.toNat, k.2 + n.toNat + n.toNat * q.toNat) ls (.inr M.1.length :: r) (xnew2 M n.toNat q.toNat) else none
    | _ => none
  | 23 => match st with
    | v :: r => xgo (pc + 1) k ls (v :: v :: r) M
    | _ => none
  | 24 => match st with
    | _ :: r => xgo (pc + 1) k ls r M
    | _ => none
  | 25 => match st with
    | v :: w :: r => xgo (pc + 1) k ls (v :: w :: v :: w :: r) M
    | _ => none
  | 26 => match st with
    | .inr (_ + 1) :: r => if 1 ≤ xmi mi 5 ∧ 20 ≤ xmi mi 6 ∧ r.length ≤ 8 then xgo (pc + 3) k ls r M else none
    | _ => none
  | 27 => match st with
    | .inl n :: .inl dp :: .inr d :: .inl sp :: .inr s :: r => if ((xat M s).1 = 1 ∧ (xat M d).1 = 1) ∧ (0 ≤ sp ∧ xok sp) ∧ (0 ≤ dp ∧ xok dp) ∧ (0 ≤ n ∧ xok n) ∧ sp + n ≤ (xat M s).2.1 ∧ dp + n ≤ (xat M d).2.1 ∧ 1 ≤ xmi mi 5 ∧ 38 ≤ xmi mi 6 ∧ r.length ≤ 8 then xgo (pc + 3) k ls r (xcpy M s sp.toNat d dp.toNat n.toNat) else none
    | _ => none
  | 28 => if c ≤ st.length ∧ st.length ≤ c + 8 ∧ xmi b 5 + 1 ≤ xmi mi 5 ∧ 8 + (xmi b 0 + 11) + xmi b 6 ≤ xmi mi 6 ∧ k.1 + xmi b 7 ≤ xmi mi 7 ∧ k.2 + xmi b 8 ≤ xmi mi 8 then
      (match xmi b 3, (st.take c).reverse with
        | 0, as => some (.inr (.inl (b, as, st.drop c)))
        | 1, .inr p :: as => if (xat M p).1 = 10 + xmi b 4 then some (.inr (.inl (b, .inr p :: as, st.drop c))) else none
        | 2, .inr (p + 1) :: as => some (.inr (.inl (b, .inr (p + 1) :: as, st.drop c)))
        | _, _ => none)
    else none
  | 29 => match st with
    | [.inl x] => if xmi mi 1 = 1 ∨ (xmi mi 1 = 2 ∧ (x = 0 ∨ x = 1)) then some (.inr (.inr [.inl x])) else none
    | _ => none
  | 30 => match st with
    | [] => if xmi mi 1 = 0 then some (.inr (.inr [])) else none
    | _ => none
  | 31 => xgo (pc + 3) k ls (.inr 2 :: st) M
  | 32 => match st with
    | .inl x :: r => if xok x then xgo (if x < a ∨ a + (xsw mi pc).length ≤ x then b else xnth (xsw mi pc) (x - a).toNat 0) k ls r M else none
    | _ => none
  | 33 => match st with
    | .inl y :: .inl x :: r => if xok x ∧ xok y ∧ 1 ≤ xmi mi 5 ∧ 21 ≤ xmi mi 6 ∧ r.length ≤ 8 then xgo (pc + 3) k ls (.inl (if y < x then y else x) :: r) M else none
    | _ => none
  | 34 => match st with
    | .inl y :: .inl x :: r => if xok x ∧ xok y ∧ 1 ≤ xmi mi 5 ∧ 21 ≤ xmi mi 6 ∧ r.length ≤ 8 then xgo (pc + 3) k ls (.inl (if x < y then y else x) :: r) M else none
    | _ => none
  | _ => none
def xstep (mi pc : Nat) (k : Nat × Nat) (ls : xL) (st : List xV) (M : xM) : Option xO := xsem (xins mi pc).1 (xins mi pc).2.1 (xins mi pc).2.2.1 (xins mi pc).2.2.2 mi pc k ls st M
def xloc (mi : Nat) (as : List xV) : xL := as.map some ++ List.replicate (xmi mi 0 - as.length) none
def xrun : Nat → Nat → Nat → Nat × Nat → xL → List xV → xM → Option (List xV × xM)
  | 0, _, _, _, _, _, _ => none
  | n + 1, mi, pc, k, ls, st, M => match xstep mi pc k ls st M with
    | none => none
    | some (.inl (pc', k', ls', st', M')) => xrun n mi pc' k' ls' st' M'
    | some (.inr (.inl (j, as, r))) => match xrun n j 0 (0, 0) (xloc j as) [] M with
      | none => none
      | some (v, M') => xrun n mi (pc + 3) (k.1 + xmi j 7, k.2 + xmi j 8) ls (v ++ r) M'
    | some (.inr (.inr v)) => some (v, M)
theorem xrun_mono : ∀ (n : Nat) (mi pc : Nat) (k : Nat × Nat) (ls : xL) (st : List xV) (M : xM) (r : List xV × xM), xrun n mi pc k ls st M = some r → ∀ m, n ≤ m → xrun m mi pc k ls st M = some r
  | 0, _, _, _, _, _, _, _, h, _, _ => by simp [xrun] at h
  | n + 1, mi, pc, k, ls, st, M, r, h, m, hm => by
    obtain ⟨m', rfl⟩ : ∃ m', m = m' + 1 := ⟨m - 1, by omega⟩
    have hm' : n ≤ m' := by omega
    unfold xrun at h ⊢
    cases hs : xstep mi pc k ls st M with
    | none => rw [hs] at h; cases h
    | some o =>
      rw [hs] at h
      rcases o with ⟨pc', k', ls', st', M'⟩ | ⟨j, as, r'⟩ | v
      · exact xrun_mono n _ _ _ _ _ _ _ h m' hm'
      · dsimp only at h ⊢
        cases hc : xrun n j 0 (0, 0) (xloc j as) [] M with
        | none => rw [hc] at h; cases h
        | some q =>
          obtain ⟨v, M'⟩ := q
          rw [hc] at h
          rw [xrun_mono n _ _ _ _ _ _ _ hc m' hm']
          exact xrun_mono n _ _ _ _ _ _ _ h m' hm'
      · exact h
end
section
/-! ===== every entry of the pure code is what the bytes say ===== -/
def xcd (b : Nat) : Jvm.ClassFile.Cond := match b with
  | 0 => .eq
  | 1 => .ne
  | 2 => .lt
  | 3 => .ge
  | 4 => .gt
  | _ => .le
def xT (ci : Nat) : u_T := (xnth xcl ci (RX0, TX0, 2)).2.1
def xCn (ci : Nat) : String := (xnth xcl ci (RX0, TX0, 2)).1
def xdc (cc : ByteArray) (pc : Nat) (i : Instr) (n : Nat) : Bool := decide (decode cc pc = .ok (i, n))
def xbi (b : Nat) : Instr := match b with
  | 0 => .iadd
  | 1 => .isub
  | 2 => .imul
  | 3 => .idiv
  | 4 => .irem
  | 5 => .iand
  | 6 => .ior
  | 7 => .ixor
  | 8 => .ishl
  | 9 => .ishr
  | _ => .iushr
def xfl (own : String) (cc : ByteArray) (pc : Nat) (put fin ini : Bool) (ref nm ds : String) : Option Jvm.Cond → Bool
  | some (.fieldLink o i r n d) => decide (o = own) && (decide (r = ref) && (decide (n = nm) && (decide (d = ds) && (xdc cc pc (if put then .putfield i else .getfield i) 3 && (!put || (!fin || (ini && decide (ref = own))))))))
  | some (.fieldLinkNest o i r n d _) => decide (o = own) && (decide (r = ref) && (decide (n = nm) && (decide (d = ds) && (xdc cc pc (if put then .putfield i else .getfield i) 3 && (!put || !fin)))))
  | _ => false
def xiv (kd i : Nat) : Instr := match kd with
  | 0 => .invokestatic i
  | 1 => .invokevirtual i
  | _ => .invokespecial i
def xlk (own : String) (cc : ByteArray) (pc kd : Nat) (y : MethodName) : Option Jvm.Cond → Bool
  | some (.methodLink o i z) => decide (o = own) && (decide (z = y) && xdc cc pc (xiv kd i) 3)
  | some (.methodLinkNest o i z _) => decide (o = own) && (decide (z = y) && xdc cc pc (xiv kd i) 3)
  | _ => false
def xlk0 (own : String) (cc : ByteArray) (pc kd : Nat) (y : MethodName) : Option Jvm.Cond → Bool
  | some (.methodLink o i z) => decide (o = own) && (decide (z = y) && xdc cc pc (xiv kd i) 3)
  | _ => false
def xcl1 (own C : String) (cc : ByteArray) (pc : Nat) (f : Nat → Instr) (n : Nat) : Option Jvm.Cond → Bool
  | some (.classLink o i c) => decide (o = own) && (decide (c = C) && xdc cc pc (f i) n)
  | _ => false
def xkc (own : String) (cc : ByteArray) (pc : Nat) (a : Int) (b : Nat) : Option Jvm.Cond → Bool
  | some (.constant o i v) => decide (o = own) && (decide (v = Int32.ofInt a) && (decide (b = 2) && xdc cc pc (.ldc i) 2 || decide (b = 3) && xdc cc pc (.ldc_w i) 3))
  | _ => false
def xgs (own : String) (cc : ByteArray) (pc : Nat) : Option Jvm.Cond → Bool
  | some (.fieldLink o i r n d) => decide (o = own) && (decide (r = "ReedBench") && (decide (n = "ABOVE_KEY") && (decide (d = "[I") && xdc cc pc (.getstatic i) 3)))
  | _ => false
def xwd (i : Nat) : Option Jvm.Cond := lw_tbl[i]?
def xokb (own : String) (ini : Bool) (mL : Nat) (cc : ByteArray) (mi pc : Nat) (i : xI) : Bool := match i with
  | (0, _, _, _) => true
  | (1, a, b, c) => (decide (b = 1) && xdc cc pc (.iconst a) 1) || ((decide (b = 2) && (decide ((Int8.ofInt a).toInt32 = Int32.ofInt a) && xdc cc pc (.bipush a) 2)) || ((decide (b = 3) && (decide ((Int16.ofInt a).toInt32 = Int32.ofInt a) && xdc cc pc (.sipush a) 3)) || xkc own cc pc a b (xwd c)))
  | (2, _, b, c) => (decide (c = 1) && (decide (b < 4) && xdc cc pc (.iload_n (Fin.ofNat 4 b)) 1)) || (decide (c = 2) && xdc cc pc (.iload b) 2)
  | (3, _, b, c) => (decide (c = 1) && (decide (b < 4) && xdc cc pc (.aload_n (Fin.ofNat 4 b)) 1)) || (decide (c = 2) && xdc cc pc (.aload b) 2)
  | (4, _, b, c) => decide (b < mL) && ((decide (c = 1) && (decide (b < 4) && xdc cc pc (.istore_n (Fin.ofNat 4 b)) 1)) || (decide (c = 2) && xdc cc pc (.istore b) 2))
  | (5, _, b, c) => decide (b < mL) && ((decide (c = 1) && (decide (b < 4) && xdc cc pc (.astore_n (Fin.ofNat 4 b)) 1)) || (decide (c = 2) && xdc cc pc (.astore b) 2))
  | (6, a, b, _) => decide (b < mL) && xdc cc pc (.iinc b a) 3
  | (7, _, b, _) => decide (b < 11) && xdc cc pc (xbi b) 1
  | (8, _, _, _) => xdc cc pc .ineg 1
  | (9, _, b, c) => decide (b < 6) && xdc cc pc (.ifCond (xcd b) ((c : Int) - pc)) 3
  | (10, _, b, c) => decide (b < 6) && xdc cc pc (.if_icmp (xcd b) ((c : Int) - pc)) 3
  | (11, _, _, c) => xdc cc pc (.goto ((c : Int) - pc)) 3
  | (12, a, b, c) => decide (b < 8) && (decide (c < xN b) && xfl own cc pc false (xT b c).2.2.2 ini (xT b c).1 (xT b c).2.1 (xT b c).2.2.1 (xwd a.toNat))
  | (13, a, b, c) => decide (b < 8) && (decide (c < xN b) && xfl own cc pc true (xT b c).2.2.2 ini (xT b c).1 (xT b c).2.1 (xT b c).2.2.1 (xwd a.toNat))
  | (14, _, _, _) => xdc cc pc .iaload 1
  | (15, _, _, _) => xdc cc pc .iastore 1
  | (16, _, _, _) => xdc cc pc .aaload 1
  | (17, _, _, _) => xdc cc pc .aastore 1
  | (18, _, _, _) => xdc cc pc .arraylength 1
  | (19, a, b, _) => decide (b < 8) && xcl1 own (xCn b) cc pc .new 3 (xwd a.toNat)
  | (20, _, _, _) => xdc cc pc (.newarray .int) 2
  | (21, a, b, _) => (decide (b = 2) && xcl1 own "ReedBench$Reed" cc pc .anewarray 3 (xwd a.toNat)) || (decide (b = 3) && xcl1 own "ReedBench$State" cc pc .anewarray 3 (xwd a.toNat))
  | (22, a, _, _) => xcl1 own "[[I" cc pc (fun i => .multianewarray i 2) 4 (xwd a.toNat)
  | (23, _, _, _) => xdc cc pc .dup 1
  | (24, _, _, _) => xdc cc pc .pop 1
  | (25, _, _, _) => xdc cc pc .dup2 1
  | (26, a, _, _) => xlk0 own cc pc 2 objectInit (xwd a.toNat)
  | (27, a, _, _) => xlk0 own cc pc 0 arraycopyName (xwd a.toNat)
  | (28, a, b, c) => (decide (b < 128) && (decide (b ≠ 14) && decide (b ≠ 47))) && (decide (c = xmi b 2) && xlk own cc pc (xmi b 3) (xy b) (xwd a.toNat))
  | (29, _, _, _) => xdc cc pc .ireturn 1
  | (30, _, _, _) => xdc cc pc .return_ 1
  | (31, a, _, _) => xgs own cc pc (xwd a.toNat)
  | (32, a, b, c) => xdc cc pc (.tableswitch ((b : Int) - pc) a (a + (xsw mi pc).length - 1) ((xsw mi pc).map (fun (t : Nat) => (t : Int) - (pc : Int))).toArray) c
  | (33, a, _, _) => xlk0 own cc pc 0 Lib.Math.min.name (xwd a.toNat)
  | (34, a, _, _) => xlk0 own cc pc 0 Lib.Math.max.name (xwd a.toNat)
  | _ => false
def xokm (mi : Nat) : Bool := (List.range (xmi mi 9)).all (fun pc => xokb (xy mi).cls (decide ((xy mi).name = "<init>")) (xmi mi 0) (xb mi) mi pc (xins mi pc))
end
section
set_option maxRecDepth 100000 in
theorem xokm_0 : xokm 0 = true := by decide +kernel
set_option maxRecDepth 100000 in
theorem xokm_1 : xokm 1 = true := by decide +kernel
set_option maxRecDepth 100000 in
theorem xokm_2 : xokm 2 = true := by decide +kernel
set_option maxRecDepth 100000 in
theorem xokm_3 : xokm 3 = true := by decide +kernel
set_option maxRecDepth 100000 in
theorem xokm_4 : xokm 4 = true := by decide +kernel
set_option maxRecDepth 100000 in
theorem xokm_5 : xokm 5 = true := by decide +kernel
set_option maxRecDepth 100000 in
theorem xokm_6 : xokm 6 = true := by decide +kernel
set_option maxRecDepth 100000 in
theorem xokm_7 : xokm 7 = true := by decide +kernel
set_option maxRecDepth 100000 in
theorem xokm_8 : xokm 8 = true := by decide +kernel
set_option maxRecDepth 100000 in
theorem xokm_9 : xokm 9 = true := by decide +kernel
set_option maxRecDepth 100000 in
theorem xokm_10 : xokm 10 = true := by decide +kernel
set_option maxRecDepth 100000 in
theorem xokm_11 : xokm 11 = true := by decide +kernel
set_option maxRecDepth 100000 in
theorem xokm_12 : xokm 12 = true := by decide +kernel
set_option maxRecDepth 100000 in
theorem xokm_13 : xokm 13 = true := by decide +kernel
set_option maxRecDepth 100000 in
theorem xokm_14 : xokm 14 = true := by decide +kernel
set_option maxRecDepth 100000 in
theorem xokm_15 : xokm 15 = true := by decide +kernel
set_option maxRecDepth 100000 in
theorem xokm_16 : xokm 16 = true := by decide +kernel
set_option maxRecDepth 100000 in
theorem xokm_17 : xokm 17 = true := by decide +kernel
set_option maxRecDepth 100000 in
theorem xokm_18 : xokm 18 = true := by decide +kernel
set_option maxRecDepth 100000 in
theorem xokm_19 : xokm 19 = true := by decide +kernel
set_option maxRecDepth 100000 in
theorem xokm_20 : xokm 20 = true := by decide +kernel
set_option maxRecDepth 100000 in
theorem xokm_21 : xokm 21 = true := by decide +kernel
set_option maxRecDepth 100000 in
theorem xokm_22 : xokm 22 = true := by decide +kernel
set_option maxRecDepth 100000 in
theorem xokm_23 : xokm 23 = true := by decide +kernel
set_option maxRecDepth 100000 in
theorem xokm_24 : xokm 24 = true := by decide +kernel
set_option maxRecDepth 100000 in
theorem xokm_25 : xokm 25 = true := by decide +kernel
set_option maxRecDepth 100000 in
theorem xokm_26 : xokm 26 = true := by decide +kernel
set_option maxRecDepth 100000 in
theorem xokm_27 : xokm 27 = true := by decide +kernel
set_option maxRecDepth 100000 in
theorem xokm_28 : xokm 28 = true := by decide +kernel
set_option maxRecDepth 100000 in
theorem xokm_29 : xokm 29 = true := by decide +kernel
set_option maxRecDepth 100000 in
theorem xokm_30 : xokm 30 = true := by decide +kernel
set_option maxRecDepth 100000 in
theorem xokm_31 : xokm 31 = true := by decide +kernel
set_option maxRecDepth 100000 in
theorem xokm_32 : xokm 32 = true := by decide +kernel
set_option maxRecDepth 100000 in
theorem xokm_33 : xokm 33 = true := by decide +kernel
set_option maxRecDepth 100000 in
theorem xokm_34 : xokm 34 = true := by decide +kernel
set_option maxRecDepth 100000 in
theorem xokm_35 : xokm 35 = true := by decide +kernel
set_option maxRecDepth 100000 in
theorem xokm_36 : xokm 36 = true := by decide +kernel
set_option maxRecDepth 100000 in
theorem xokm_37 : xokm 37 = true := by decide +kernel
set_option maxRecDepth 100000 in
theorem xokm_38 : xokm 38 = true := by decide +kernel
set_option maxRecDepth 100000 in
theorem xokm_39 : xokm 39 = true := by decide +kernel
set_option maxRecDepth 100000 in
theorem xokm_40 : xokm 40 = true := by decide +kernel
set_option maxRecDepth 100000 in
theorem xokm_41 : xokm 41 = true := by decide +kernel
set_option maxRecDepth 100000 in
theorem xokm_42 : xokm 42 = true := by decide +kernel
set_option maxRecDepth 100000 in
theorem xokm_43 : xokm 43 = true := by decide +kernel
set_option maxRecDepth 100000 in
theorem xokm_44 : xokm 44 = true := by decide +kernel
set_option maxRecDepth 100000 in
theorem xokm_45 : xokm 45 = true := by decide +kernel
set_option maxRecDepth 100000 in
theorem xokm_46 : xokm 46 = true := by decide +kernel
set_option maxRecDepth 100000 in
theorem xokm_47 : xokm 47 = true := by decide +kernel
set_option maxRecDepth 100000 in
theorem xokm_48 : xokm 48 = true := by decide +kernel
set_option maxRecDepth 100000 in
theorem xokm_49 : xokm 49 = true := by decide +kernel
set_option maxRecDepth 100000 in
theorem xokm_50 : xokm 50 = true := by decide +kernel
set_option maxRecDepth 100000 in
theorem xokm_51 : xokm 51 = true := by decide +kernel
set_option maxRecDepth 100000 in
theorem xokm_52 : xokm 52 = true := by decide +kernel
set_option maxRecDepth 100000 in
theorem xokm_53 : xokm 53 = true := by decide +kernel
set_option maxRecDepth 100000 in
theorem xokm_54 : xokm 54 = true := by decide +kernel
set_option maxRecDepth 100000 in
theorem xokm_55 : xokm 55 = true := by decide +kernel
set_option maxRecDepth 100000 in
theorem xokm_56 : xokm 56 = true := by decide +kernel
set_option maxRecDepth 100000 in
theorem xokm_57 : xokm 57 = true := by decide +kernel
set_option maxRecDepth 100000 in
theorem xokm_58 : xokm 58 = true := by decide +kernel
set_option maxRecDepth 100000 in
theorem xokm_59 : xokm 59 = true := by decide +kernel
set_option maxRecDepth 100000 in
theorem xokm_60 : xokm 60 = true := by decide +kernel
set_option maxRecDepth 100000 in
theorem xokm_61 : xokm 61 = true := by decide +kernel
set_option maxRecDepth 100000 in
theorem xokm_62 : xokm 62 = true := by decide +kernel
set_option maxRecDepth 100000 in
theorem xokm_63 : xokm 63 = true := by decide +kernel
set_option maxRecDepth 100000 in
theorem xokm_64 : xokm 64 = true := by decide +kernel
set_option maxRecDepth 100000 in
theorem xokm_65 : xokm 65 = true := by decide +kernel
set_option maxRecDepth 100000 in
theorem xokm_66 : xokm 66 = true := by decide +kernel
set_option maxRecDepth 100000 in
theorem xokm_67 : xokm 67 = true := by decide +kernel
set_option maxRecDepth 100000 in
theorem xokm_68 : xokm 68 = true := by decide +kernel
set_option maxRecDepth 100000 in
theorem xokm_69 : xokm 69 = true := by decide +kernel
set_option maxRecDepth 100000 in
theorem xokm_70 : xokm 70 = true := by decide +kernel
set_option maxRecDepth 100000 in
theorem xokm_71 : xokm 71 = true := by decide +kernel
set_option maxRecDepth 100000 in
theorem xokm_72 : xokm 72 = true := by decide +kernel
set_option maxRecDepth 100000 in
theorem xokm_73 : xokm 73 = true := by decide +kernel
set_option maxRecDepth 100000 in
theorem xokm_74 : xokm 74 = true := by decide +kernel
set_option maxRecDepth 100000 in
theorem xokm_75 : xokm 75 = true := by decide +kernel
set_option maxRecDepth 100000 in
theorem xokm_76 : xokm 76 = true := by decide +kernel
set_option maxRecDepth 100000 in
theorem xokm_77 : xokm 77 = true := by decide +kernel
set_option maxRecDepth 100000 in
theorem xokm_78 : xokm 78 = true := by decide +kernel
set_option maxRecDepth 100000 in
theorem xokm_79 : xokm 79 = true := by decide +kernel
set_option maxRecDepth 100000 in
theorem xokm_80 : xokm 80 = true := by decide +kernel
set_option maxRecDepth 100000 in
theorem xokm_81 : xokm 81 = true := by decide +kernel
set_option maxRecDepth 100000 in
theorem xokm_82 : xokm 82 = true := by decide +kernel
set_option maxRecDepth 100000 in
theorem xokm_83 : xokm 83 = true := by decide +kernel
set_option maxRecDepth 100000 in
theorem xokm_84 : xokm 84 = true := by decide +kernel
set_option maxRecDepth 100000 in
theorem xokm_85 : xokm 85 = true := by decide +kernel
set_option maxRecDepth 100000 in
theorem xokm_86 : xokm 86 = true := by decide +kernel
set_option maxRecDepth 100000 in
theorem xokm_87 : xokm 87 = true := by decide +kernel
set_option maxRecDepth 100000 in
theorem xokm_88 : xokm 88 = true := by decide +kernel
set_option maxRecDepth 100000 in
theorem xokm_89 : xokm 89 = true := by decide +kernel
set_option maxRecDepth 100000 in
theorem xokm_90 : xokm 90 = true := by decide +kernel
set_option maxRecDepth 100000 in
theorem xokm_91 : xokm 91 = true := by decide +kernel
set_option maxRecDepth 100000 in
theorem xokm_92 : xokm 92 = true := by decide +kernel
set_option maxRecDepth 100000 in
theorem xokm_93 : xokm 93 = true := by decide +kernel
set_option maxRecDepth 100000 in
theorem xokm_94 : xokm 94 = true := by decide +kernel
set_option maxRecDepth 100000 in
theorem xokm_95 : xokm 95 = true := by decide +kernel
set_option maxRecDepth 100000 in
theorem xokm_96 : xokm 96 = true := by decide +kernel
set_option maxRecDepth 100000 in
theorem xokm_97 : xokm 97 = true := by decide +kernel
set_option maxRecDepth 100000 in
theorem xokm_98 : xokm 98 = true := by decide +kernel
set_option maxRecDepth 100000 in
theorem xokm_99 : xokm 99 = true := by decide +kernel
set_option maxRecDepth 100000 in
theorem xokm_100 : xokm 100 = true := by decide +kernel
set_option maxRecDepth 100000 in
theorem xokm_101 : xokm 101 = true := by decide +kernel
set_option maxRecDepth 100000 in
theorem xokm_102 : xokm 102 = true := by decide +kernel
set_option maxRecDepth 100000 in
theorem xokm_103 : xokm 103 = true := by decide +kernel
set_option maxRecDepth 100000 in
theorem xokm_104 : xokm 104 = true := by decide +kernel
set_option maxRecDepth 100000 in
theorem xokm_105 : xokm 105 = true := by decide +kernel
set_option maxRecDepth 100000 in
theorem xokm_106 : xokm 106 = true := by decide +kernel
set_option maxRecDepth 100000 in
theorem xokm_107 : xokm 107 = true := by decide +kernel
set_option maxRecDepth 100000 in
theorem xokm_108 : xokm 108 = true := by decide +kernel
set_option maxRecDepth 100000 in
theorem xokm_109 : xokm 109 = true := by decide +kernel
set_option maxRecDepth 100000 in
theorem xokm_110 : xokm 110 = true := by decide +kernel
set_option maxRecDepth 100000 in
theorem xokm_111 : xokm 111 = true := by decide +kernel
set_option maxRecDepth 100000 in
theorem xokm_112 : xokm 112 = true := by decide +kernel
set_option maxRecDepth 100000 in
theorem xokm_113 : xokm 113 = true := by decide +kernel
set_option maxRecDepth 100000 in
theorem xokm_114 : xokm 114 = true := by decide +kernel
set_option maxRecDepth 100000 in
theorem xokm_115 : xokm 115 = true := by decide +kernel
set_option maxRecDepth 100000 in
theorem xokm_116 : xokm 116 = true := by decide +kernel
set_option maxRecDepth 100000 in
theorem xokm_117 : xokm 117 = true := by decide +kernel
set_option maxRecDepth 100000 in
theorem xokm_118 : xokm 118 = true := by decide +kernel
set_option maxRecDepth 100000 in
theorem xokm_119 : xokm 119 = true := by decide +kernel
set_option maxRecDepth 100000 in
theorem xokm_120 : xokm 120 = true := by decide +kernel
set_option maxRecDepth 100000 in
theorem xokm_121 : xokm 121 = true := by decide +kernel
set_option maxRecDepth 100000 in
theorem xokm_122 : xokm 122 = true := by decide +kernel
set_option maxRecDepth 100000 in
theorem xokm_123 : xokm 123 = true := by decide +kernel
set_option maxRecDepth 100000 in
theorem xokm_124 : xokm 124 = true := by decide +kernel
set_option maxRecDepth 100000 in
theorem xokm_125 : xokm 125 = true := by decide +kernel
set_option maxRecDepth 100000 in
theorem xokm_126 : xokm 126 = true := by decide +kernel
set_option maxRecDepth 100000 in
theorem xokm_127 : xokm 127 = true := by decide +kernel
set_option maxRecDepth 100000 in
theorem xokm_128 : xokm 128 = true := by decide +kernel
end
section
/-! ===== the words of each method, by their places in lw_tbl ===== -/
def xmw : List (List Nat) := [[84, 67, 83, 0], [92, 68, 91, 0], [99, 69, 98, 0], [137, 70, 136, 0], [185, 71, 184, 0], [204, 72, 203, 0], [222, 73, 221, 0], [228, 74, 227, 0], [284, 67, 282, 283], [287, 67, 286, 0], [291, 67, 290, 0], [295, 71, 294, 1], [299, 68, 298, 2], [303, 69, 302, 3], [309, 77, 308, 0], [313, 73, 312, 4], [317, 69, 316, 5], [321, 67, 319, 320], [325, 68, 324, 6], [329, 68, 328, 7], [333, 67, 331, 332], [337, 67, 335, 336], [341, 67, 339, 340], [347, 67, 345, 346], [351, 67, 349, 350], [355, 69, 354, 8], [361, 69, 360, 9], [365, 67, 363, 364], [369, 67, 368, 10], [373, 68, 372, 11], [377, 68, 376, 12], [381, 78, 380, 0], [388, 68, 387, 13], [392, 68, 391, 14], [396, 67, 394, 395], [401, 67, 399, 400], [406, 72, 405, 15], [409, 72, 408, 0], [413, 72, 412, 0], [418, 72, 417, 0], [421, 72, 420, 0], [424, 72, 423, 0], [430, 67, 428, 429], [434, 68, 433, 16], [438, 72, 437, 17], [442, 72, 441, 18], [446, 72, 445, 19], [450, 77, 449, 0], [453, 72, 452, 0], [457, 72, 456, 20], [460, 72, 459, 0], [464, 72, 463, 0], [467, 72, 466, 0], [470, 72, 469, 0], [473, 72, 472, 0], [476, 72, 475, 0], [484, 67, 482, 483], [488, 73, 487, 21], [492, 74, 491, 22], [499, 74, 498, 23], [506, 68, 505, 24], [512, 74, 511, 25], [516, 74, 515, 26], [522, 74, 521, 27], [528, 73, 527, 28], [533, 73, 532, 29], [540, 73, 539, 30], [545, 73, 544, 31], [550, 73, 549, 32], [554, 73, 553, 33], [558, 74, 557, 34], [563, 73, 562, 35], [567, 73, 566, 36], [571, 73, 570, 37], [575, 73, 574, 38], [579, 73, 578, 39], [584, 67, 582, 583], [588, 67, 586, 587], [592, 73, 591, 40], [596, 73, 595, 41], [607, 69, 606, 42], [611, 73, 610, 43], [618, 67, 616, 617], [622, 73, 621, 44], [625, 79, 624, 0], [632, 79, 631, 0], [635, 79, 634, 0], [639, 79, 638, 0], [646, 79, 645, 0], [650, 67, 648, 649], [654, 71, 653, 45], [659, 75, 658, 0], [734, 75, 732, 733], [738, 75, 737, 46], [742, 75, 740, 741], [746, 75, 745, 47], [750, 75, 748, 749], [754, 75, 753, 48], [758, 75, 757, 49], [762, 75, 761, 50], [766, 75, 764, 765], [770, 75, 768, 769], [774, 75, 772, 773], [778, 75, 776, 777], [782, 75, 780, 781], [786, 75, 785, 51], [791, 75, 790, 52], [795, 75, 794, 53], [799, 75, 797, 798], [803, 75, 802, 54], [807, 75, 806, 55], [811, 75, 809, 810], [815, 75, 813, 814], [819, 75, 818, 56], [823, 75, 822, 57], [828, 75, 826, 827], [832, 75, 831, 58], [836, 75, 834, 835], [840, 75, 839, 59], [844, 75, 843, 60], [848, 75, 847, 61], [852, 75, 851, 62], [856, 75, 855, 63], [860, 75, 859, 64], [864, 75, 862, 863], [868, 75, 866, 867], [872, 75, 871, 65], [876, 75, 874, 875]]
def xmwi (mi j : Nat) : Option Jvm.Cond := xwd (xnth (xnth xmw mi []) j 0)
def xmokb (mi : Nat) : Bool := mi == 14 || (mi == 47 || 
  (decide (xmwi mi 1 = some (.initialized (xy mi).cls)) && ((match xmi mi 3 with
    | 0 => decide (xmwi mi 2 = some (.static (xy mi)))
    | 1 => decide (xmwi mi 2 = some (.instanceMethod (xy mi))) && (decide (xmwi mi 3 = some (.selects (xy mi).cls (xy mi) (xy mi))) && (decide (xCn (xmi mi 4) = (xy mi).cls) && decide (xmi mi 4 < 8)))
    | 2 => decide (xmwi mi 2 = some (.instanceMethod (xy mi))) && (decide ((xy mi).name = "<init>") && decide (xmi mi 1 = 0))
    | _ => false) && (plainName (xy mi).cls && (decide ((xy mi).cls ≠ "java/lang/invoke/MethodHandle") && (decide ((xy mi).cls ≠ "java/lang/invoke/VarHandle") && (decide ((parseMethodDescriptor (xy mi).desc).map (fun d => d.parameters.length) = some (if xmi mi 3 = 0 then xmi mi 2 else xmi mi 2 - 1)) && (decide (xmi mi 2 ≤ xmi mi 0) && decide (xmi mi 3 = 0 ∨ 1 ≤ xmi mi 2)))))))))
theorem xmok_0 : xmokb 0 = true := by decide +kernel
theorem xmok_1 : xmokb 1 = true := by decide +kernel
theorem xmok_2 : xmokb 2 = true := by decide +kernel
theorem xmok_3 : xmokb 3 = true := by decide +kernel
theorem xmok_4 : xmokb 4 = true := by decide +kernel
theorem xmok_5 : xmokb 5 = true := by decide +kernel
theorem xmok_6 : xmokb 6 = true := by decide +kernel
theorem xmok_7 : xmokb 7 = true := by decide +kernel
theorem xmok_8 : xmokb 8 = true := by decide +kernel
theorem xmok_9 : xmokb 9 = true := by decide +kernel
theorem xmok_10 : xmokb 10 = true := by decide +kernel
theorem xmok_11 : xmokb 11 = true := by decide +kernel
theorem xmok_12 : xmokb 12 = true := by decide +kernel
theorem xmok_13 : xmokb 13 = true := by decide +kernel
theorem xmok_14 : xmokb 14 = true := by decide +kernel
theorem xmok_15 : xmokb 15 = true := by decide +kernel
theorem xmok_16 : xmokb 16 = true := by decide +kernel
theorem xmok_17 : xmokb 17 = true := by decide +kernel
theorem xmok_18 : xmokb 18 = true := by decide +kernel
theorem xmok_19 : xmokb 19 = true := by decide +kernel
theorem xmok_20 : xmokb 20 = true := by decide +kernel
theorem xmok_21 : xmokb 21 = true := by decide +kernel
theorem xmok_22 : xmokb 22 = true := by decide +kernel
theorem xmok_23 : xmokb 23 = true := by decide +kernel
theorem xmok_24 : xmokb 24 = true := by decide +kernel
theorem xmok_25 : xmokb 25 = true := by decide +kernel
theorem xmok_26 : xmokb 26 = true := by decide +kernel
theorem xmok_27 : xmokb 27 = true := by decide +kernel
theorem xmok_28 : xmokb 28 = true := by decide +kernel
theorem xmok_29 : xmokb 29 = true := by decide +kernel
theorem xmok_30 : xmokb 30 = true := by decide +kernel
theorem xmok_31 : xmokb 31 = true := by decide +kernel
theorem xmok_32 : xmokb 32 = true := by decide +kernel
theorem xmok_33 : xmokb 33 = true := by decide +kernel
theorem xmok_34 : xmokb 34 = true := by decide +kernel
theorem xmok_35 : xmokb 35 = true := by decide +kernel
theorem xmok_36 : xmokb 36 = true := by decide +kernel
theorem xmok_37 : xmokb 37 = true := by decide +kernel
theorem xmok_38 : xmokb 38 = true := by decide +kernel
theorem xmok_39 : xmokb 39 = true := by decide +kernel
theorem xmok_40 : xmokb 40 = true := by decide +kernel
theorem xmok_41 : xmokb 41 = true := by decide +kernel
theorem xmok_42 : xmokb 42 = true := by decide +kernel
theorem xmok_43 : xmokb 43 = true := by decide +kernel
theorem xmok_44 : xmokb 44 = true := by decide +kernel
theorem xmok_45 : xmokb 45 = true := by decide +kernel
theorem xmok_46 : xmokb 46 = true := by decide +kernel
theorem xmok_47 : xmokb 47 = true := by decide +kernel
theorem xmok_48 : xmokb 48 = true := by decide +kernel
theorem xmok_49 : xmokb 49 = true := by decide +kernel
theorem xmok_50 : xmokb 50 = true := by decide +kernel
theorem xmok_51 : xmokb 51 = true := by decide +kernel
theorem xmok_52 : xmokb 52 = true := by decide +kernel
theorem xmok_53 : xmokb 53 = true := by decide +kernel
theorem xmok_54 : xmokb 54 = true := by decide +kernel
theorem xmok_55 : xmokb 55 = true := by decide +kernel
theorem xmok_56 : xmokb 56 = true := by decide +kernel
theorem xmok_57 : xmokb 57 = true := by decide +kernel
theorem xmok_58 : xmokb 58 = true := by decide +kernel
theorem xmok_59 : xmokb 59 = true := by decide +kernel
theorem xmok_60 : xmokb 60 = true := by decide +kernel
theorem xmok_61 : xmokb 61 = true := by decide +kernel
theorem xmok_62 : xmokb 62 = true := by decide +kernel
theorem xmok_63 : xmokb 63 = true := by decide +kernel
theorem xmok_64 : xmokb 64 = true := by decide +kernel
theorem xmok_65 : xmokb 65 = true := by decide +kernel
theorem xmok_66 : xmokb 66 = true := by decide +kernel
theorem xmok_67 : xmokb 67 = true := by decide +kernel
theorem xmok_68 : xmokb 68 = true := by decide +kernel
theorem xmok_69 : xmokb 69 = true := by decide +kernel
theorem xmok_70 : xmokb 70 = true := by decide +kernel
theorem xmok_71 : xmokb 71 = true := by decide +kernel
theorem xmok_72 : xmokb 72 = true := by decide +kernel
theorem xmok_73 : xmokb 73 = true := by decide +kernel
theorem xmok_74 : xmokb 74 = true := by decide +kernel
theorem xmok_75 : xmokb 75 = true := by decide +kernel
theorem xmok_76 : xmokb 76 = true := by decide +kernel
theorem xmok_77 : xmokb 77 = true := by decide +kernel
theorem xmok_78 : xmokb 78 = true := by decide +kernel
theorem xmok_79 : xmokb 79 = true := by decide +kernel
theorem xmok_80 : xmokb 80 = true := by decide +kernel
theorem xmok_81 : xmokb 81 = true := by decide +kernel
theorem xmok_82 : xmokb 82 = true := by decide +kernel
theorem xmok_83 : xmokb 83 = true := by decide +kernel
theorem xmok_84 : xmokb 84 = true := by decide +kernel
theorem xmok_85 : xmokb 85 = true := by decide +kernel
theorem xmok_86 : xmokb 86 = true := by decide +kernel
theorem xmok_87 : xmokb 87 = true := by decide +kernel
theorem xmok_88 : xmokb 88 = true := by decide +kernel
theorem xmok_89 : xmokb 89 = true := by decide +kernel
theorem xmok_90 : xmokb 90 = true := by decide +kernel
theorem xmok_91 : xmokb 91 = true := by decide +kernel
theorem xmok_92 : xmokb 92 = true := by decide +kernel
theorem xmok_93 : xmokb 93 = true := by decide +kernel
theorem xmok_94 : xmokb 94 = true := by decide +kernel
theorem xmok_95 : xmokb 95 = true := by decide +kernel
theorem xmok_96 : xmokb 96 = true := by decide +kernel
theorem xmok_97 : xmokb 97 = true := by decide +kernel
theorem xmok_98 : xmokb 98 = true := by decide +kernel
theorem xmok_99 : xmokb 99 = true := by decide +kernel
theorem xmok_100 : xmokb 100 = true := by decide +kernel
theorem xmok_101 : xmokb 101 = true := by decide +kernel
theorem xmok_102 : xmokb 102 = true := by decide +kernel
theorem xmok_103 : xmokb 103 = true := by decide +kernel
theorem xmok_104 : xmokb 104 = true := by decide +kernel
theorem xmok_105 : xmokb 105 = true := by decide +kernel
theorem xmok_106 : xmokb 106 = true := by decide +kernel
theorem xmok_107 : xmokb 107 = true := by decide +kernel
theorem xmok_108 : xmokb 108 = true := by decide +kernel
theorem xmok_109 : xmokb 109 = true := by decide +kernel
theorem xmok_110 : xmokb 110 = true := by decide +kernel
theorem xmok_111 : xmokb 111 = true := by decide +kernel
theorem xmok_112 : xmokb 112 = true := by decide +kernel
theorem xmok_113 : xmokb 113 = true := by decide +kernel
theorem xmok_114 : xmokb 114 = true := by decide +kernel
theorem xmok_115 : xmokb 115 = true := by decide +kernel
theorem xmok_116 : xmokb 116 = true := by decide +kernel
theorem xmok_117 : xmokb 117 = true := by decide +kernel
theorem xmok_118 : xmokb 118 = true := by decide +kernel
theorem xmok_119 : xmokb 119 = true := by decide +kernel
theorem xmok_120 : xmokb 120 = true := by decide +kernel
theorem xmok_121 : xmokb 121 = true := by decide +kernel
theorem xmok_122 : xmokb 122 = true := by decide +kernel
theorem xmok_123 : xmokb 123 = true := by decide +kernel
theorem xmok_124 : xmokb 124 = true := by decide +kernel
theorem xmok_125 : xmokb 125 = true := by decide +kernel
theorem xmok_126 : xmokb 126 = true := by decide +kernel
theorem xmok_127 : xmokb 127 = true := by decide +kernel
set_option maxRecDepth 100000 in
theorem xmco_0 : xmwi 0 0 = some (.code (xy 0) (xb 0) (xmi 0 0) (xret 0)) := rfl
set_option maxRecDepth 100000 in
theorem xmco_1 : xmwi 1 0 = some (.code (xy 1) (xb 1) (xmi 1 0) (xret 1)) := rfl
set_option maxRecDepth 100000 in
theorem xmco_2 : xmwi 2 0 = some (.code (xy 2) (xb 2) (xmi 2 0) (xret 2)) := rfl
set_option maxRecDepth 100000 in
theorem xmco_3 : xmwi 3 0 = some (.code (xy 3) (xb 3) (xmi 3 0) (xret 3)) := rfl
set_option maxRecDepth 100000 in
theorem xmco_4 : xmwi 4 0 = some (.code (xy 4) (xb 4) (xmi 4 0) (xret 4)) := rfl
set_option maxRecDepth 100000 in
theorem xmco_5 : xmwi 5 0 = some (.code (xy 5) (xb 5) (xmi 5 0) (xret 5)) := rfl
set_option maxRecDepth 100000 in
theorem xmco_6 : xmwi 6 0 = some (.code (xy 6) (xb 6) (xmi 6 0) (xret 6)) := rfl
set_option maxRecDepth 100000 in
theorem xmco_7 : xmwi 7 0 = some (.code (xy 7) (xb 7) (xmi 7 0) (xret 7)) := rfl
set_option maxRecDepth 100000 in
theorem xmco_8 : xmwi 8 0 = some (.code (xy 8) (xb 8) (xmi 8 0) (xret 8)) := rfl
set_option maxRecDepth 100000 in
theorem xmco_9 : xmwi 9 0 = some (.code (xy 9) (xb 9) (xmi 9 0) (xret 9)) := rfl
set_option maxRecDepth 100000 in
theorem xmco_10 : xmwi 10 0 = some (.code (xy 10) (xb 10) (xmi 10 0) (xret 10)) := rfl
set_option maxRecDepth 100000 in
theorem xmco_11 : xmwi 11 0 = some (.code (xy 11) (xb 11) (xmi 11 0) (xret 11)) := rfl
set_option maxRecDepth 100000 in
theorem xmco_12 : xmwi 12 0 = some (.code (xy 12) (xb 12) (xmi 12 0) (xret 12)) := rfl
set_option maxRecDepth 100000 in
theorem xmco_13 : xmwi 13 0 = some (.code (xy 13) (xb 13) (xmi 13 0) (xret 13)) := rfl
set_option maxRecDepth 100000 in
theorem xmco_15 : xmwi 15 0 = some (.code (xy 15) (xb 15) (xmi 15 0) (xret 15)) := rfl
set_option maxRecDepth 100000 in
theorem xmco_16 : xmwi 16 0 = some (.code (xy 16) (xb 16) (xmi 16 0) (xret 16)) := rfl
set_option maxRecDepth 100000 in
theorem xmco_17 : xmwi 17 0 = some (.code (xy 17) (xb 17) (xmi 17 0) (xret 17)) := rfl
set_option maxRecDepth 100000 in
theorem xmco_18 : xmwi 18 0 = some (.code (xy 18) (xb 18) (xmi 18 0) (xret 18)) := rfl
set_option maxRecDepth 100000 in
theorem xmco_19 : xmwi 19 0 = some (.code (xy 19) (xb 19) (xmi 19 0) (xret 19)) := rfl
set_option maxRecDepth 100000 in
theorem xmco_20 : xmwi 20 0 = some (.code (xy 20) (xb 20) (xmi 20 0) (xret 20)) := rfl
set_option maxRecDepth 100000 in
theorem xmco_21 : xmwi 21 0 = some (.code (xy 21) (xb 21) (xmi 21 0) (xret 21)) := rfl
set_option maxRecDepth 100000 in
theorem xmco_22 : xmwi 22 0 = some (.code (xy 22) (xb 22) (xmi 22 0) (xret 22)) := rfl
set_option maxRecDepth 100000 in
theorem xmco_23 : xmwi 23 0 = some (.code (xy 23) (xb 23) (xmi 23 0) (xret 23)) := rfl
set_option maxRecDepth 100000 in
theorem xmco_24 : xmwi 24 0 = some (.code (xy 24) (xb 24) (xmi 24 0) (xret 24)) := rfl
set_option maxRecDepth 100000 in
theorem xmco_25 : xmwi 25 0 = some (.code (xy 25) (xb 25) (xmi 25 0) (xret 25)) := rfl
set_option maxRecDepth 100000 in
theorem xmco_26 : xmwi 26 0 = some (.code (xy 26) (xb 26) (xmi 26 0) (xret 26)) := rfl
set_option maxRecDepth 100000 in
theorem xmco_27 : xmwi 27 0 = some (.code (xy 27) (xb 27) (xmi 27 0) (xret 27)) := rfl
set_option maxRecDepth 100000 in
theorem xmco_28 : xmwi 28 0 = some (.code (xy 28) (xb 28) (xmi 28 0) (xret 28)) := rfl
set_option maxRecDepth 100000 in
theorem xmco_29 : xmwi 29 0 = some (.code (xy 29) (xb 29) (xmi 29 0) (xret 29)) := rfl
set_option maxRecDepth 100000 in
theorem xmco_30 : xmwi 30 0 = some (.code (xy 30) (xb 30) (xmi 30 0) (xret 30)) := rfl
set_option maxRecDepth 100000 in
theorem xmco_31 : xmwi 31 0 = some (.code (xy 31) (xb 31) (xmi 31 0) (xret 31)) := rfl
set_option maxRecDepth 100000 in
theorem xmco_32 : xmwi 32 0 = some (.code (xy 32) (xb 32) (xmi 32 0) (xret 32)) := rfl
set_option maxRecDepth 100000 in
theorem xmco_33 : xmwi 33 0 = some (.code (xy 33) (xb 33) (xmi 33 0) (xret 33)) := rfl
set_option maxRecDepth 100000 in
theorem xmco_34 : xmwi 34 0 = some (.code (xy 34) (xb 34) (xmi 34 0) (xret 34)) := rfl
set_option maxRecDepth 100000 in
theorem xmco_35 : xmwi 35 0 = some (.code (xy 35) (xb 35) (xmi 35 0) (xret 35)) := rfl
set_option maxRecDepth 100000 in
theorem xmco_36 : xmwi 36 0 = some (.code (xy 36) (xb 36) (xmi 36 0) (xret 36)) := rfl
set_option maxRecDepth 100000 in
theorem xmco_37 : xmwi 37 0 = some (.code (xy 37) (xb 37) (xmi 37 0) (xret 37)) := rfl
set_option maxRecDepth 100000 in
theorem xmco_38 : xmwi 38 0 = some (.code (xy 38) (xb 38) (xmi 38 0) (xret 38)) := rfl
set_option maxRecDepth 100000 in
theorem xmco_39 : xmwi 39 0 = some (.code (xy 39) (xb 39) (xmi 39 0) (xret 39)) := rfl
set_option maxRecDepth 100000 in
theorem xmco_40 : xmwi 40 0 = some (.code (xy 40) (xb 40) (xmi 40 0) (xret 40)) := rfl
set_option maxRecDepth 100000 in
theorem xmco_41 : xmwi 41 0 = some (.code (xy 41) (xb 41) (xmi 41 0) (xret 41)) := rfl
set_option maxRecDepth 100000 in
theorem xmco_42 : xmwi 42 0 = some (.code (xy 42) (xb 42) (xmi 42 0) (xret 42)) := rfl
set_option maxRecDepth 100000 in
theorem xmco_43 : xmwi 43 0 = some (.code (xy 43) (xb 43) (xmi 43 0) (xret 43)) := rfl
set_option maxRecDepth 100000 in
theorem xmco_44 : xmwi 44 0 = some (.code (xy 44) (xb 44) (xmi 44 0) (xret 44)) := rfl
set_option maxRecDepth 100000 in
theorem xmco_45 : xmwi 45 0 = some (.code (xy 45) (xb 45) (xmi 45 0) (xret 45)) := rfl
set_option maxRecDepth 100000 in
theorem xmco_46 : xmwi 46 0 = some (.code (xy 46) (xb 46) (xmi 46 0) (xret 46)) := rfl
set_option maxRecDepth 100000 in
theorem xmco_48 : xmwi 48 0 = some (.code (xy 48) (xb 48) (xmi 48 0) (xret 48)) := rfl
set_option maxRecDepth 100000 in
theorem xmco_49 : xmwi 49 0 = some (.code (xy 49) (xb 49) (xmi 49 0) (xret 49)) := rfl
set_option maxRecDepth 100000 in
theorem xmco_50 : xmwi 50 0 = some (.code (xy 50) (xb 50) (xmi 50 0) (xret 50)) := rfl
set_option maxRecDepth 100000 in
theorem xmco_51 : xmwi 51 0 = some (.code (xy 51) (xb 51) (xmi 51 0) (xret 51)) := rfl
set_option maxRecDepth 100000 in
theorem xmco_52 : xmwi 52 0 = some (.code (xy 52) (xb 52) (xmi 52 0) (xret 52)) := rfl
set_option maxRecDepth 100000 in
theorem xmco_53 : xmwi 53 0 = some (.code (xy 53) (xb 53) (xmi 53 0) (xret 53)) := rfl
set_option maxRecDepth 100000 in
theorem xmco_54 : xmwi 54 0 = some (.code (xy 54) (xb 54) (xmi 54 0) (xret 54)) := rfl
set_option maxRecDepth 100000 in
theorem xmco_55 : xmwi 55 0 = some (.code (xy 55) (xb 55) (xmi 55 0) (xret 55)) := rfl
set_option maxRecDepth 100000 in
theorem xmco_56 : xmwi 56 0 = some (.code (xy 56) (xb 56) (xmi 56 0) (xret 56)) := rfl
set_option maxRecDepth 100000 in
theorem xmco_57 : xmwi 57 0 = some (.code (xy 57) (xb 57) (xmi 57 0) (xret 57)) := rfl
set_option maxRecDepth 100000 in
theorem xmco_58 : xmwi 58 0 = some (.code (xy 58) (xb 58) (xmi 58 0) (xret 58)) := rfl
set_option maxRecDepth 100000 in
theorem xmco_59 : xmwi 59 0 = some (.code (xy 59) (xb 59) (xmi 59 0) (xret 59)) := rfl
set_option maxRecDepth 100000 in
theorem xmco_60 : xmwi 60 0 = some (.code (xy 60) (xb 60) (xmi 60 0) (xret 60)) := rfl
set_option maxRecDepth 100000 in
theorem xmco_61 : xmwi 61 0 = some (.code (xy 61) (xb 61) (xmi 61 0) (xret 61)) := rfl
set_option maxRecDepth 100000 in
theorem xmco_62 : xmwi 62 0 = some (.code (xy 62) (xb 62) (xmi 62 0) (xret 62)) := rfl
set_option maxRecDepth 100000 in
theorem xmco_63 : xmwi 63 0 = some (.code (xy 63) (xb 63) (xmi 63 0) (xret 63)) := rfl
set_option maxRecDepth 100000 in
theorem xmco_64 : xmwi 64 0 = some (.code (xy 64) (xb 64) (xmi 64 0) (xret 64)) := rfl
set_option maxRecDepth 100000 in
theorem xmco_65 : xmwi 65 0 = some (.code (xy 65) (xb 65) (xmi 65 0) (xret 65)) := rfl
set_option maxRecDepth 100000 in
theorem xmco_66 : xmwi 66 0 = some (.code (xy 66) (xb 66) (xmi 66 0) (xret 66)) := rfl
set_option maxRecDepth 100000 in
theorem xmco_67 : xmwi 67 0 = some (.code (xy 67) (xb 67) (xmi 67 0) (xret 67)) := rfl
set_option maxRecDepth 100000 in
theorem xmco_68 : xmwi 68 0 = some (.code (xy 68) (xb 68) (xmi 68 0) (xret 68)) := rfl
set_option maxRecDepth 100000 in
theorem xmco_69 : xmwi 69 0 = some (.code (xy 69) (xb 69) (xmi 69 0) (xret 69)) := rfl
set_option maxRecDepth 100000 in
theorem xmco_70 : xmwi 70 0 = some (.code (xy 70) (xb 70) (xmi 70 0) (xret 70)) := rfl
set_option maxRecDepth 100000 in
theorem xmco_71 : xmwi 71 0 = some (.code (xy 71) (xb 71) (xmi 71 0) (xret 71)) := rfl
set_option maxRecDepth 100000 in
theorem xmco_72 : xmwi 72 0 = some (.code (xy 72) (xb 72) (xmi 72 0) (xret 72)) := rfl
set_option maxRecDepth 100000 in
theorem xmco_73 : xmwi 73 0 = some (.code (xy 73) (xb 73) (xmi 73 0) (xret 73)) := rfl
set_option maxRecDepth 100000 in
theorem xmco_74 : xmwi 74 0 = some (.code (xy 74) (xb 74) (xmi 74 0) (xret 74)) := rfl
set_option maxRecDepth 100000 in
theorem xmco_75 : xmwi 75 0 = some (.code (xy 75) (xb 75) (xmi 75 0) (xret 75)) := rfl
set_option maxRecDepth 100000 in
theorem xmco_76 : xmwi 76 0 = some (.code (xy 76) (xb 76) (xmi 76 0) (xret 76)) := rfl
set_option maxRecDepth 100000 in
theorem xmco_77 : xmwi 77 0 = some (.code (xy 77) (xb 77) (xmi 77 0) (xret 77)) := rfl
set_option maxRecDepth 100000 in
theorem xmco_78 : xmwi 78 0 = some (.code (xy 78) (xb 78) (xmi 78 0) (xret 78)) := rfl
set_option maxRecDepth 100000 in
theorem xmco_79 : xmwi 79 0 = some (.code (xy 79) (xb 79) (xmi 79 0) (xret 79)) := rfl
set_option maxRecDepth 100000 in
theorem xmco_80 : xmwi 80 0 = some (.code (xy 80) (xb 80) (xmi 80 0) (xret 80)) := rfl
set_option maxRecDepth 100000 in
theorem xmco_81 : xmwi 81 0 = some (.code (xy 81) (xb 81) (xmi 81 0) (xret 81)) := rfl
set_option maxRecDepth 100000 in
theorem xmco_82 : xmwi 82 0 = some (.code (xy 82) (xb 82) (xmi 82 0) (xret 82)) := rfl
set_option maxRecDepth 100000 in
theorem xmco_83 : xmwi 83 0 = some (.code (xy 83) (xb 83) (xmi 83 0) (xret 83)) := rfl
set_option maxRecDepth 100000 in
theorem xmco_84 : xmwi 84 0 = some (.code (xy 84) (xb 84) (xmi 84 0) (xret 84)) := rfl
set_option maxRecDepth 100000 in
theorem xmco_85 : xmwi 85 0 = some (.code (xy 85) (xb 85) (xmi 85 0) (xret 85)) := rfl
set_option maxRecDepth 100000 in
theorem xmco_86 : xmwi 86 0 = some (.code (xy 86) (xb 86) (xmi 86 0) (xret 86)) := rfl
set_option maxRecDepth 100000 in
theorem xmco_87 : xmwi 87 0 = some (.code (xy 87) (xb 87) (xmi 87 0) (xret 87)) := rfl
set_option maxRecDepth 100000 in
theorem xmco_88 : xmwi 88 0 = some (.code (xy 88) (xb 88) (xmi 88 0) (xret 88)) := rfl
set_option maxRecDepth 100000 in
theorem xmco_89 : xmwi 89 0 = some (.code (xy 89) (xb 89) (xmi 89 0) (xret 89)) := rfl
set_option maxRecDepth 100000 in
theorem xmco_90 : xmwi 90 0 = some (.code (xy 90) (xb 90) (xmi 90 0) (xret 90)) := rfl
set_option maxRecDepth 100000 in
theorem xmco_91 : xmwi 91 0 = some (.code (xy 91) (xb 91) (xmi 91 0) (xret 91)) := rfl
set_option maxRecDepth 100000 in
theorem xmco_92 : xmwi 92 0 = some (.code (xy 92) (xb 92) (xmi 92 0) (xret 92)) := rfl
set_option maxRecDepth 100000 in
theorem xmco_93 : xmwi 93 0 = some (.code (xy 93) (xb 93) (xmi 93 0) (xret 93)) := rfl
set_option maxRecDepth 100000 in
theorem xmco_94 : xmwi 94 0 = some (.code (xy 94) (xb 94) (xmi 94 0) (xret 94)) := rfl
set_option maxRecDepth 100000 in
theorem xmco_95 : xmwi 95 0 = some (.code (xy 95) (xb 95) (xmi 95 0) (xret 95)) := rfl
set_option maxRecDepth 100000 in
theorem xmco_96 : xmwi 96 0 = some (.code (xy 96) (xb 96) (xmi 96 0) (xret 96)) := rfl
set_option maxRecDepth 100000 in
theorem xmco_97 : xmwi 97 0 = some (.code (xy 97) (xb 97) (xmi 97 0) (xret 97)) := rfl
set_option maxRecDepth 100000 in
theorem xmco_98 : xmwi 98 0 = some (.code (xy 98) (xb 98) (xmi 98 0) (xret 98)) := rfl
set_option maxRecDepth 100000 in
theorem xmco_99 : xmwi 99 0 = some (.code (xy 99) (xb 99) (xmi 99 0) (xret 99)) := rfl
set_option maxRecDepth 100000 in
theorem xmco_100 : xmwi 100 0 = some (.code (xy 100) (xb 100) (xmi 100 0) (xret 100)) := rfl
set_option maxRecDepth 100000 in
theorem xmco_101 : xmwi 101 0 = some (.code (xy 101) (xb 101) (xmi 101 0) (xret 101)) := rfl
set_option maxRecDepth 100000 in
theorem xmco_102 : xmwi 102 0 = some (.code (xy 102) (xb 102) (xmi 102 0) (xret 102)) := rfl
set_option maxRecDepth 100000 in
theorem xmco_103 : xmwi 103 0 = some (.code (xy 103) (xb 103) (xmi 103 0) (xret 103)) := rfl
set_option maxRecDepth 100000 in
theorem xmco_104 : xmwi 104 0 = some (.code (xy 104) (xb 104) (xmi 104 0) (xret 104)) := rfl
set_option maxRecDepth 100000 in
theorem xmco_105 : xmwi 105 0 = some (.code (xy 105) (xb 105) (xmi 105 0) (xret 105)) := rfl
set_option maxRecDepth 100000 in
theorem xmco_106 : xmwi 106 0 = some (.code (xy 106) (xb 106) (xmi 106 0) (xret 106)) := rfl
set_option maxRecDepth 100000 in
theorem xmco_107 : xmwi 107 0 = some (.code (xy 107) (xb 107) (xmi 107 0) (xret 107)) := rfl
set_option maxRecDepth 100000 in
theorem xmco_108 : xmwi 108 0 = some (.code (xy 108) (xb 108) (xmi 108 0) (xret 108)) := rfl
set_option maxRecDepth 100000 in
theorem xmco_109 : xmwi 109 0 = some (.code (xy 109) (xb 109) (xmi 109 0) (xret 109)) := rfl
set_option maxRecDepth 100000 in
theorem xmco_110 : xmwi 110 0 = some (.code (xy 110) (xb 110) (xmi 110 0) (xret 110)) := rfl
set_option maxRecDepth 100000 in
theorem xmco_111 : xmwi 111 0 = some (.code (xy 111) (xb 111) (xmi 111 0) (xret 111)) := rfl
set_option maxRecDepth 100000 in
theorem xmco_112 : xmwi 112 0 = some (.code (xy 112) (xb 112) (xmi 112 0) (xret 112)) := rfl
set_option maxRecDepth 100000 in
theorem xmco_113 : xmwi 113 0 = some (.code (xy 113) (xb 113) (xmi 113 0) (xret 113)) := rfl
set_option maxRecDepth 100000 in
theorem xmco_114 : xmwi 114 0 = some (.code (xy 114) (xb 114) (xmi 114 0) (xret 114)) := rfl
set_option maxRecDepth 100000 in
theorem xmco_115 : xmwi 115 0 = some (.code (xy 115) (xb 115) (xmi 115 0) (xret 115)) := rfl
set_option maxRecDepth 100000 in
theorem xmco_116 : xmwi 116 0 = some (.code (xy 116) (xb 116) (xmi 116 0) (xret 116)) := rfl
set_option maxRecDepth 100000 in
theorem xmco_117 : xmwi 117 0 = some (.code (xy 117) (xb 117) (xmi 117 0) (xret 117)) := rfl
set_option maxRecDepth 100000 in
theorem xmco_118 : xmwi 118 0 = some (.code (xy 118) (xb 118) (xmi 118 0) (xret 118)) := rfl
set_option maxRecDepth 100000 in
theorem xmco_119 : xmwi 119 0 = some (.code (xy 119) (xb 119) (xmi 119 0) (xret 119)) := rfl
set_option maxRecDepth 100000 in
theorem xmco_120 : xmwi 120 0 = some (.code (xy 120) (xb 120) (xmi 120 0) (xret 120)) := rfl
set_option maxRecDepth 100000 in
theorem xmco_121 : xmwi 121 0 = some (.code (xy 121) (xb 121) (xmi 121 0) (xret 121)) := rfl
set_option maxRecDepth 100000 in
theorem xmco_122 : xmwi 122 0 = some (.code (xy 122) (xb 122) (xmi 122 0) (xret 122)) := rfl
set_option maxRecDepth 100000 in
theorem xmco_123 : xmwi 123 0 = some (.code (xy 123) (xb 123) (xmi 123 0) (xret 123)) := rfl
set_option maxRecDepth 100000 in
theorem xmco_124 : xmwi 124 0 = some (.code (xy 124) (xb 124) (xmi 124 0) (xret 124)) := rfl
set_option maxRecDepth 100000 in
theorem xmco_125 : xmwi 125 0 = some (.code (xy 125) (xb 125) (xmi 125 0) (xret 125)) := rfl
set_option maxRecDepth 100000 in
theorem xmco_126 : xmwi 126 0 = some (.code (xy 126) (xb 126) (xmi 126 0) (xret 126)) := rfl
set_option maxRecDepth 100000 in
theorem xmco_127 : xmwi 127 0 = some (.code (xy 127) (xb 127) (xmi 127 0) (xret 127)) := rfl
theorem xmok (mi : Nat) (h : mi < 128) : xmokb mi = true := by
  rcases Nat.lt_or_ge mi 64 with h64 | h64
  ·
    rcases Nat.lt_or_ge mi 32 with h32 | h32
    ·
      rcases Nat.lt_or_ge mi 16 with h16 | h16
      ·
        rcases Nat.lt_or_ge mi 8 with h8 | h8
        ·
          rcases Nat.lt_or_ge mi 4 with h4 | h4
          ·
            rcases Nat.lt_or_ge mi 2 with h2 | h2
            ·
              rcases Nat.lt_or_ge mi 1 with h1 | h1
              ·
                exact (show mi = 0 by omega) ▸ xmok_0
              ·
                exact (show mi = 1 by omega) ▸ xmok_1
            ·
              rcases Nat.lt_or_ge mi 3 with h3 | h3
              ·
                exact (show mi = 2 by omega) ▸ xmok_2
              ·
                exact (show mi = 3 by omega) ▸ xmok_3
          ·
            rcases Nat.lt_or_ge mi 6 with h6 | h6
            ·
              rcases Nat.lt_or_ge mi 5 with h5 | h5
              ·
                exact (show mi = 4 by omega) ▸ xmok_4
              ·
                exact (show mi = 5 by omega) ▸ xmok_5
            ·
              rcases Nat.lt_or_ge mi 7 with h7 | h7
              ·
                exact (show mi = 6 by omega) ▸ xmok_6
              ·
                exact (show mi = 7 by omega) ▸ xmok_7
        ·
          rcases Nat.lt_or_ge mi 12 with h12 | h12
          ·
            rcases Nat.lt_or_ge mi 10 with h10 | h10
            ·
              rcases Nat.lt_or_ge mi 9 with h9 | h9
              ·
                exact (show mi = 8 by omega) ▸ xmok_8
              ·
                exact (show mi = 9 by omega) ▸ xmok_9
            ·
              rcases Nat.lt_or_ge mi 11 with h11 | h11
              ·
                exact (show mi = 10 by omega) ▸ xmok_10
              ·
                exact (show mi = 11 by omega) ▸ xmok_11
          ·
            rcases Nat.lt_or_ge mi 14 with h14 | h14
            ·
              rcases Nat.lt_or_ge mi 13 with h13 | h13
              ·
                exact (show mi = 12 by omega) ▸ xmok_12
              ·
                exact (show mi = 13 by omega) ▸ xmok_13
            ·
              rcases Nat.lt_or_ge mi 15 with h15 | h15
              ·
                exact (show mi = 14 by omega) ▸ xmok_14
              ·
                exact (show mi = 15 by omega) ▸ xmok_15
      ·
        rcases Nat.lt_or_ge mi 24 with h24 | h24
        ·
          rcases Nat.lt_or_ge mi 20 with h20 | h20
          ·
            rcases Nat.lt_or_ge mi 18 with h18 | h18
            ·
              rcases Nat.lt_or_ge mi 17 with h17 | h17
              ·
                exact (show mi = 16 by omega) ▸ xmok_16
              ·
                exact (show mi = 17 by omega) ▸ xmok_17
            ·
              rcases Nat.lt_or_ge mi 19 with h19 | h19
              ·
                exact (show mi = 18 by omega) ▸ xmok_18
              ·
                exact (show mi = 19 by omega) ▸ xmok_19
          ·
            rcases Nat.lt_or_ge mi 22 with h22 | h22
            ·
              rcases Nat.lt_or_ge mi 21 with h21 | h21
              ·
                exact (show mi = 20 by omega) ▸ xmok_20
              ·
                exact (show mi = 21 by omega) ▸ xmok_21
            ·
              rcases Nat.lt_or_ge mi 23 with h23 | h23
              ·
                exact (show mi = 22 by omega) ▸ xmok_22
              ·
                exact (show mi = 23 by omega) ▸ xmok_23
        ·
          rcases Nat.lt_or_ge mi 28 with h28 | h28
          ·
            rcases Nat.lt_or_ge mi 26 with h26 | h26
            ·
              rcases Nat.lt_or_ge mi 25 with h25 | h25
              ·
                exact (show mi = 24 by omega) ▸ xmok_24
              ·
                exact (show mi = 25 by omega) ▸ xmok_25
            ·
              rcases Nat.lt_or_ge mi 27 with h27 | h27
              ·
                exact (show mi = 26 by omega) ▸ xmok_26
              ·
                exact (show mi = 27 by omega) ▸ xmok_27
          ·
            rcases Nat.lt_or_ge mi 30 with h30 | h30
            ·
              rcases Nat.lt_or_ge mi 29 with h29 | h29
              ·
                exact (show mi = 28 by omega) ▸ xmok_28
              ·
                exact (show mi = 29 by omega) ▸ xmok_29
            ·
              rcases Nat.lt_or_ge mi 31 with h31 | h31
              ·
                exact (show mi = 30 by omega) ▸ xmok_30
              ·
                exact (show mi = 31 by omega) ▸ xmok_31
    ·
      rcases Nat.lt_or_ge mi 48 with h48 | h48
      ·
        rcases Nat.lt_or_ge mi 40 with h40 | h40
        ·
          rcases Nat.lt_or_ge mi 36 with h36 | h36
          ·
            rcases Nat.lt_or_ge mi 34 with h34 | h34
            ·
              rcases Nat.lt_or_ge mi 33 with h33 | h33
              ·
                exact (show mi = 32 by omega) ▸ xmok_32
              ·
                exact (show mi = 33 by omega) ▸ xmok_33
            ·
              rcases Nat.lt_or_ge mi 35 with h35 | h35
              ·
                exact (show mi = 34 by omega) ▸ xmok_34
              ·
                exact (show mi = 35 by omega) ▸ xmok_35
          ·
            rcases Nat.lt_or_ge mi 38 with h38 | h38
            ·
              rcases Nat.lt_or_ge mi 37 with h37 | h37
              ·
                exact (show mi = 36 by omega) ▸ xmok_36
              ·
                exact (show mi = 37 by omega) ▸ xmok_37
            ·
              rcases Nat.lt_or_ge mi 39 with h39 | h39
              ·
                exact (show mi = 38 by omega) ▸ xmok_38
              ·
                exact (show mi = 39 by omega) ▸ xmok_39
        ·
          rcases Nat.lt_or_ge mi 44 with h44 | h44
          ·
            rcases Nat.lt_or_ge mi 42 with h42 | h42
            ·
              rcases Nat.lt_or_ge mi 41 with h41 | h41
              ·
                exact (show mi = 40 by omega) ▸ xmok_40
              ·
                exact (show mi = 41 by omega) ▸ xmok_41
            ·
              rcases Nat.lt_or_ge mi 43 with h43 | h43
              ·
                exact (show mi = 42 by omega) ▸ xmok_42
              ·
                exact (show mi = 43 by omega) ▸ xmok_43
          ·
            rcases Nat.lt_or_ge mi 46 with h46 | h46
            ·
              rcases Nat.lt_or_ge mi 45 with h45 | h45
              ·
                exact (show mi = 44 by omega) ▸ xmok_44
              ·
                exact (show mi = 45 by omega) ▸ xmok_45
            ·
              rcases Nat.lt_or_ge mi 47 with h47 | h47
              ·
                exact (show mi = 46 by omega) ▸ xmok_46
              ·
                exact (show mi = 47 by omega) ▸ xmok_47
      ·
        rcases Nat.lt_or_ge mi 56 with h56 | h56
        ·
          rcases Nat.lt_or_ge mi 52 with h52 | h52
          ·
            rcases Nat.lt_or_ge mi 50 with h50 | h50
            ·
              rcases Nat.lt_or_ge mi 49 with h49 | h49
              ·
                exact (show mi = 48 by omega) ▸ xmok_48
              ·
                exact (show mi = 49 by omega) ▸ xmok_49
            ·
              rcases Nat.lt_or_ge mi 51 with h51 | h51
              ·
                exact (show mi = 50 by omega) ▸ xmok_50
              ·
                exact (show mi = 51 by omega) ▸ xmok_51
          ·
            rcases Nat.lt_or_ge mi 54 with h54 | h54
            ·
              rcases Nat.lt_or_ge mi 53 with h53 | h53
              ·
                exact (show mi = 52 by omega) ▸ xmok_52
              ·
                exact (show mi = 53 by omega) ▸ xmok_53
            ·
              rcases Nat.lt_or_ge mi 55 with h55 | h55
              ·
                exact (show mi = 54 by omega) ▸ xmok_54
              ·
                exact (show mi = 55 by omega) ▸ xmok_55
        ·
          rcases Nat.lt_or_ge mi 60 with h60 | h60
          ·
            rcases Nat.lt_or_ge mi 58 with h58 | h58
            ·
              rcases Nat.lt_or_ge mi 57 with h57 | h57
              ·
                exact (show mi = 56 by omega) ▸ xmok_56
              ·
                exact (show mi = 57 by omega) ▸ xmok_57
            ·
              rcases Nat.lt_or_ge mi 59 with h59 | h59
              ·
                exact (show mi = 58 by omega) ▸ xmok_58
              ·
                exact (show mi = 59 by omega) ▸ xmok_59
          ·
            rcases Nat.lt_or_ge mi 62 with h62 | h62
            ·
              rcases Nat.lt_or_ge mi 61 with h61 | h61
              ·
                exact (show mi = 60 by omega) ▸ xmok_60
              ·
                exact (show mi = 61 by omega) ▸ xmok_61
            ·
              rcases Nat.lt_or_ge mi 63 with h63 | h63
              ·
                exact (show mi = 62 by omega) ▸ xmok_62
              ·
                exact (show mi = 63 by omega) ▸ xmok_63
  ·
    rcases Nat.lt_or_ge mi 96 with h96 | h96
    ·
      rcases Nat.lt_or_ge mi 80 with h80 | h80
      ·
        rcases Nat.lt_or_ge mi 72 with h72 | h72
        ·
          rcases Nat.lt_or_ge mi 68 with h68 | h68
          ·
            rcases Nat.lt_or_ge mi 66 with h66 | h66
            ·
              rcases Nat.lt_or_ge mi 65 with h65 | h65
              ·
                exact (show mi = 64 by omega) ▸ xmok_64
              ·
                exact (show mi = 65 by omega) ▸ xmok_65
            ·
              rcases Nat.lt_or_ge mi 67 with h67 | h67
              ·
                exact (show mi = 66 by omega) ▸ xmok_66
              ·
                exact (show mi = 67 by omega) ▸ xmok_67
          ·
            rcases Nat.lt_or_ge mi 70 with h70 | h70
            ·
              rcases Nat.lt_or_ge mi 69 with h69 | h69
              ·
                exact (show mi = 68 by omega) ▸ xmok_68
              ·
                exact (show mi = 69 by omega) ▸ xmok_69
            ·
              rcases Nat.lt_or_ge mi 71 with h71 | h71
              ·
                exact (show mi = 70 by omega) ▸ xmok_70
              ·
                exact (show mi = 71 by omega) ▸ xmok_71
        ·
          rcases Nat.lt_or_ge mi 76 with h76 | h76
          ·
            rcases Nat.lt_or_ge mi 74 with h74 | h74
            ·
              rcases Nat.lt_or_ge mi 73 with h73 | h73
              ·
                exact (show mi = 72 by omega) ▸ xmok_72
              ·
                exact (show mi = 73 by omega) ▸ xmok_73
            ·
              rcases Nat.lt_or_ge mi 75 with h75 | h75
              ·
                exact (show mi = 74 by omega) ▸ xmok_74
              ·
                exact (show mi = 75 by omega) ▸ xmok_75
          ·
            rcases Nat.lt_or_ge mi 78 with h78 | h78
            ·
              rcases Nat.lt_or_ge mi 77 with h77 | h77
              ·
                exact (show mi = 76 by omega) ▸ xmok_76
              ·
                exact (show mi = 77 by omega) ▸ xmok_77
            ·
              rcases Nat.lt_or_ge mi 79 with h79 | h79
              ·
                exact (show mi = 78 by omega) ▸ xmok_78
              ·
                exact (show mi = 79 by omega) ▸ xmok_79
      ·
        rcases Nat.lt_or_ge mi 88 with h88 | h88
        ·
          rcases Nat.lt_or_ge mi 84 with h84 | h84
          ·
            rcases Nat.lt_or_ge mi 82 with h82 | h82
            ·
              rcases Nat.lt_or_ge mi 81 with h81 | h81
              ·
                exact (show mi = 80 by omega) ▸ xmok_80
              ·
                exact (show mi = 81 by omega) ▸ xmok_81
            ·
              rcases Nat.lt_or_ge mi 83 with h83 | h83
              ·
                exact (show mi = 82 by omega) ▸ xmok_82
              ·
                exact (show mi = 83 by omega) ▸ xmok_83
          ·
            rcases Nat.lt_or_ge mi 86 with h86 | h86
            ·
              rcases Nat.lt_or_ge mi 85 with h85 | h85
              ·
                exact (show mi = 84 by omega) ▸ xmok_84
              ·
                exact (show mi = 85 by omega) ▸ xmok_85
            ·
              rcases Nat.lt_or_ge mi 87 with h87 | h87
              ·
                exact (show mi = 86 by omega) ▸ xmok_86
              ·
                exact (show mi = 87 by omega) ▸ xmok_87
        ·
          rcases Nat.lt_or_ge mi 92 with h92 | h92
          ·
            rcases Nat.lt_or_ge mi 90 with h90 | h90
            ·
              rcases Nat.lt_or_ge mi 89 with h89 | h89
              ·
                exact (show mi = 88 by omega) ▸ xmok_88
              ·
                exact (show mi = 89 by omega) ▸ xmok_89
            ·
              rcases Nat.lt_or_ge mi 91 with h91 | h91
              ·
                exact (show mi = 90 by omega) ▸ xmok_90
              ·
                exact (show mi = 91 by omega) ▸ xmok_91
          ·
            rcases Nat.lt_or_ge mi 94 with h94 | h94
            ·
              rcases Nat.lt_or_ge mi 93 with h93 | h93
              ·
                exact (show mi = 92 by omega) ▸ xmok_92
              ·
                exact (show mi = 93 by omega) ▸ xmok_93
            ·
              rcases Nat.lt_or_ge mi 95 with h95 | h95
              ·
                exact (show mi = 94 by omega) ▸ xmok_94
              ·
                exact (show mi = 95 by omega) ▸ xmok_95
    ·
      rcases Nat.lt_or_ge mi 112 with h112 | h112
      ·
        rcases Nat.lt_or_ge mi 104 with h104 | h104
        ·
          rcases Nat.lt_or_ge mi 100 with h100 | h100
          ·
            rcases Nat.lt_or_ge mi 98 with h98 | h98
            ·
              rcases Nat.lt_or_ge mi 97 with h97 | h97
              ·
                exact (show mi = 96 by omega) ▸ xmok_96
              ·
                exact (show mi = 97 by omega) ▸ xmok_97
            ·
              rcases Nat.lt_or_ge mi 99 with h99 | h99
              ·
                exact (show mi = 98 by omega) ▸ xmok_98
              ·
                exact (show mi = 99 by omega) ▸ xmok_99
          ·
            rcases Nat.lt_or_ge mi 102 with h102 | h102
            ·
              rcases Nat.lt_or_ge mi 101 with h101 | h101
              ·
                exact (show mi = 100 by omega) ▸ xmok_100
              ·
                exact (show mi = 101 by omega) ▸ xmok_101
            ·
              rcases Nat.lt_or_ge mi 103 with h103 | h103
              ·
                exact (show mi = 102 by omega) ▸ xmok_102
              ·
                exact (show mi = 103 by omega) ▸ xmok_103
        ·
          rcases Nat.lt_or_ge mi 108 with h108 | h108
          ·
            rcases Nat.lt_or_ge mi 106 with h106 | h106
            ·
              rcases Nat.lt_or_ge mi 105 with h105 | h105
              ·
                exact (show mi = 104 by omega) ▸ xmok_104
              ·
                exact (show mi = 105 by omega) ▸ xmok_105
            ·
              rcases Nat.lt_or_ge mi 107 with h107 | h107
              ·
                exact (show mi = 106 by omega) ▸ xmok_106
              ·
                exact (show mi = 107 by omega) ▸ xmok_107
          ·
            rcases Nat.lt_or_ge mi 110 with h110 | h110
            ·
              rcases Nat.lt_or_ge mi 109 with h109 | h109
              ·
                exact (show mi = 108 by omega) ▸ xmok_108
              ·
                exact (show mi = 109 by omega) ▸ xmok_109
            ·
              rcases Nat.lt_or_ge mi 111 with h111 | h111
              ·
                exact (show mi = 110 by omega) ▸ xmok_110
              ·
                exact (show mi = 111 by omega) ▸ xmok_111
      ·
        rcases Nat.lt_or_ge mi 120 with h120 | h120
        ·
          rcases Nat.lt_or_ge mi 116 with h116 | h116
          ·
            rcases Nat.lt_or_ge mi 114 with h114 | h114
            ·
              rcases Nat.lt_or_ge mi 113 with h113 | h113
              ·
                exact (show mi = 112 by omega) ▸ xmok_112
              ·
                exact (show mi = 113 by omega) ▸ xmok_113
            ·
              rcases Nat.lt_or_ge mi 115 with h115 | h115
              ·
                exact (show mi = 114 by omega) ▸ xmok_114
              ·
                exact (show mi = 115 by omega) ▸ xmok_115
          ·
            rcases Nat.lt_or_ge mi 118 with h118 | h118
            ·
              rcases Nat.lt_or_ge mi 117 with h117 | h117
              ·
                exact (show mi = 116 by omega) ▸ xmok_116
              ·
                exact (show mi = 117 by omega) ▸ xmok_117
            ·
              rcases Nat.lt_or_ge mi 119 with h119 | h119
              ·
                exact (show mi = 118 by omega) ▸ xmok_118
              ·
                exact (show mi = 119 by omega) ▸ xmok_119
        ·
          rcases Nat.lt_or_ge mi 124 with h124 | h124
          ·
            rcases Nat.lt_or_ge mi 122 with h122 | h122
            ·
              rcases Nat.lt_or_ge mi 121 with h121 | h121
              ·
                exact (show mi = 120 by omega) ▸ xmok_120
              ·
                exact (show mi = 121 by omega) ▸ xmok_121
            ·
              rcases Nat.lt_or_ge mi 123 with h123 | h123
              ·
                exact (show mi = 122 by omega) ▸ xmok_122
              ·
                exact (show mi = 123 by omega) ▸ xmok_123
          ·
            rcases Nat.lt_or_ge mi 126 with h126 | h126
            ·
              rcases Nat.lt_or_ge mi 125 with h125 | h125
              ·
                exact (show mi = 124 by omega) ▸ xmok_124
              ·
                exact (show mi = 125 by omega) ▸ xmok_125
            ·
              rcases Nat.lt_or_ge mi 127 with h127 | h127
              ·
                exact (show mi = 126 by omega) ▸ xmok_126
              ·
                exact (show mi = 127 by omega) ▸ xmok_127
theorem xmco (mi : Nat) (h : mi < 128) (n14 : mi ≠ 14) (n47 : mi ≠ 47) : xmwi mi 0 = some (.code (xy mi) (xb mi) (xmi mi 0) (xret mi)) := by
  rcases Nat.lt_or_ge mi 64 with h64 | h64
  ·
    rcases Nat.lt_or_ge mi 32 with h32 | h32
    ·
      rcases Nat.lt_or_ge mi 16 with h16 | h16
      ·
        rcases Nat.lt_or_ge mi 8 with h8 | h8
        ·
          rcases Nat.lt_or_ge mi 4 with h4 | h4
          ·
            rcases Nat.lt_or_ge mi 2 with h2 | h2
            ·
              rcases Nat.lt_or_ge mi 1 with h1 | h1
              ·
                exact (show mi = 0 by omega) ▸ xmco_0
              ·
                exact (show mi = 1 by omega) ▸ xmco_1
            ·
              rcases Nat.lt_or_ge mi 3 with h3 | h3
              ·
                exact (show mi = 2 by omega) ▸ xmco_2
              ·
                exact (show mi = 3 by omega) ▸ xmco_3
          ·
            rcases Nat.lt_or_ge mi 6 with h6 | h6
            ·
              rcases Nat.lt_or_ge mi 5 with h5 | h5
              ·
                exact (show mi = 4 by omega) ▸ xmco_4
              ·
                exact (show mi = 5 by omega) ▸ xmco_5
            ·
              rcases Nat.lt_or_ge mi 7 with h7 | h7
              ·
                exact (show mi = 6 by omega) ▸ xmco_6
              ·
                exact (show mi = 7 by omega) ▸ xmco_7
        ·
          rcases Nat.lt_or_ge mi 12 with h12 | h12
          ·
            rcases Nat.lt_or_ge mi 10 with h10 | h10
            ·
              rcases Nat.lt_or_ge mi 9 with h9 | h9
              ·
                exact (show mi = 8 by omega) ▸ xmco_8
              ·
                exact (show mi = 9 by omega) ▸ xmco_9
            ·
              rcases Nat.lt_or_ge mi 11 with h11 | h11
              ·
                exact (show mi = 10 by omega) ▸ xmco_10
              ·
                exact (show mi = 11 by omega) ▸ xmco_11
          ·
            rcases Nat.lt_or_ge mi 14 with h14 | h14
            ·
              rcases Nat.lt_or_ge mi 13 with h13 | h13
              ·
                exact (show mi = 12 by omega) ▸ xmco_12
              ·
                exact (show mi = 13 by omega) ▸ xmco_13
            ·
              rcases Nat.lt_or_ge mi 15 with h15 | h15
              ·
                exact absurd (show mi = 14 by omega) n14
              ·
                exact (show mi = 15 by omega) ▸ xmco_15
      ·
        rcases Nat.lt_or_ge mi 24 with h24 | h24
        ·
          rcases Nat.lt_or_ge mi 20 with h20 | h20
          ·
            rcases Nat.lt_or_ge mi 18 with h18 | h18
            ·
              rcases Nat.lt_or_ge mi 17 with h17 | h17
              ·
                exact (show mi = 16 by omega) ▸ xmco_16
              ·
                exact (show mi = 17 by omega) ▸ xmco_17
            ·
              rcases Nat.lt_or_ge mi 19 with h19 | h19
              ·
                exact (show mi = 18 by omega) ▸ xmco_18
              ·
                exact (show mi = 19 by omega) ▸ xmco_19
          ·
            rcases Nat.lt_or_ge mi 22 with h22 | h22
            ·
              rcases Nat.lt_or_ge mi 21 with h21 | h21
              ·
                exact (show mi = 20 by omega) ▸ xmco_20
              ·
                exact (show mi = 21 by omega) ▸ xmco_21
            ·
              rcases Nat.lt_or_ge mi 23 with h23 | h23
              ·
                exact (show mi = 22 by omega) ▸ xmco_22
              ·
                exact (show mi = 23 by omega) ▸ xmco_23
        ·
          rcases Nat.lt_or_ge mi 28 with h28 | h28
          ·
            rcases Nat.lt_or_ge mi 26 with h26 | h26
            ·
              rcases Nat.lt_or_ge mi 25 with h25 | h25
              ·
                exact (show mi = 24 by omega) ▸ xmco_24
              ·
                exact (show mi = 25 by omega) ▸ xmco_25
            ·
              rcases Nat.lt_or_ge mi 27 with h27 | h27
              ·
                exact (show mi = 26 by omega) ▸ xmco_26
              ·
                exact (show mi = 27 by omega) ▸ xmco_27
          ·
            rcases Nat.lt_or_ge mi 30 with h30 | h30
            ·
              rcases Nat.lt_or_ge mi 29 with h29 | h29
              ·
                exact (show mi = 28 by omega) ▸ xmco_28
              ·
                exact (show mi = 29 by omega) ▸ xmco_29
            ·
              rcases Nat.lt_or_ge mi 31 with h31 | h31
              ·
                exact (show mi = 30 by omega) ▸ xmco_30
              ·
                exact (show mi = 31 by omega) ▸ xmco_31
    ·
      rcases Nat.lt_or_ge mi 48 with h48 | h48
      ·
        rcases Nat.lt_or_ge mi 40 with h40 | h40
        ·
          rcases Nat.lt_or_ge mi 36 with h36 | h36
          ·
            rcases Nat.lt_or_ge mi 34 with h34 | h34
            ·
              rcases Nat.lt_or_ge mi 33 with h33 | h33
              ·
                exact (show mi = 32 by omega) ▸ xmco_32
              ·
                exact (show mi = 33 by omega) ▸ xmco_33
            ·
              rcases Nat.lt_or_ge mi 35 with h35 | h35
              ·
                exact (show mi = 34 by omega) ▸ xmco_34
              ·
                exact (show mi = 35 by omega) ▸ xmco_35
          ·
            rcases Nat.lt_or_ge mi 38 with h38 | h38
            ·
              rcases Nat.lt_or_ge mi 37 with h37 | h37
              ·
                exact (show mi = 36 by omega) ▸ xmco_36
              ·
                exact (show mi = 37 by omega) ▸ xmco_37
            ·
              rcases Nat.lt_or_ge mi 39 with h39 | h39
              ·
                exact (show mi = 38 by omega) ▸ xmco_38
              ·
                exact (show mi = 39 by omega) ▸ xmco_39
        ·
          rcases Nat.lt_or_ge mi 44 with h44 | h44
          ·
            rcases Nat.lt_or_ge mi 42 with h42 | h42
            ·
              rcases Nat.lt_or_ge mi 41 with h41 | h41
              ·
                exact (show mi = 40 by omega) ▸ xmco_40
              ·
                exact (show mi = 41 by omega) ▸ xmco_41
            ·
              rcases Nat.lt_or_ge mi 43 with h43 | h43
              ·
                exact (show mi = 42 by omega) ▸ xmco_42
              ·
                exact (show mi = 43 by omega) ▸ xmco_43
          ·
            rcases Nat.lt_or_ge mi 46 with h46 | h46
            ·
              rcases Nat.lt_or_ge mi 45 with h45 | h45
              ·
                exact (show mi = 44 by omega) ▸ xmco_44
              ·
                exact (show mi = 45 by omega) ▸ xmco_45
            ·
              rcases Nat.lt_or_ge mi 47 with h47 | h47
              ·
                exact (show mi = 46 by omega) ▸ xmco_46
              ·
                exact absurd (show mi = 47 by omega) n47
      ·
        rcases Nat.lt_or_ge mi 56 with h56 | h56
        ·
          rcases Nat.lt_or_ge mi 52 with h52 | h52
          ·
            rcases Nat.lt_or_ge mi 50 with h50 | h50
            ·
              rcases Nat.lt_or_ge mi 49 with h49 | h49
              ·
                exact (show mi = 48 by omega) ▸ xmco_48
              ·
                exact (show mi = 49 by omega) ▸ xmco_49
            ·
              rcases Nat.lt_or_ge mi 51 with h51 | h51
              ·
                exact (show mi = 50 by omega) ▸ xmco_50
              ·
                exact (show mi = 51 by omega) ▸ xmco_51
          ·
            rcases Nat.lt_or_ge mi 54 with h54 | h54
            ·
              rcases Nat.lt_or_ge mi 53 with h53 | h53
              ·
                exact (show mi = 52 by omega) ▸ xmco_52
              ·
                exact (show mi = 53 by omega) ▸ xmco_53
            ·
              rcases Nat.lt_or_ge mi 55 with h55 | h55
              ·
                exact (show mi = 54 by omega) ▸ xmco_54
              ·
                exact (show mi = 55 by omega) ▸ xmco_55
        ·
          rcases Nat.lt_or_ge mi 60 with h60 | h60
          ·
            rcases Nat.lt_or_ge mi 58 with h58 | h58
            ·
              rcases Nat.lt_or_ge mi 57 with h57 | h57
              ·
                exact (show mi = 56 by omega) ▸ xmco_56
              ·
                exact (show mi = 57 by omega) ▸ xmco_57
            ·
              rcases Nat.lt_or_ge mi 59 with h59 | h59
              ·
                exact (show mi = 58 by omega) ▸ xmco_58
              ·
                exact (show mi = 59 by omega) ▸ xmco_59
          ·
            rcases Nat.lt_or_ge mi 62 with h62 | h62
            ·
              rcases Nat.lt_or_ge mi 61 with h61 | h61
              ·
                exact (show mi = 60 by omega) ▸ xmco_60
              ·
                exact (show mi = 61 by omega) ▸ xmco_61
            ·
              rcases Nat.lt_or_ge mi 63 with h63 | h63
              ·
                exact (show mi = 62 by omega) ▸ xmco_62
              ·
                exact (show mi = 63 by omega) ▸ xmco_63
  ·
    rcases Nat.lt_or_ge mi 96 with h96 | h96
    ·
      rcases Nat.lt_or_ge mi 80 with h80 | h80
      ·
        rcases Nat.lt_or_ge mi 72 with h72 | h72
        ·
          rcases Nat.lt_or_ge mi 68 with h68 | h68
          ·
            rcases Nat.lt_or_ge mi 66 with h66 | h66
            ·
              rcases Nat.lt_or_ge mi 65 with h65 | h65
              ·
                exact (show mi = 64 by omega) ▸ xmco_64
              ·
                exact (show mi = 65 by omega) ▸ xmco_65
            ·
              rcases Nat.lt_or_ge mi 67 with h67 | h67
              ·
                exact (show mi = 66 by omega) ▸ xmco_66
              ·
                exact (show mi = 67 by omega) ▸ xmco_67
          ·
            rcases Nat.lt_or_ge mi 70 with h70 | h70
            ·
              rcases Nat.lt_or_ge mi 69 with h69 | h69
              ·
                exact (show mi = 68 by omega) ▸ xmco_68
              ·
                exact (show mi = 69 by omega) ▸ xmco_69
            ·
              rcases Nat.lt_or_ge mi 71 with h71 | h71
              ·
                exact (show mi = 70 by omega) ▸ xmco_70
              ·
                exact (show mi = 71 by omega) ▸ xmco_71
        ·
          rcases Nat.lt_or_ge mi 76 with h76 | h76
          ·
            rcases Nat.lt_or_ge mi 74 with h74 | h74
            ·
              rcases Nat.lt_or_ge mi 73 with h73 | h73
              ·
                exact (show mi = 72 by omega) ▸ xmco_72
              ·
                exact (show mi = 73 by omega) ▸ xmco_73
            ·
              rcases Nat.lt_or_ge mi 75 with h75 | h75
              ·
                exact (show mi = 74 by omega) ▸ xmco_74
              ·
                exact (show mi = 75 by omega) ▸ xmco_75
          ·
            rcases Nat.lt_or_ge mi 78 with h78 | h78
            ·
              rcases Nat.lt_or_ge mi 77 with h77 | h77
              ·
                exact (show mi = 76 by omega) ▸ xmco_76
              ·
                exact (show mi = 77 by omega) ▸ xmco_77
            ·
              rcases Nat.lt_or_ge mi 79 with h79 | h79
              ·
                exact (show mi = 78 by omega) ▸ xmco_78
              ·
                exact (show mi = 79 by omega) ▸ xmco_79
      ·
        rcases Nat.lt_or_ge mi 88 with h88 | h88
        ·
          rcases Nat.lt_or_ge mi 84 with h84 | h84
          ·
            rcases Nat.lt_or_ge mi 82 with h82 | h82
            ·
              rcases Nat.lt_or_ge mi 81 with h81 | h81
              ·
                exact (show mi = 80 by omega) ▸ xmco_80
              ·
                exact (show mi = 81 by omega) ▸ xmco_81
            ·
              rcases Nat.lt_or_ge mi 83 with h83 | h83
              ·
                exact (show mi = 82 by omega) ▸ xmco_82
              ·
                exact (show mi = 83 by omega) ▸ xmco_83
          ·
            rcases Nat.lt_or_ge mi 86 with h86 | h86
            ·
              rcases Nat.lt_or_ge mi 85 with h85 | h85
              ·
                exact (show mi = 84 by omega) ▸ xmco_84
              ·
                exact (show mi = 85 by omega) ▸ xmco_85
            ·
              rcases Nat.lt_or_ge mi 87 with h87 | h87
              ·
                exact (show mi = 86 by omega) ▸ xmco_86
              ·
                exact (show mi = 87 by omega) ▸ xmco_87
        ·
          rcases Nat.lt_or_ge mi 92 with h92 | h92
          ·
            rcases Nat.lt_or_ge mi 90 with h90 | h90
            ·
              rcases Nat.lt_or_ge mi 89 with h89 | h89
              ·
                exact (show mi = 88 by omega) ▸ xmco_88
              ·
                exact (show mi = 89 by omega) ▸ xmco_89
            ·
              rcases Nat.lt_or_ge mi 91 with h91 | h91
              ·
                exact (show mi = 90 by omega) ▸ xmco_90
              ·
                exact (show mi = 91 by omega) ▸ xmco_91
          ·
            rcases Nat.lt_or_ge mi 94 with h94 | h94
            ·
              rcases Nat.lt_or_ge mi 93 with h93 | h93
              ·
                exact (show mi = 92 by omega) ▸ xmco_92
              ·
                exact (show mi = 93 by omega) ▸ xmco_93
            ·
              rcases Nat.lt_or_ge mi 95 with h95 | h95
              ·
                exact (show mi = 94 by omega) ▸ xmco_94
              ·
                exact (show mi = 95 by omega) ▸ xmco_95
    ·
      rcases Nat.lt_or_ge mi 112 with h112 | h112
      ·
        rcases Nat.lt_or_ge mi 104 with h104 | h104
        ·
          rcases Nat.lt_or_ge mi 100 with h100 | h100
          ·
            rcases Nat.lt_or_ge mi 98 with h98 | h98
            ·
              rcases Nat.lt_or_ge mi 97 with h97 | h97
              ·
                exact (show mi = 96 by omega) ▸ xmco_96
              ·
                exact (show mi = 97 by omega) ▸ xmco_97
            ·
              rcases Nat.lt_or_ge mi 99 with h99 | h99
              ·
                exact (show mi = 98 by omega) ▸ xmco_98
              ·
                exact (show mi = 99 by omega) ▸ xmco_99
          ·
            rcases Nat.lt_or_ge mi 102 with h102 | h102
            ·
              rcases Nat.lt_or_ge mi 101 with h101 | h101
              ·
                exact (show mi = 100 by omega) ▸ xmco_100
              ·
                exact (show mi = 101 by omega) ▸ xmco_101
            ·
              rcases Nat.lt_or_ge mi 103 with h103 | h103
              ·
                exact (show mi = 102 by omega) ▸ xmco_102
              ·
                exact (show mi = 103 by omega) ▸ xmco_103
        ·
          rcases Nat.lt_or_ge mi 108 with h108 | h108
          ·
            rcases Nat.lt_or_ge mi 106 with h106 | h106
            ·
              rcases Nat.lt_or_ge mi 105 with h105 | h105
              ·
                exact (show mi = 104 by omega) ▸ xmco_104
              ·
                exact (show mi = 105 by omega) ▸ xmco_105
            ·
              rcases Nat.lt_or_ge mi 107 with h107 | h107
              ·
                exact (show mi = 106 by omega) ▸ xmco_106
              ·
                exact (show mi = 107 by omega) ▸ xmco_107
          ·
            rcases Nat.lt_or_ge mi 110 with h110 | h110
            ·
              rcases Nat.lt_or_ge mi 109 with h109 | h109
              ·
                exact (show mi = 108 by omega) ▸ xmco_108
              ·
                exact (show mi = 109 by omega) ▸ xmco_109
            ·
              rcases Nat.lt_or_ge mi 111 with h111 | h111
              ·
                exact (show mi = 110 by omega) ▸ xmco_110
              ·
                exact (show mi = 111 by omega) ▸ xmco_111
      ·
        rcases Nat.lt_or_ge mi 120 with h120 | h120
        ·
          rcases Nat.lt_or_ge mi 116 with h116 | h116
          ·
            rcases Nat.lt_or_ge mi 114 with h114 | h114
            ·
              rcases Nat.lt_or_ge mi 113 with h113 | h113
              ·
                exact (show mi = 112 by omega) ▸ xmco_112
              ·
                exact (show mi = 113 by omega) ▸ xmco_113
            ·
              rcases Nat.lt_or_ge mi 115 with h115 | h115
              ·
                exact (show mi = 114 by omega) ▸ xmco_114
              ·
                exact (show mi = 115 by omega) ▸ xmco_115
          ·
            rcases Nat.lt_or_ge mi 118 with h118 | h118
            ·
              rcases Nat.lt_or_ge mi 117 with h117 | h117
              ·
                exact (show mi = 116 by omega) ▸ xmco_116
              ·
                exact (show mi = 117 by omega) ▸ xmco_117
            ·
              rcases Nat.lt_or_ge mi 119 with h119 | h119
              ·
                exact (show mi = 118 by omega) ▸ xmco_118
              ·
                exact (show mi = 119 by omega) ▸ xmco_119
        ·
          rcases Nat.lt_or_ge mi 124 with h124 | h124
          ·
            rcases Nat.lt_or_ge mi 122 with h122 | h122
            ·
              rcases Nat.lt_or_ge mi 121 with h121 | h121
              ·
                exact (show mi = 120 by omega) ▸ xmco_120
              ·
                exact (show mi = 121 by omega) ▸ xmco_121
            ·
              rcases Nat.lt_or_ge mi 123 with h123 | h123
              ·
                exact (show mi = 122 by omega) ▸ xmco_122
              ·
                exact (show mi = 123 by omega) ▸ xmco_123
          ·
            rcases Nat.lt_or_ge mi 126 with h126 | h126
            ·
              rcases Nat.lt_or_ge mi 125 with h125 | h125
              ·
                exact (show mi = 124 by omega) ▸ xmco_124
              ·
                exact (show mi = 125 by omega) ▸ xmco_125
            ·
              rcases Nat.lt_or_ge mi 127 with h127 | h127
              ·
                exact (show mi = 126 by omega) ▸ xmco_126
              ·
                exact (show mi = 127 by omega) ▸ xmco_127
theorem xok_all (mi : Nat) (h : mi < 129) : xokm mi = true := by
  rcases Nat.lt_or_ge mi 64 with h64 | h64
  ·
    rcases Nat.lt_or_ge mi 32 with h32 | h32
    ·
      rcases Nat.lt_or_ge mi 16 with h16 | h16
      ·
        rcases Nat.lt_or_ge mi 8 with h8 | h8
        ·
          rcases Nat.lt_or_ge mi 4 with h4 | h4
          ·
            rcases Nat.lt_or_ge mi 2 with h2 | h2
            ·
              rcases Nat.lt_or_ge mi 1 with h1 | h1
              ·
                exact (show mi = 0 by omega) ▸ xokm_0
              ·
                exact (show mi = 1 by omega) ▸ xokm_1
            ·
              rcases Nat.lt_or_ge mi 3 with h3 | h3
              ·
                exact (show mi = 2 by omega) ▸ xokm_2
              ·
                exact (show mi = 3 by omega) ▸ xokm_3
          ·
            rcases Nat.lt_or_ge mi 6 with h6 | h6
            ·
              rcases Nat.lt_or_ge mi 5 with h5 | h5
              ·
                exact (show mi = 4 by omega) ▸ xokm_4
              ·
                exact (show mi = 5 by omega) ▸ xokm_5
            ·
              rcases Nat.lt_or_ge mi 7 with h7 | h7
              ·
                exact (show mi = 6 by omega) ▸ xokm_6
              ·
                exact (show mi = 7 by omega) ▸ xokm_7
        ·
          rcases Nat.lt_or_ge mi 12 with h12 | h12
          ·
            rcases Nat.lt_or_ge mi 10 with h10 | h10
            ·
              rcases Nat.lt_or_ge mi 9 with h9 | h9
              ·
                exact (show mi = 8 by omega) ▸ xokm_8
              ·
                exact (show mi = 9 by omega) ▸ xokm_9
            ·
              rcases Nat.lt_or_ge mi 11 with h11 | h11
              ·
                exact (show mi = 10 by omega) ▸ xokm_10
              ·
                exact (show mi = 11 by omega) ▸ xokm_11
          ·
            rcases Nat.lt_or_ge mi 14 with h14 | h14
            ·
              rcases Nat.lt_or_ge mi 13 with h13 | h13
              ·
                exact (show mi = 12 by omega) ▸ xokm_12
              ·
                exact (show mi = 13 by omega) ▸ xokm_13
            ·
              rcases Nat.lt_or_ge mi 15 with h15 | h15
              ·
                exact (show mi = 14 by omega) ▸ xokm_14
              ·
                exact (show mi = 15 by omega) ▸ xokm_15
      ·
        rcases Nat.lt_or_ge mi 24 with h24 | h24
        ·
          rcases Nat.lt_or_ge mi 20 with h20 | h20
          ·
            rcases Nat.lt_or_ge mi 18 with h18 | h18
            ·
              rcases Nat.lt_or_ge mi 17 with h17 | h17
              ·
                exact (show mi = 16 by omega) ▸ xokm_16
              ·
                exact (show mi = 17 by omega) ▸ xokm_17
            ·
              rcases Nat.lt_or_ge mi 19 with h19 | h19
              ·
                exact (show mi = 18 by omega) ▸ xokm_18
              ·
                exact (show mi = 19 by omega) ▸ xokm_19
          ·
            rcases Nat.lt_or_ge mi 22 with h22 | h22
            ·
              rcases Nat.lt_or_ge mi 21 with h21 | h21
              ·
                exact (show mi = 20 by omega) ▸ xokm_20
              ·
                exact (show mi = 21 by omega) ▸ xokm_21
            ·
              rcases Nat.lt_or_ge mi 23 with h23 | h23
              ·
                exact (show mi = 22 by omega) ▸ xokm_22
              ·
                exact (show mi = 23 by omega) ▸ xokm_23
        ·
          rcases Nat.lt_or_ge mi 28 with h28 | h28
          ·
            rcases Nat.lt_or_ge mi 26 with h26 | h26
            ·
              rcases Nat.lt_or_ge mi 25 with h25 | h25
              ·
                exact (show mi = 24 by omega) ▸ xokm_24
              ·
                exact (show mi = 25 by omega) ▸ xokm_25
            ·
              rcases Nat.lt_or_ge mi 27 with h27 | h27
              ·
                exact (show mi = 26 by omega) ▸ xokm_26
              ·
                exact (show mi = 27 by omega) ▸ xokm_27
          ·
            rcases Nat.lt_or_ge mi 30 with h30 | h30
            ·
              rcases Nat.lt_or_ge mi 29 with h29 | h29
              ·
                exact (show mi = 28 by omega) ▸ xokm_28
              ·
                exact (show mi = 29 by omega) ▸ xokm_29
            ·
              rcases Nat.lt_or_ge mi 31 with h31 | h31
              ·
                exact (show mi = 30 by omega) ▸ xokm_30
              ·
                exact (show mi = 31 by omega) ▸ xokm_31
    ·
      rcases Nat.lt_or_ge mi 48 with h48 | h48
      ·
        rcases Nat.lt_or_ge mi 40 with h40 | h40
        ·
          rcases Nat.lt_or_ge mi 36 with h36 | h36
          ·
            rcases Nat.lt_or_ge mi 34 with h34 | h34
            ·
              rcases Nat.lt_or_ge mi 33 with h33 | h33
              ·
                exact (show mi = 32 by omega) ▸ xokm_32
              ·
                exact (show mi = 33 by omega) ▸ xokm_33
            ·
              rcases Nat.lt_or_ge mi 35 with h35 | h35
              ·
                exact (show mi = 34 by omega) ▸ xokm_34
              ·
                exact (show mi = 35 by omega) ▸ xokm_35
          ·
            rcases Nat.lt_or_ge mi 38 with h38 | h38
            ·
              rcases Nat.lt_or_ge mi 37 with h37 | h37
              ·
                exact (show mi = 36 by omega) ▸ xokm_36
              ·
                exact (show mi = 37 by omega) ▸ xokm_37
            ·
              rcases Nat.lt_or_ge mi 39 with h39 | h39
              ·
                exact (show mi = 38 by omega) ▸ xokm_38
              ·
                exact (show mi = 39 by omega) ▸ xokm_39
        ·
          rcases Nat.lt_or_ge mi 44 with h44 | h44
          ·
            rcases Nat.lt_or_ge mi 42 with h42 | h42
            ·
              rcases Nat.lt_or_ge mi 41 with h41 | h41
              ·
                exact (show mi = 40 by omega) ▸ xokm_40
              ·
                exact (show mi = 41 by omega) ▸ xokm_41
            ·
              rcases Nat.lt_or_ge mi 43 with h43 | h43
              ·
                exact (show mi = 42 by omega) ▸ xokm_42
              ·
                exact (show mi = 43 by omega) ▸ xokm_43
          ·
            rcases Nat.lt_or_ge mi 46 with h46 | h46
            ·
              rcases Nat.lt_or_ge mi 45 with h45 | h45
              ·
                exact (show mi = 44 by omega) ▸ xokm_44
              ·
                exact (show mi = 45 by omega) ▸ xokm_45
            ·
              rcases Nat.lt_or_ge mi 47 with h47 | h47
              ·
                exact (show mi = 46 by omega) ▸ xokm_46
              ·
                exact (show mi = 47 by omega) ▸ xokm_47
      ·
        rcases Nat.lt_or_ge mi 56 with h56 | h56
        ·
          rcases Nat.lt_or_ge mi 52 with h52 | h52
          ·
            rcases Nat.lt_or_ge mi 50 with h50 | h50
            ·
              rcases Nat.lt_or_ge mi 49 with h49 | h49
              ·
                exact (show mi = 48 by omega) ▸ xokm_48
              ·
                exact (show mi = 49 by omega) ▸ xokm_49
            ·
              rcases Nat.lt_or_ge mi 51 with h51 | h51
              ·
                exact (show mi = 50 by omega) ▸ xokm_50
              ·
                exact (show mi = 51 by omega) ▸ xokm_51
          ·
            rcases Nat.lt_or_ge mi 54 with h54 | h54
            ·
              rcases Nat.lt_or_ge mi 53 with h53 | h53
              ·
                exact (show mi = 52 by omega) ▸ xokm_52
              ·
                exact (show mi = 53 by omega) ▸ xokm_53
            ·
              rcases Nat.lt_or_ge mi 55 with h55 | h55
              ·
                exact (show mi = 54 by omega) ▸ xokm_54
              ·
                exact (show mi = 55 by omega) ▸ xokm_55
        ·
          rcases Nat.lt_or_ge mi 60 with h60 | h60
          ·
            rcases Nat.lt_or_ge mi 58 with h58 | h58
            ·
              rcases Nat.lt_or_ge mi 57 with h57 | h57
              ·
                exact (show mi = 56 by omega) ▸ xokm_56
              ·
                exact (show mi = 57 by omega) ▸ xokm_57
            ·
              rcases Nat.lt_or_ge mi 59 with h59 | h59
              ·
                exact (show mi = 58 by omega) ▸ xokm_58
              ·
                exact (show mi = 59 by omega) ▸ xokm_59
          ·
            rcases Nat.lt_or_ge mi 62 with h62 | h62
            ·
              rcases Nat.lt_or_ge mi 61 with h61 | h61
              ·
                exact (show mi = 60 by omega) ▸ xokm_60
              ·
                exact (show mi = 61 by omega) ▸ xokm_61
            ·
              rcases Nat.lt_or_ge mi 63 with h63 | h63
              ·
                exact (show mi = 62 by omega) ▸ xokm_62
              ·
                exact (show mi = 63 by omega) ▸ xokm_63
  ·
    rcases Nat.lt_or_ge mi 96 with h96 | h96
    ·
      rcases Nat.lt_or_ge mi 80 with h80 | h80
      ·
        rcases Nat.lt_or_ge mi 72 with h72 | h72
        ·
          rcases Nat.lt_or_ge mi 68 with h68 | h68
          ·
            rcases Nat.lt_or_ge mi 66 with h66 | h66
            ·
              rcases Nat.lt_or_ge mi 65 with h65 | h65
              ·
                exact (show mi = 64 by omega) ▸ xokm_64
              ·
                exact (show mi = 65 by omega) ▸ xokm_65
            ·
              rcases Nat.lt_or_ge mi 67 with h67 | h67
              ·
                exact (show mi = 66 by omega) ▸ xokm_66
              ·
                exact (show mi = 67 by omega) ▸ xokm_67
          ·
            rcases Nat.lt_or_ge mi 70 with h70 | h70
            ·
              rcases Nat.lt_or_ge mi 69 with h69 | h69
              ·
                exact (show mi = 68 by omega) ▸ xokm_68
              ·
                exact (show mi = 69 by omega) ▸ xokm_69
            ·
              rcases Nat.lt_or_ge mi 71 with h71 | h71
              ·
                exact (show mi = 70 by omega) ▸ xokm_70
              ·
                exact (show mi = 71 by omega) ▸ xokm_71
        ·
          rcases Nat.lt_or_ge mi 76 with h76 | h76
          ·
            rcases Nat.lt_or_ge mi 74 with h74 | h74
            ·
              rcases Nat.lt_or_ge mi 73 with h73 | h73
              ·
                exact (show mi = 72 by omega) ▸ xokm_72
              ·
                exact (show mi = 73 by omega) ▸ xokm_73
            ·
              rcases Nat.lt_or_ge mi 75 with h75 | h75
              ·
                exact (show mi = 74 by omega) ▸ xokm_74
              ·
                exact (show mi = 75 by omega) ▸ xokm_75
          ·
            rcases Nat.lt_or_ge mi 78 with h78 | h78
            ·
              rcases Nat.lt_or_ge mi 77 with h77 | h77
              ·
                exact (show mi = 76 by omega) ▸ xokm_76
              ·
                exact (show mi = 77 by omega) ▸ xokm_77
            ·
              rcases Nat.lt_or_ge mi 79 with h79 | h79
              ·
                exact (show mi = 78 by omega) ▸ xokm_78
              ·
                exact (show mi = 79 by omega) ▸ xokm_79
      ·
        rcases Nat.lt_or_ge mi 88 with h88 | h88
        ·
          rcases Nat.lt_or_ge mi 84 with h84 | h84
          ·
            rcases Nat.lt_or_ge mi 82 with h82 | h82
            ·
              rcases Nat.lt_or_ge mi 81 with h81 | h81
              ·
                exact (show mi = 80 by omega) ▸ xokm_80
              ·
                exact (show mi = 81 by omega) ▸ xokm_81
            ·
              rcases Nat.lt_or_ge mi 83 with h83 | h83
              ·
                exact (show mi = 82 by omega) ▸ xokm_82
              ·
                exact (show mi = 83 by omega) ▸ xokm_83
          ·
            rcases Nat.lt_or_ge mi 86 with h86 | h86
            ·
              rcases Nat.lt_or_ge mi 85 with h85 | h85
              ·
                exact (show mi = 84 by omega) ▸ xokm_84
              ·
                exact (show mi = 85 by omega) ▸ xokm_85
            ·
              rcases Nat.lt_or_ge mi 87 with h87 | h87
              ·
                exact (show mi = 86 by omega) ▸ xokm_86
              ·
                exact (show mi = 87 by omega) ▸ xokm_87
        ·
          rcases Nat.lt_or_ge mi 92 with h92 | h92
          ·
            rcases Nat.lt_or_ge mi 90 with h90 | h90
            ·
              rcases Nat.lt_or_ge mi 89 with h89 | h89
              ·
                exact (show mi = 88 by omega) ▸ xokm_88
              ·
                exact (show mi = 89 by omega) ▸ xokm_89
            ·
              rcases Nat.lt_or_ge mi 91 with h91 | h91
              ·
                exact (show mi = 90 by omega) ▸ xokm_90
              ·
                exact (show mi = 91 by omega) ▸ xokm_91
          ·
            rcases Nat.lt_or_ge mi 94 with h94 | h94
            ·
              rcases Nat.lt_or_ge mi 93 with h93 | h93
              ·
                exact (show mi = 92 by omega) ▸ xokm_92
              ·
                exact (show mi = 93 by omega) ▸ xokm_93
            ·
              rcases Nat.lt_or_ge mi 95 with h95 | h95
              ·
                exact (show mi = 94 by omega) ▸ xokm_94
              ·
                exact (show mi = 95 by omega) ▸ xokm_95
    ·
      rcases Nat.lt_or_ge mi 112 with h112 | h112
      ·
        rcases Nat.lt_or_ge mi 104 with h104 | h104
        ·
          rcases Nat.lt_or_ge mi 100 with h100 | h100
          ·
            rcases Nat.lt_or_ge mi 98 with h98 | h98
            ·
              rcases Nat.lt_or_ge mi 97 with h97 | h97
              ·
                exact (show mi = 96 by omega) ▸ xokm_96
              ·
                exact (show mi = 97 by omega) ▸ xokm_97
            ·
              rcases Nat.lt_or_ge mi 99 with h99 | h99
              ·
                exact (show mi = 98 by omega) ▸ xokm_98
              ·
                exact (show mi = 99 by omega) ▸ xokm_99
          ·
            rcases Nat.lt_or_ge mi 102 with h102 | h102
            ·
              rcases Nat.lt_or_ge mi 101 with h101 | h101
              ·
                exact (show mi = 100 by omega) ▸ xokm_100
              ·
                exact (show mi = 101 by omega) ▸ xokm_101
            ·
              rcases Nat.lt_or_ge mi 103 with h103 | h103
              ·
                exact (show mi = 102 by omega) ▸ xokm_102
              ·
                exact (show mi = 103 by omega) ▸ xokm_103
        ·
          rcases Nat.lt_or_ge mi 108 with h108 | h108
          ·
            rcases Nat.lt_or_ge mi 106 with h106 | h106
            ·
              rcases Nat.lt_or_ge mi 105 with h105 | h105
              ·
                exact (show mi = 104 by omega) ▸ xokm_104
              ·
                exact (show mi = 105 by omega) ▸ xokm_105
            ·
              rcases Nat.lt_or_ge mi 107 with h107 | h107
              ·
                exact (show mi = 106 by omega) ▸ xokm_106
              ·
                exact (show mi = 107 by omega) ▸ xokm_107
          ·
            rcases Nat.lt_or_ge mi 110 with h110 | h110
            ·
              rcases Nat.lt_or_ge mi 109 with h109 | h109
              ·
                exact (show mi = 108 by omega) ▸ xokm_108
              ·
                exact (show mi = 109 by omega) ▸ xokm_109
            ·
              rcases Nat.lt_or_ge mi 111 with h111 | h111
              ·
                exact (show mi = 110 by omega) ▸ xokm_110
              ·
                exact (show mi = 111 by omega) ▸ xokm_111
      ·
        rcases Nat.lt_or_ge mi 120 with h120 | h120
        ·
          rcases Nat.lt_or_ge mi 116 with h116 | h116
          ·
            rcases Nat.lt_or_ge mi 114 with h114 | h114
            ·
              rcases Nat.lt_or_ge mi 113 with h113 | h113
              ·
                exact (show mi = 112 by omega) ▸ xokm_112
              ·
                exact (show mi = 113 by omega) ▸ xokm_113
            ·
              rcases Nat.lt_or_ge mi 115 with h115 | h115
              ·
                exact (show mi = 114 by omega) ▸ xokm_114
              ·
                exact (show mi = 115 by omega) ▸ xokm_115
          ·
            rcases Nat.lt_or_ge mi 118 with h118 | h118
            ·
              rcases Nat.lt_or_ge mi 117 with h117 | h117
              ·
                exact (show mi = 116 by omega) ▸ xokm_116
              ·
                exact (show mi = 117 by omega) ▸ xokm_117
            ·
              rcases Nat.lt_or_ge mi 119 with h119 | h119
              ·
                exact (show mi = 118 by omega) ▸ xokm_118
              ·
                exact (show mi = 119 by omega) ▸ xokm_119
        ·
          rcases Nat.lt_or_ge mi 124 with h124 | h124
          ·
            rcases Nat.lt_or_ge mi 122 with h122 | h122
            ·
              rcases Nat.lt_or_ge mi 121 with h121 | h121
              ·
                exact (show mi = 120 by omega) ▸ xokm_120
              ·
                exact (show mi = 121 by omega) ▸ xokm_121
            ·
              rcases Nat.lt_or_ge mi 123 with h123 | h123
              ·
                exact (show mi = 122 by omega) ▸ xokm_122
              ·
                exact (show mi = 123 by omega) ▸ xokm_123
          ·
            rcases Nat.lt_or_ge mi 126 with h126 | h126
            ·
              rcases Nat.lt_or_ge mi 125 with h125 | h125
              ·
                exact (show mi = 124 by omega) ▸ xokm_124
              ·
                exact (show mi = 125 by omega) ▸ xokm_125
            ·
              rcases Nat.lt_or_ge mi 127 with h127 | h127
              ·
                exact (show mi = 126 by omega) ▸ xokm_126
              ·
                rcases Nat.lt_or_ge mi 128 with h128 | h128
                ·
                  exact (show mi = 127 by omega) ▸ xokm_127
                ·
                  exact (show mi = 128 by omega) ▸ xokm_128
theorem xnth_of_le {α : Type} : ∀ (l : List α) (n : Nat) (d : α), l.length ≤ n → xnth l n d = d
  | [], _, _, _ => rfl
  | _ :: t, 0, _, h => by simp at h
  | _ :: t, n + 1, d, h => xnth_of_le t n d (by simpa using h)
theorem xnth_get {α : Type} : ∀ (l : List α) (n : Nat) (d : α), xnth l n d = l.getD n d
  | [], _, _ => by simp [xnth]
  | _ :: t, 0, _ => by simp [xnth]
  | _ :: t, n + 1, d => by simp [xnth, xnth_get t n d]
set_option maxRecDepth 100000 in
theorem xlens : (List.range 129).all (fun mi => decide ((xnth xprog mi []).length ≤ xmi mi 9)) = true := by decide +kernel
theorem xins_ok (mi pc : Nat) : xokb (xy mi).cls (decide ((xy mi).name = "<init>")) (xmi mi 0) (xb mi) mi pc (xins mi pc) = true := by
  by_cases h : mi < 129
  · by_cases hp : pc < xmi mi 9
    · exact List.all_eq_true.mp (xok_all mi h) pc (List.mem_range.mpr hp)
    · have h1 := List.all_eq_true.mp xlens mi (List.mem_range.mpr h)
      have h2 : xins mi pc = (0, 0, 0, 0) := xnth_of_le _ _ _ (Nat.le_trans (of_decide_eq_true h1) (Nat.not_lt.mp hp))
      rw [h2]; rfl
  · have h1 : xnth xprog mi [] = [] := xnth_of_le _ _ _ (by have : xprog.length = 129 := rfl; omega)
    have h2 : xins mi pc = (0, 0, 0, 0) := by unfold xins; rw [h1]; rfl
    rw [h2]; rfl
theorem xwd_mem {i : Nat} {w : Jvm.Cond} (h : xwd i = some w) : w ∈ lw_tbl := List.mem_of_getElem? h
def xkp (w : Jvm.Cond) : Bool := goodWord w || (match w with
  | .fieldLinkNest .. => true
  | .methodLinkNest .. => true
  | .arrayOver _ => true
  | _ => false)
def xwl : List Jvm.Cond := lw_tbl.filter xkp
set_option maxRecDepth 100000 in
theorem xus_0 : ∀ w ∈ u_ws RX0 TX0 2, w ∈ xwl := by decide +kernel
set_option maxRecDepth 100000 in
theorem xus_1 : ∀ w ∈ u_ws RX1 TX1 3, w ∈ xwl := by decide +kernel
set_option maxRecDepth 100000 in
theorem xus_2 : ∀ w ∈ u_ws RX3 TX3 9, w ∈ xwl := by decide +kernel
set_option maxRecDepth 100000 in
theorem xus_3 : ∀ w ∈ u_ws RX4 TX4 7, w ∈ xwl := by decide +kernel
set_option maxRecDepth 100000 in
theorem xus_4 : ∀ w ∈ u_ws RX5 TX5 8, w ∈ xwl := by decide +kernel
set_option maxRecDepth 100000 in
theorem xus_5 : ∀ w ∈ u_ws RX6 TX6 3, w ∈ xwl := by decide +kernel
set_option maxRecDepth 100000 in
theorem xus_6 : ∀ w ∈ u_ws RX7 TX7 4, w ∈ xwl := by decide +kernel
set_option maxRecDepth 100000 in
theorem xus_7 : ∀ w ∈ u_ws RX8 TX8 23, w ∈ xwl := by decide +kernel
def xiw : List (Nat × Nat) := [(225, 74), (182, 71), (219, 73), (96, 69), (89, 68), (201, 72), (81, 67), (656, 75)]
theorem xiw_ok : (List.range 8).all (fun c => decide (xwd (xnth xiw c (0, 0)).1 = some (.instantiable (xCn c) (xN c))) && decide (xwd (xnth xiw c (0, 0)).2 = some (.initialized (xCn c)))) = true := by decide +kernel
set_option maxRecDepth 100000 in
theorem xw_int : xwd 134 = some (.arrayClass .int) := rfl
set_option maxRecDepth 100000 in
theorem xw_reed : xwd 95 = some (.arrayOver (.object "ReedBench$Reed")) := rfl
set_option maxRecDepth 100000 in
theorem xw_state : xwd 188 = some (.arrayOver (.object "ReedBench$State")) := rfl
set_option maxRecDepth 100000 in
theorem xw_aint : xwd 207 = some (.arrayOver (.array .int)) := rfl
set_option maxRecDepth 100000 in
theorem xw_nat : xwd 306 = some (.native arraycopyName) := rfl
set_option maxRecDepth 100000 in
theorem xw_cst : xwd 305 = some (.static arraycopyName) := rfl
set_option maxRecDepth 100000 in
theorem xw_csi : xwd 76 = some (.initialized "java/lang/System") := rfl
set_option maxRecDepth 100000 in
theorem xw_obi : xwd 86 = some (.instanceMethod objectInit) := rfl
set_option maxRecDepth 100000 in
theorem xw_obc : xwd 87 = some (.code objectInit ⟨#[0xb1]⟩ 1 none) := rfl
set_option maxRecDepth 100000 in
theorem xw_mis : xwd 308 = some (.static Lib.Math.min.name) := rfl
set_option maxRecDepth 100000 in
theorem xw_mic : xwd 309 = some (.code Lib.Math.min.name Lib.Math.min.code 2 (some .int)) := rfl
set_option maxRecDepth 100000 in
theorem xw_mas : xwd 449 = some (.static Lib.Math.max.name) := rfl
set_option maxRecDepth 100000 in
theorem xw_mac : xwd 450 = some (.code Lib.Math.max.name Lib.Math.max.code 2 (some .int)) := rfl
set_option maxRecDepth 100000 in
theorem xw_mai : xwd 77 = some (.initialized "java/lang/Math") := rfl
end
section
/-! ===== the pure memory against the heap ===== -/
abbrev xB : Type := va_G × (ClassId × ClassId × ClassId × ClassId) × Nat × Nat × Nat
def xba (B : xB) : Nat := B.2.2.2.2
def xA (B : xB) : Nat → Prop := fun q => xba B ≤ q
def xad (B : xB) (a : Nat) : Nat := if a = 1 then B.2.2.1 else if a = 2 then B.2.2.2.1 else xba B + (a - 3)
def xro (B : xB) (a : Nat) : Option Nat := if a = 0 then none else some (xad B a)
def xr (B : xB) : xV → Value
  | .inl x => .int (Int32.ofInt x)
  | .inr a => va_rf (xro B a)
theorem xr_ref (B : xB) (a : Nat) : xr B (.inr (a + 1)) = .ref (xad B (a + 1)) := by simp [xr, xro, va_rf]
theorem xr_cat (B : xB) (v : xV) : (xr B v).category = 1 := by
  cases v with
  | inl x => rfl
  | inr a => cases a <;> simp [xr, xro, va_rf, Value.category]
def xtys (B : xB) : List (ClassId × FieldType) := [(B.2.1.1, .int), (B.2.1.2.1, .object "ReedBench$Reed"), (B.2.1.2.2.1, .object "ReedBench$State"), (B.2.1.2.2.2, .array .int)]
def xfs (B : xB) (M : xM) (a ci : Nat) : List Value := (List.range (xN ci)).map (fun i => if xrf ci i then xr B (.inr ((xat M a).2.2 i)) else .int (Int32.ofInt (M.2 a i)))
def xra (B : xB) (M : xM) (a : Nat) : Nat → Option Nat := fun i => xro B ((xat M a).2.2 i)
def xce (B : xB) (M : xM) (a : Nat) : va_E := match (xat M a).1 with
  | 1 => .inl (B.2.1.1, (xat M a).2.1, .inl (fun i => Int32.ofInt (M.2 a i)))
  | 2 => .inl (B.2.1.2.1, (xat M a).2.1, .inr (.inr (.inr (.inr (xra B M a)))))
  | 3 => .inl (B.2.1.2.2.1, (xat M a).2.1, .inr (.inr (.inr (.inr (xra B M a)))))
  | 4 => .inl (B.2.1.2.2.2, (xat M a).2.1, .inr (.inr (.inr (.inr (xra B M a)))))
  | k => .inr (k - 10, xfs B M a (k - 10))
def xws (B : xB) (M : xM) : va_W := (List.range (M.1.length - 3)).map (fun k => (xad B (k + 3), xce B M (k + 3)))
def xX (B : xB) (M : xM) (U : State) (H : Heap) (a : Nat) : Prop := xad B a < xba B ∧ (xat M a).1 = 5 ∧ ∃ scr : Cell, H[xad B a]? = some scr ∧ U.isArrayOf scr .int ∧ scr.vm ≠ .unknown ∧ ((xat M a).2.1 ≤ scr.slots.size ∧ scr.slots.size.toInt32 = Int32.ofNat (xat M a).2.1) ∧ ∀ j : Nat, j < (xat M a).2.1 → scr.slots[j]? = some (.int (Int32.ofInt (M.2 a j)))
def xR (B : xB) (U : State) (M : xM) (H : Heap) : Prop :=
  3 ≤ M.1.length ∧ H.size = xba B + (M.1.length - 3) ∧ va_P B.1 xcl (xws B M) H ∧ (xat M 0).1 = 0 ∧ xX B M U H 1 ∧ xX B M U H 2 ∧ ∀ q, 3 ≤ q → (xat M q).1 ≠ 5
theorem xat_lt {M : xM} {a k : Nat} (h : (xat M a).1 = k) (hk : k ≠ 0) : a < M.1.length := by
  rcases Nat.lt_or_ge a M.1.length with q | q
  · exact q
  · exact absurd (by rw [← h]; unfold xat; rw [xnth_of_le _ _ _ q]) (Ne.symm hk)
theorem xR.low {B : xB} {U : State} {M : xM} {H : Heap} (h : xR B U M H) {a k : Nat} (ha : (xat M a).1 = k) (h0 : k ≠ 0) (h5 : k ≠ 5) : 3 ≤ a ∧ a < M.1.length := by
  refine ⟨?_, xat_lt ha h0⟩
  obtain ⟨-, -, -, e0, e1, e2, -⟩ := h
  match a, ha with
  | 0, ha => rw [e0] at ha; exact absurd ha.symm h0
  | 1, ha => rw [e1.2.1] at ha; exact absurd ha.symm h5
  | 2, ha => rw [e2.2.1] at ha; exact absurd ha.symm h5
  | a + 3, _ => omega
theorem xws_at {B : xB} {M : xM} {a : Nat} (h : 3 ≤ a ∧ a < M.1.length) : (xws B M)[a - 3]? = some (xad B a, xce B M a) := by
  unfold xws
  rw [List.getElem?_map, List.getElem?_range (by omega)]
  simp [show a - 3 + 3 = a by omega]
theorem xad_ge {B : xB} {a : Nat} (h : 3 ≤ a) : xad B a = xba B + (a - 3) := by
  unfold xad; rw [if_neg (by omega), if_neg (by omega)]
theorem xws_D (B : xB) (M : xM) : va_D (xA B) (xws B M) := by
  have key : ∀ (k : Nat) (q : Nat × va_E), (xws B M)[k]? = some q → q.1 = xba B + k := by
    intro k q hk
    unfold xws at hk
    rw [List.getElem?_map] at hk
    cases hr : (List.range (M.1.length - 3))[k]? with
    | none => rw [hr] at hk; cases hk
    | some j =>
      rw [hr] at hk
      have hj : j = k := by
        have := List.getElem?_eq_some_iff.mp hr
        obtain ⟨h1, h2⟩ := this
        simpa using h2.symm
      subst hj
      have : (xad B (j + 3), xce B M (j + 3)) = q := Option.some.inj hk
      rw [← this]
      show xad B (j + 3) = _
      rw [xad_ge (by omega)]
      omega
  refine ⟨fun i j p q hi hj hpq => ?_, fun k q hk => ?_⟩
  · have := key i p hi; have := key j q hj; omega
  · rw [key k q hk]; exact Nat.le_add_right _ _
/-- a world that differs at one cell -/
theorem xws_set {B : xB} {M M' : xM} {a : Nat} {e : va_E} (ha : 3 ≤ a ∧ a < M.1.length) (hl : M'.1.length = M.1.length) (he : xce B M' a = e) (ho : ∀ q, q ≠ a → xce B M' q = xce B M q) : xws B M' = (xws B M).set (a - 3) (xad B a, e) := by
  apply List.ext_getElem?
  intro k
  have hlen : (xws B M).length = M.1.length - 3 := by simp [xws]
  by_cases hk : k = a - 3
  · subst hk
    rw [List.getElem?_set_self (by rw [hlen]; omega), xws_at (M := M') (by omega), he]
  · rw [List.getElem?_set_ne (Ne.symm hk)]
    unfold xws
    rw [List.getElem?_map, List.getElem?_map, hl]
    by_cases h2 : k < M.1.length - 3
    · rw [List.getElem?_range h2]
      simp only [Option.map_some]
      rw [ho (k + 3) (by omega)]
    · have : (List.range (M.1.length - 3))[k]? = none := List.getElem?_eq_none (by simp; omega)
      rw [this]; rfl
theorem xws_app {B : xB} {M M' : xM} {cs : List xC} (h3 : 3 ≤ M.1.length) (hl : M'.1 = M.1 ++ cs) (ho : ∀ q, q < M.1.length → xce B M' q = xce B M q) : xws B M' = xws B M ++ (List.range cs.length).map (fun k => (xad B (M.1.length + k), xce B M' (M.1.length + k))) := by
  apply List.ext_getElem?
  intro k
  have hlen : (xws B M).length = M.1.length - 3 := by simp [xws]
  have hl' : M'.1.length = M.1.length + cs.length := by rw [hl, List.length_append]
  by_cases hk : k < M.1.length - 3
  · rw [List.getElem?_append_left (by omega)]
    have h1 := xws_at (B := B) (M := M') (a := k + 3) (by omega)
    have h2 := xws_at (B := B) (M := M) (a := k + 3) (by omega)
    rw [show k + 3 - 3 = k by omega] at h1 h2
    rw [h1, h2, ho _ (by omega)]
  · rw [List.getElem?_append_right (by omega), hlen, List.getElem?_map]
    by_cases h2 : k - (M.1.length - 3) < cs.length
    · rw [List.getElem?_range h2]
      have h1 := xws_at (B := B) (M := M') (a := k + 3) (by omega)
      rw [show k + 3 - 3 = k by omega] at h1
      rw [h1]
      simp only [Option.map_some]
      rw [show M.1.length + (k - (M.1.length - 3)) = k + 3 by omega]
    · have e1 : (List.range cs.length)[k - (M.1.length - 3)]? = none := List.getElem?_eq_none (by simp; omega)
      have e2 : (xws B M')[k]? = none := List.getElem?_eq_none (by simp [xws]; omega)
      rw [e1, e2]; rfl
theorem xat_wr (M : xM) (p i q : Nat) (v : Int) : xat (xwr M p i v) q = xat M q := rfl
theorem xce_wr_ne (B : xB) (M : xM) {p i q : Nat} (v : Int) (h : q ≠ p) : xce B (xwr M p i v) q = xce B M q := by
  unfold xce xfs xra
  simp only [xat_wr]
  have e : (xwr M p i v).2 q = M.2 q := by funext j; simp [xwr, h]
  rw [e]
theorem xnth_set_ne {α : Type} {d : α} : ∀ (l : List α) (a q : Nat) (v : α), q ≠ a → xnth (l.set a v) q d = xnth l q d
  | [], _, _, _, _ => by simp
  | x :: t, 0, 0, v, h => absurd rfl h
  | x :: t, 0, q + 1, v, _ => rfl
  | x :: t, a + 1, 0, v, _ => rfl
  | x :: t, a + 1, q + 1, v, h => xnth_set_ne t a q v (by omega)
theorem xnth_set_self {α : Type} {d : α} : ∀ (l : List α) (a : Nat) (v : α), a < l.length → xnth (l.set a v) a d = v
  | [], _, _, h => by simp at h
  | x :: t, 0, v, _ => rfl
  | x :: t, a + 1, v, h => xnth_set_self t a v (by simpa using h)
theorem xnth_app {α : Type} {d : α} : ∀ (l r : List α) (a : Nat), a < l.length → xnth (l ++ r) a d = xnth l a d
  | [], _, _, h => by simp at h
  | x :: t, _, 0, _ => rfl
  | x :: t, r, a + 1, h => xnth_app t r a (by simpa using h)
theorem xnth_app2 {α : Type} {d : α} : ∀ (l r : List α) (a : Nat), xnth (l ++ r) (l.length + a) d = xnth r a d
  | [], _, a => by simp
  | x :: t, r, a => by
    rw [show (x :: t).length + a = (t.length + a) + 1 by simp; omega]
    exact xnth_app2 t r a
theorem xat_wref_ne (M : xM) {p i r q : Nat} (h : q ≠ p) : xat (xwref M p i r) q = xat M q := xnth_set_ne _ _ _ _ h
theorem xat_wref (M : xM) {p : Nat} (i r : Nat) (h : p < M.1.length) : xat (xwref M p i r) p = ((xat M p).1, (xat M p).2.1, fun j => if j = i then r else (xat M p).2.2 j) := xnth_set_self _ _ _ h
theorem xce_wref_ne (B : xB) (M : xM) {p i r q : Nat} (h : q ≠ p) : xce B (xwref M p i r) q = xce B M q := by
  unfold xce xfs xra
  rw [xat_wref_ne M h]
  rfl
/-- what a heap change above the base leaves -/
theorem xX.kept {B : xB} {M M' : xM} {U : State} {H H1 : Heap} {a : Nat} (h : xX B M U H a) (hq : ∀ q, q < xba B → H1[q]? = H[q]?) (h1 : xat M' a = xat M a) (h2 : M'.2 a = M.2 a) : xX B M' U H1 a := by
  obtain ⟨e1, e2, scr, e3, e4⟩ := h
  unfold xX
  rw [h1, h2]
  exact ⟨e1, e2, scr, by rw [hq _ e1]; exact e3, e4⟩
theorem xX.moved {B : xB} {M : xM} {u U : State} {H : Heap} {a : Nat} (hvm : u.vm.Alike U.vm) (h : xX B M u H a) : xX B M U H a := by
  obtain ⟨e1, e2, scr, e3, e4, e5⟩ := h
  exact ⟨e1, e2, scr, e3, State.isArrayOf_alike hvm e4, e5⟩
theorem xR.moved {B : xB} {M : xM} {u U : State} {H : Heap} (hvm : u.vm.Alike U.vm) (h : xR B u M H) : xR B U M H := ⟨h.1, h.2.1, h.2.2.1, h.2.2.2.1, h.2.2.2.2.1.moved hvm, h.2.2.2.2.2.1.moved hvm, h.2.2.2.2.2.2⟩
/-- one cell is changed -/
theorem xR.upd {B : xB} {U : State} {M M' : xM} {H H1 : Heap} {a : Nat} {e : va_E} (h : xR B U M H) (ha : 3 ≤ a ∧ a < M.1.length) (hl : M'.1.length = M.1.length) (h0 : ∀ q, q ≠ a → xat M' q = xat M q) (hf : ∀ q, q ≠ a → M'.2 q = M.2 q) (he : xce B M' a = e) (ho : ∀ q, q ≠ a → xce B M' q = xce B M q) (hP : va_P B.1 xcl ((xws B M).set (a - 3) (xad B a, e)) H1) (hz : H1.size = H.size) (hk : ∀ q, q < xba B → H1[q]? = H[q]?) (h5 : (xat M' a).1 ≠ 5) : xR B U M' H1 := by
  obtain ⟨e1, e2, e3, e4, e5, e6, e7⟩ := h
  refine ⟨by omega, by rw [hz, e2, hl], ?_, by rw [h0 0 (by omega)]; exact e4, e5.kept hk (h0 1 (by omega)) (hf 1 (by omega)), e6.kept hk (h0 2 (by omega)) (hf 2 (by omega)), fun q hq => by
    by_cases e : q = a
    · rw [e]; exact h5
    · rw [h0 q e]; exact e7 q hq⟩
  rw [xws_set ha hl he ho]
  exact hP
/-! ===== the state at a step ===== -/
def xlh (B : xB) (Ls : Array Slot) (n : Nat) (ls : xL) : Prop := Ls.size = n ∧ lv_wf Ls ∧ ∀ (i : Nat) (v : xV), xnth ls i none = some v → Ls[i]? = some (.val (xr B v))
def xll (B : xB) (ls : xL) : List (Nat × Value) := (List.range ls.length).filterMap (fun i => (xnth ls i none).map (fun v => (i, xr B v)))
theorem xlh.has {B : xB} {Ls : Array Slot} {n : Nat} {ls : xL} (h : xlh B Ls n ls) : lv_has Ls n (xll B ls) := by
  refine ⟨h.1, h.2.1, fun q hq => ?_⟩
  obtain ⟨i, -, hi⟩ := List.mem_filterMap.mp hq
  cases hv : xnth ls i none with
  | none => rw [hv] at hi; cases hi
  | some v =>
    rw [hv] at hi
    cases hi
    exact h.2.2 i v hv
theorem xll_mem {B : xB} {ls : xL} {i : Nat} {v : xV} (h : xnth ls i none = some v) : (i, xr B v) ∈ xll B ls := by
  refine List.mem_filterMap.mpr ⟨i, List.mem_range.mpr ?_, by rw [h]; rfl⟩
  rcases Nat.lt_or_ge i ls.length with q | q
  · exact q
  · rw [xnth_of_le _ _ _ q] at h; cases h
theorem xlh.store {B : xB} {Ls' : Array Slot} {n i : Nat} {ls : xL} {v : xV} (h : lv_has Ls' n ((i, xr B v) :: (xll B ls).filter (fun q => !(q.1 == i) && !(q.1 + 1 == i && q.2.category == 2)))) : xlh B Ls' n (ls.set i (some v)) := by
  refine ⟨h.1, h.2.1, fun j w hw => ?_⟩
  by_cases hj : j = i
  · subst hj
    have hl : j < ls.length := by
      rcases Nat.lt_or_ge j ls.length with q | q
      · exact q
      · rw [List.set_eq_of_length_le q, xnth_of_le _ _ _ q] at hw; cases hw
    rw [xnth_set_self _ _ _ hl] at hw
    cases hw
    exact h.2.2 (j, xr B v) List.mem_cons_self
  · rw [xnth_set_ne _ _ _ _ hj] at hw
    refine h.2.2 (j, xr B w) (List.mem_cons_of_mem _ (List.mem_filter.mpr ⟨xll_mem hw, ?_⟩))
    simp [hj, xr_cat]
/-- what the tables say, kept by every call -/
def xTB (U : State) : Prop := ∀ w ∈ lw_tbl, xkp w = true → ∀ A : Array Value, w.before A U = true
theorem xTB.get {U : State} (h : xTB U) {i : Nat} {w : Jvm.Cond} (hi : xwd i = some w) (hk : xkp w = true) (A : Array Value) : w.before A U = true := h w (xwd_mem hi) hk A
theorem xTB.ws {U : State} (h : xTB U) (A : Array Value) : ∀ w ∈ xwl, w.before A U = true := fun w hw => h w (List.mem_filter.mp hw).1 (List.mem_filter.mp hw).2 A
theorem xkp_cases {w : Jvm.Cond} (h : xkp w = true) : goodWord w = true ∨ (∃ a i b n d e, w = .fieldLinkNest a i b n d e) ∨ (∃ a i x e, w = .methodLinkNest a i x e) ∨ ∃ t, w = .arrayOver t := by
  unfold xkp at h
  rw [Bool.or_eq_true] at h
  rcases h with h | h
  · exact Or.inl h
  · right
    split at h
    · exact Or.inl ⟨_, _, _, _, _, _, rfl⟩
    · exact Or.inr (Or.inl ⟨_, _, _, _, rfl⟩)
    · exact Or.inr (Or.inr ⟨_, rfl⟩)
    · cases h
theorem xTB.warm {s U : State} (hW : s.WarmedH U.vm) (h : xTB s) : xTB U := by
  intro w hw hk A
  have h0 := h w hw hk
  rcases xkp_cases hk with g | ⟨a, i, b, n, d, e, rfl⟩ | ⟨a, i, x, e, rfl⟩ | ⟨t, rfl⟩
  · exact word_at hW (good_of_word g) (h0 #[])
  · exact va_Nw.use rfl (va_Nw.warmF hW (h0 #[]))
  · exact va_Nw.use rfl (va_Nw.warmM hW (h0 #[]))
  · have h1 := Cond.overAtom_setVm (args := #[]) (s := s) (vm' := U.vm) hW.alike (.arrayOver t) rfl (h0 #[])
    exact h1
def xE (B : xB) (U : State) (H : Heap) : Prop := va_K B.1 xcl (xtys B) U ∧ xTB U ∧ xba B ≤ H.size ∧ va_Z "ReedBench" "ABOVE_KEY" "[I" (.ref (xad B 2)) (xA B) U H
end
section
/-! ===== one instruction of the pure machine is one of the machine ===== -/
def xCx (p : Program) (R : Room) (s : State) (m : MethodId) (meth : Method) (c : Code) (mi : Nat) : Prop :=
  p.tables.exec = Jvm.exec ∧ c.code = xb mi ∧ c.maxLocals = xmi mi 0 ∧ s.vm.findClass (xy mi).cls = some m.cls ∧ meth.locks = false ∧ meth.sig.returnType = xret mi ∧ ((xy mi).name = "<init>" → meth.name = "<init>") ∧ (xmi mi 5 ≤ R.frames ∧ xmi mi 6 ≤ R.locals ∧ xmi mi 7 ≤ R.cells ∧ xmi mi 8 ≤ R.slots)
section XSN
variable {p : Program} {l : Launch} {e : Env} {R : Room} {s : State} {m : MethodId} {args : Array Value} {below : List Frame} {meth : Method} {c : Code} {Q : State → Prop} {B : xB} {mi : Nat}
def xW (B : xB) (p : Program) (l : Launch) (e : Env) (R : Room) (s : State) (m : MethodId) (args : Array Value) (below : List Frame) (meth : Method) (c : Code) (mi : Nat) (Q : State → Prop) (pc : Nat) (k : Nat × Nat) (ls : xL) (st : List xV) (M : xM) : Prop :=
  ∀ (H : Heap) (locs : List Loc) (Ls : Array Slot), xR B s M H → va_S (xA B) s.heap H locs → xlh B Ls (xmi mi 0) ls → W p l e R s m args below meth c H locs k.1 k.2 Q (F0 m pc Ls (st.map (xr B)))
theorem xdc_eq {cc : ByteArray} {pc n : Nat} {i : Instr} (h : xdc cc pc i n = true) : decode cc pc = .ok (i, n) := of_decide_eq_true h
theorem xfin {b : Nat} (h : b < 4) : ((Fin.ofNat 4 b : Fin 4) : Nat) = b := Nat.mod_eq_of_lt h
theorem xti {x : Int} (h : xok x) : (Int32.ofInt x).toInt = x := Int32.toInt_ofInt_of_le (by obtain ⟨h1, -⟩ := h; simpa using h1) (by obtain ⟨-, h2⟩ := h; simpa using (show x < 2147483648 by omega))
theorem xi_eq {x y : Int} (h : (xok x ∧ xok y) ∨ x = y) : Int32.ofInt x = Int32.ofInt y ↔ x = y := by
  rcases h with ⟨h1, h2⟩ | h
  · exact ⟨fun q => by rw [← xti h1, ← xti h2, q], fun q => by rw [q]⟩
  · simp [h]
theorem xi_lt {x y : Int} (h1 : xok x) (h2 : xok y) : Int32.ofInt x < Int32.ofInt y ↔ x < y := by rw [Int32.lt_iff_toInt_lt, xti h1, xti h2]
theorem xi_le {x y : Int} (h1 : xok x) (h2 : xok y) : Int32.ofInt x ≤ Int32.ofInt y ↔ x ≤ y := by rw [Int32.le_iff_toInt_le, xti h1, xti h2]
theorem xr_pos {p : Nat} (h : 0 < p) : xr B (.inr p) = .ref (xad B p) := by
  obtain ⟨q, rfl⟩ : ∃ q, p = q + 1 := ⟨p - 1, by omega⟩
  exact xr_ref B q
theorem xce_obj {M : xM} {q b : Nat} (h : (xat M q).1 = 10 + b) : xce B M q = .inr (b, xfs B M q b) := by
  unfold xce
  split
  · omega
  · omega
  · omega
  · omega
  · rw [h, show 10 + b - 10 = b by omega]
theorem xce_1 {M : xM} {q : Nat} (h : (xat M q).1 = 1) : xce B M q = .inl (B.2.1.1, (xat M q).2.1, .inl (fun i => Int32.ofInt (M.2 q i))) := by unfold xce; simp only [h]
theorem xce_2 {M : xM} {q : Nat} (h : (xat M q).1 = 2) : xce B M q = .inl (B.2.1.2.1, (xat M q).2.1, .inr (.inr (.inr (.inr (xra B M q))))) := by unfold xce; simp only [h]
theorem xce_3 {M : xM} {q : Nat} (h : (xat M q).1 = 3) : xce B M q = .inl (B.2.1.2.2.1, (xat M q).2.1, .inr (.inr (.inr (.inr (xra B M q))))) := by unfold xce; simp only [h]
theorem xce_4 {M : xM} {q : Nat} (h : (xat M q).1 = 4) : xce B M q = .inl (B.2.1.2.2.2, (xat M q).2.1, .inr (.inr (.inr (.inr (xra B M q))))) := by unfold xce; simp only [h]
theorem xfs_at {M : xM} {q ci k : Nat} (hk : k < xN ci) : (xfs B M q ci)[k]? = some (xr B (if xrf ci k then .inr ((xat M q).2.2 k) else .inl (M.2 q k))) := by
  unfold xfs
  rw [List.getElem?_map, List.getElem?_range hk]
  simp only [Option.map_some]
  split <;> rfl
theorem xcl_at : ∀ ci, ci < 8 → xcl[ci]? = some (xCn ci, xT ci, xN ci)
  | 0, _ => rfl
  | 1, _ => rfl
  | 2, _ => rfl
  | 3, _ => rfl
  | 4, _ => rfl
  | 5, _ => rfl
  | 6, _ => rfl
  | 7, _ => rfl
theorem xus_at : ∀ ci, ci < 8 → ∀ w ∈ u_ws (xCn ci) (xT ci) (xN ci), w ∈ xwl
  | 0, _ => xus_0
  | 1, _ => xus_1
  | 2, _ => xus_2
  | 3, _ => xus_3
  | 4, _ => xus_4
  | 5, _ => xus_5
  | 6, _ => xus_6
  | 7, _ => xus_7
theorem xg1 (C : xCx p R s m meth c mi) (E : xE B s s.heap) {pc : Nat} {k : Nat × Nat} {ls : xL} {st : List xV} {M : xM} {a : Int} {b d : Nat} {q : Nat × (Nat × Nat) × xL × List xV × xM}
    (hok : xokb (xy mi).cls (decide ((xy mi).name = "<init>")) (xmi mi 0) (xb mi) mi pc (1, a, b, d) = true) (hs : xsem 1 a b d mi pc k ls st M = some (.inl q)) (hK : xW B p l e R s m args below meth c mi Q q.1 q.2.1 q.2.2.1 q.2.2.2.1 q.2.2.2.2) : xW B p l e R s m args below meth c mi Q pc k ls st M := by
  obtain ⟨hx, hb, hml, hown, -⟩ := C
  simp only [xsem, xgo, Option.some.injEq, Sum.inl.injEq] at hs
  subst hs
  intro H locs Ls hR hS hL
  have hk := hK H locs Ls hR hS hL
  simp only [xokb, Bool.or_eq_true, Bool.and_eq_true, decide_eq_true_eq] at hok
  rcases hok with ⟨rfl, h⟩ | ⟨rfl, h0, h⟩ | ⟨rfl, h0, h⟩ | h
  · exact lv_iconst hx hb (xdc_eq h) rfl hk
  · exact lv_bipush hx hb (xdc_eq h) h0 hk
  · exact lv_sipush hx hb (xdc_eq h) h0 hk
  · unfold xkc at h
    split at h
    · rename_i o i v hw
      simp only [Bool.or_eq_true, Bool.and_eq_true, decide_eq_true_eq] at h
      obtain ⟨rfl, rfl, ⟨rfl, h⟩ | ⟨rfl, h⟩⟩ := h
      · exact lv_ldc hx hb hown (E.2.1.get hw rfl args) (xdc_eq h) hk
      · exact lv_ldcw hx hb hown (E.2.1.get hw rfl args) (xdc_eq h) hk
    · cases h
theorem xg2 (C : xCx p R s m meth c mi) {pc : Nat} {k : Nat × Nat} {ls : xL} {st : List xV} {M : xM} {a : Int} {b d : Nat} {q : Nat × (Nat × Nat) × xL × List xV × xM}
    (hok : xokb (xy mi).cls (decide ((xy mi).name = "<init>")) (xmi mi 0) (xb mi) mi pc (2, a, b, d) = true) (hs : xsem 2 a b d mi pc k ls st M = some (.inl q)) (hK : xW B p l e R s m args below meth c mi Q q.1 q.2.1 q.2.2.1 q.2.2.2.1 q.2.2.2.2) : xW B p l e R s m args below meth c mi Q pc k ls st M := by
  obtain ⟨hx, hb, hml, hown, -⟩ := C
  simp only [xsem] at hs
  split at hs
  · rename_i x hv
    simp only [xgo, Option.some.injEq, Sum.inl.injEq] at hs
    subst hs
    intro H locs Ls hR hS hL
    have hk := hK H locs Ls hR hS hL
    have hl := hL.2.2 _ _ hv
    simp only [xokb, Bool.or_eq_true, Bool.and_eq_true, decide_eq_true_eq] at hok
    rcases hok with ⟨rfl, h0, h⟩ | ⟨rfl, h⟩
    · exact lv_iload_n hx hb (xdc_eq h) (xfin h0) hl hk
    · exact lv_iload hx hb (xdc_eq h) hl hk
  · cases hs
theorem xg3 (C : xCx p R s m meth c mi) {pc : Nat} {k : Nat × Nat} {ls : xL} {st : List xV} {M : xM} {a : Int} {b d : Nat} {q : Nat × (Nat × Nat) × xL × List xV × xM}
    (hok : xokb (xy mi).cls (decide ((xy mi).name = "<init>")) (xmi mi 0) (xb mi) mi pc (3, a, b, d) = true) (hs : xsem 3 a b d mi pc k ls st M = some (.inl q)) (hK : xW B p l e R s m args below meth c mi Q q.1 q.2.1 q.2.2.1 q.2.2.2.1 q.2.2.2.2) : xW B p l e R s m args below meth c mi Q pc k ls st M := by
  obtain ⟨hx, hb, hml, hown, -⟩ := C
  simp only [xsem] at hs
  split at hs
  · rename_i x hv
    simp only [xgo, Option.some.injEq, Sum.inl.injEq] at hs
    subst hs
    intro H locs Ls hR hS hL
    have hk := hK H locs Ls hR hS hL
    have hl := hL.2.2 _ _ hv
    simp only [List.map_cons, xr_ref] at hk hl
    simp only [xokb, Bool.or_eq_true, Bool.and_eq_true, decide_eq_true_eq] at hok
    rcases hok with ⟨rfl, h0, h⟩ | ⟨rfl, h⟩
    · exact lv_aload_n hx hb (xdc_eq h) (xfin h0) hl hk
    · exact lv_aload hx hb (xdc_eq h) hl hk
  · cases hs
theorem xg4 (C : xCx p R s m meth c mi) {pc : Nat} {k : Nat × Nat} {ls : xL} {st : List xV} {M : xM} {a : Int} {b d : Nat} {q : Nat × (Nat × Nat) × xL × List xV × xM}
    (hok : xokb (xy mi).cls (decide ((xy mi).name = "<init>")) (xmi mi 0) (xb mi) mi pc (4, a, b, d) = true) (hs : xsem 4 a b d mi pc k ls st M = some (.inl q)) (hK : xW B p l e R s m args below meth c mi Q q.1 q.2.1 q.2.2.1 q.2.2.2.1 q.2.2.2.2) : xW B p l e R s m args below meth c mi Q pc k ls st M := by
  obtain ⟨hx, hb, hml, hown, -⟩ := C
  simp only [xsem] at hs
  split at hs
  · rename_i x r
    simp only [xgo, Option.some.injEq, Sum.inl.injEq] at hs
    subst hs
    intro H locs Ls hR hS hL
    simp only [xokb, Bool.or_eq_true, Bool.and_eq_true, decide_eq_true_eq] at hok
    obtain ⟨hn, hok⟩ := hok
    rcases hok with ⟨rfl, h0, h⟩ | ⟨rfl, h⟩
    · exact lv_istore_n hx hb (xdc_eq h) (xfin h0) hL.has hn rfl (fun Ls' hL' => hK H locs Ls' hR hS (xlh.store (v := .inl x) hL'))
    · exact lv_istore hx hb (xdc_eq h) hL.has hn rfl (fun Ls' hL' => hK H locs Ls' hR hS (xlh.store (v := .inl x) hL'))
  · cases hs
theorem xg5 (C : xCx p R s m meth c mi) {pc : Nat} {k : Nat × Nat} {ls : xL} {st : List xV} {M : xM} {a : Int} {b d : Nat} {q : Nat × (Nat × Nat) × xL × List xV × xM}
    (hok : xokb (xy mi).cls (decide ((xy mi).name = "<init>")) (xmi mi 0) (xb mi) mi pc (5, a, b, d) = true) (hs : xsem 5 a b d mi pc k ls st M = some (.inl q)) (hK : xW B p l e R s m args below meth c mi Q q.1 q.2.1 q.2.2.1 q.2.2.2.1 q.2.2.2.2) : xW B p l e R s m args below meth c mi Q pc k ls st M := by
  obtain ⟨hx, hb, hml, hown, -⟩ := C
  simp only [xsem] at hs
  split at hs
  · rename_i x r
    simp only [xgo, Option.some.injEq, Sum.inl.injEq] at hs
    subst hs
    intro H locs Ls hR hS hL
    simp only [List.map_cons, xr_ref]
    simp only [xokb, Bool.or_eq_true, Bool.and_eq_true, decide_eq_true_eq] at hok
    obtain ⟨hn, hok⟩ := hok
    rcases hok with ⟨rfl, h0, h⟩ | ⟨rfl, h⟩
    · exact lv_astore_n hx hb (xdc_eq h) (xfin h0) hL.has hn rfl (fun Ls' hL' => hK H locs Ls' hR hS (xlh.store (v := .inr (x + 1)) (by rw [xr_ref]; exact hL')))
    · exact lv_astore hx hb (xdc_eq h) hL.has hn rfl (fun Ls' hL' => hK H locs Ls' hR hS (xlh.store (v := .inr (x + 1)) (by rw [xr_ref]; exact hL')))
  · cases hs
theorem xg6 (C : xCx p R s m meth c mi) {pc : Nat} {k : Nat × Nat} {ls : xL} {st : List xV} {M : xM} {a : Int} {b d : Nat} {q : Nat × (Nat × Nat) × xL × List xV × xM}
    (hok : xokb (xy mi).cls (decide ((xy mi).name = "<init>")) (xmi mi 0) (xb mi) mi pc (6, a, b, d) = true) (hs : xsem 6 a b d mi pc k ls st M = some (.inl q)) (hK : xW B p l e R s m args below meth c mi Q q.1 q.2.1 q.2.2.1 q.2.2.2.1 q.2.2.2.2) : xW B p l e R s m args below meth c mi Q pc k ls st M := by
  obtain ⟨hx, hb, hml, hown, -⟩ := C
  simp only [xsem] at hs
  split at hs
  · rename_i x hv
    simp only [xgo, Option.some.injEq, Sum.inl.injEq] at hs
    subst hs
    intro H locs Ls hR hS hL
    simp only [xokb, Bool.and_eq_true, decide_eq_true_eq] at hok
    obtain ⟨hn, h⟩ := hok
    obtain ⟨j, hj⟩ := List.getElem?_of_mem (xll_mem (B := B) hv)
    exact lv_iinc hx hb (xdc_eq h) hL.has hj (v := Int32.ofInt (x + a)) (by rw [Int32.ofInt_add]) hn rfl (fun Ls' hL' => hK H locs Ls' hR hS (xlh.store (v := .inl (x + a)) hL'))
  · cases hs
theorem xg7 (C : xCx p R s m meth c mi) {pc : Nat} {k : Nat × Nat} {ls : xL} {st : List xV} {M : xM} {a : Int} {b d : Nat} {q : Nat × (Nat × Nat) × xL × List xV × xM}
    (hok : xokb (xy mi).cls (decide ((xy mi).name = "<init>")) (xmi mi 0) (xb mi) mi pc (7, a, b, d) = true) (hs : xsem 7 a b d mi pc k ls st M = some (.inl q)) (hK : xW B p l e R s m args below meth c mi Q q.1 q.2.1 q.2.2.1 q.2.2.2.1 q.2.2.2.2) : xW B p l e R s m args below meth c mi Q pc k ls st M := by
  obtain ⟨hx, hb, hml, hown, -⟩ := C
  simp only [xsem] at hs
  split at hs
  · rename_i y x r
    split at hs
    · rename_i z hz
      simp only [xgo, Option.some.injEq, Sum.inl.injEq] at hs
      subst hs
      intro H locs Ls hR hS hL
      have hk := hK H locs Ls hR hS hL
      simp only [List.map_cons, xr] at hk ⊢
      simp only [xokb, Bool.and_eq_true, decide_eq_true_eq] at hok
      obtain ⟨hn, h⟩ := hok
      have hd := xdc_eq h
      match b, hn, hz, hd with
      | 0, _, hz, hd => cases hz; rw [Int32.ofInt_add] at hk; exact lv_iadd hx hb hd hk
      | 1, _, hz, hd => cases hz; rw [Int32.ofInt_sub] at hk; exact lv_isub hx hb hd hk
      | 2, _, hz, hd => cases hz; rw [Int32.ofInt_mul] at hk; exact lv_imul hx hb hd hk
      | 3, _, hz, hd =>
        simp only [xbin] at hz
        split at hz
        · cases hz
        · rename_i h0
          cases hz
          rw [Int32.ofInt_toInt] at hk
          exact lv_idiv hx hb hd h0 hk
      | 4, _, hz, hd =>
        simp only [xbin] at hz
        split at hz
        · cases hz
        · rename_i h0
          cases hz
          rw [Int32.ofInt_toInt] at hk
          exact lv_irem hx hb hd h0 hk
      | 5, _, hz, hd => cases hz; rw [Int32.ofInt_toInt] at hk; exact lv_iand hx hb hd hk
      | 6, _, hz, hd => cases hz; rw [Int32.ofInt_toInt] at hk; exact lv_ior hx hb hd hk
      | 7, _, hz, hd => cases hz; rw [Int32.ofInt_toInt] at hk; exact lv_ixor hx hb hd hk
      | 8, _, hz, hd => cases hz; rw [Int32.ofInt_toInt] at hk; exact lv_ishl hx hb hd hk
      | 9, _, hz, hd => cases hz; rw [Int32.ofInt_toInt] at hk; exact lv_ishr hx hb hd hk
      | 10, _, hz, hd => cases hz; rw [Int32.ofInt_toInt] at hk; exact lv_iushr hx hb hd rfl hk
    · cases hs
  · cases hs
theorem xg8 (C : xCx p R s m meth c mi) {pc : Nat} {k : Nat × Nat} {ls : xL} {st : List xV} {M : xM} {a : Int} {b d : Nat} {q : Nat × (Nat × Nat) × xL × List xV × xM}
    (hok : xokb (xy mi).cls (decide ((xy mi).name = "<init>")) (xmi mi 0) (xb mi) mi pc (8, a, b, d) = true) (hs : xsem 8 a b d mi pc k ls st M = some (.inl q)) (hK : xW B p l e R s m args below meth c mi Q q.1 q.2.1 q.2.2.1 q.2.2.2.1 q.2.2.2.2) : xW B p l e R s m args below meth c mi Q pc k ls st M := by
  obtain ⟨hx, hb, hml, hown, -⟩ := C
  simp only [xsem] at hs
  split at hs
  · rename_i x r
    simp only [xgo, Option.some.injEq, Sum.inl.injEq] at hs
    subst hs
    intro H locs Ls hR hS hL
    have hk := hK H locs Ls hR hS hL
    simp only [List.map_cons, xr, Int32.ofInt_neg] at hk ⊢
    exact lv_ineg hx hb (xdc_eq hok) hk
  · cases hs
theorem xg9 (C : xCx p R s m meth c mi) {pc : Nat} {k : Nat × Nat} {ls : xL} {st : List xV} {M : xM} {a : Int} {b d : Nat} {q : Nat × (Nat × Nat) × xL × List xV × xM}
    (hok : xokb (xy mi).cls (decide ((xy mi).name = "<init>")) (xmi mi 0) (xb mi) mi pc (9, a, b, d) = true) (hs : xsem 9 a b d mi pc k ls st M = some (.inl q)) (hK : xW B p l e R s m args below meth c mi Q q.1 q.2.1 q.2.2.1 q.2.2.2.1 q.2.2.2.2) : xW B p l e R s m args below meth c mi Q pc k ls st M := by
  obtain ⟨hx, hb, hml, hown, -⟩ := C
  simp only [xsem] at hs
  split at hs
  · rename_i x r
    split at hs
    · rename_i hc
      simp only [xgo, Option.some.injEq, Sum.inl.injEq] at hs
      subst hs
      intro H locs Ls hR hS hL
      have hk := hK H locs Ls hR hS hL
      simp only [List.map_cons, xr] at hk ⊢
      simp only [xokb, Bool.and_eq_true, decide_eq_true_eq] at hok
      obtain ⟨hn, h⟩ := hok
      have hd := xdc_eq h
      have ht : (pc : Int) + ((d : Int) - pc) = (d : Int) := by omega
      have h0 : xok 0 := ⟨by omega, by omega⟩
      have z0 : (0 : Int32) = Int32.ofInt 0 := rfl
      have heq : Int32.ofInt x = 0 ↔ x = 0 := by
        rw [z0]; exact xi_eq (hc.elim (fun q => Or.inl ⟨q, h0⟩) (fun q => Or.inr q.2))
      have go : ∀ (P : Prop), (xcmp b x 0 = true ↔ P) → (P → W p l e R s m args below meth c H locs k.1 k.2 Q (F0 m d Ls (r.map (xr B)))) ∧ (¬ P → W p l e R s m args below meth c H locs k.1 k.2 Q (F0 m (pc + 3) Ls (r.map (xr B)))) := fun P hP => ⟨fun q => by
        have e : xcmp b x 0 = true := hP.mpr q
        rw [if_pos e] at hk
        exact hk, fun q => by
        have e : ¬ xcmp b x 0 = true := fun z => q (hP.mp z)
        rw [if_neg e] at hk
        exact hk⟩
      match b, hn, hd, hc, go with
      | 0, _, hd, hc, go =>
        have g := go (Int32.ofInt x = 0) (by rw [heq]; simp [xcmp])
        exact lv_if_eq hx hb hd ht g.1 g.2
      | 1, _, hd, hc, go =>
        have g := go (¬ Int32.ofInt x = 0) (by rw [heq]; simp [xcmp])
        exact lv_if_ne hx hb hd ht g.1 (fun z => g.2 (fun n => n z))
      | 2, _, hd, hc, go =>
        have hxk : xok x := hc.elim id (fun q => absurd q.1 (by omega))
        have g := go (Int32.ofInt x < 0) (by rw [z0, xi_lt hxk h0]; simp [xcmp])
        exact lv_if_lt hx hb hd ht g.1 g.2
      | 3, _, hd, hc, go =>
        have hxk : xok x := hc.elim id (fun q => absurd q.1 (by omega))
        have g := go (0 ≤ Int32.ofInt x) (by rw [z0, xi_le h0 hxk]; simp [xcmp])
        exact lv_if_ge hx hb hd ht g.1 g.2
      | 4, _, hd, hc, go =>
        have hxk : xok x := hc.elim id (fun q => absurd q.1 (by omega))
        have g := go (0 < Int32.ofInt x) (by rw [z0, xi_lt h0 hxk]; simp [xcmp])
        exact lv_if_gt hx hb hd ht g.1 g.2
      | 5, _, hd, hc, go =>
        have hxk : xok x := hc.elim id (fun q => absurd q.1 (by omega))
        have g := go (Int32.ofInt x ≤ 0) (by rw [z0, xi_le hxk h0]; simp [xcmp])
        exact lv_if_le hx hb hd ht g.1 g.2
    · cases hs
  · cases hs
theorem xg10 (C : xCx p R s m meth c mi) {pc : Nat} {k : Nat × Nat} {ls : xL} {st : List xV} {M : xM} {a : Int} {b d : Nat} {q : Nat × (Nat × Nat) × xL × List xV × xM}
    (hok : xokb (xy mi).cls (decide ((xy mi).name = "<init>")) (xmi mi 0) (xb mi) mi pc (10, a, b, d) = true) (hs : xsem 10 a b d mi pc k ls st M = some (.inl q)) (hK : xW B p l e R s m args below meth c mi Q q.1 q.2.1 q.2.2.1 q.2.2.2.1 q.2.2.2.2) : xW B p l e R s m args below meth c mi Q pc k ls st M := by
  obtain ⟨hx, hb, hml, hown, -⟩ := C
  simp only [xsem] at hs
  split at hs
  · rename_i y x r
    split at hs
    · rename_i hc
      simp only [xgo, Option.some.injEq, Sum.inl.injEq] at hs
      subst hs
      intro H locs Ls hR hS hL
      have hk := hK H locs Ls hR hS hL
      simp only [List.map_cons, xr] at hk ⊢
      simp only [xokb, Bool.and_eq_true, decide_eq_true_eq] at hok
      obtain ⟨hn, h⟩ := hok
      have hd := xdc_eq h
      have ht : (pc : Int) + ((d : Int) - pc) = (d : Int) := by omega
      have heq : Int32.ofInt x = Int32.ofInt y ↔ x = y := xi_eq (hc.elim Or.inl (fun q => Or.inr q.2))
      have go : ∀ (P : Prop), (xcmp b x y = true ↔ P) → (P → W p l e R s m args below meth c H locs k.1 k.2 Q (F0 m d Ls (r.map (xr B)))) ∧ (¬ P → W p l e R s m args below meth c H locs k.1 k.2 Q (F0 m (pc + 3) Ls (r.map (xr B)))) := fun P hP => ⟨fun q => by
        have e : xcmp b x y = true := hP.mpr q
        rw [if_pos e] at hk
        exact hk, fun q => by
        have e : ¬ xcmp b x y = true := fun z => q (hP.mp z)
        rw [if_neg e] at hk
        exact hk⟩
      match b, hn, hd, hc, go with
      | 0, _, hd, hc, go =>
        have g := go (Int32.ofInt x = Int32.ofInt y) (by rw [heq]; simp [xcmp])
        exact lv_icmp_eq hx hb hd ht g.1 g.2
      | 1, _, hd, hc, go =>
        have g := go (¬ Int32.ofInt x = Int32.ofInt y) (by rw [heq]; simp [xcmp])
        exact lv_icmp_ne hx hb hd ht g.1 (fun z => g.2 (fun n => n z))
      | 2, _, hd, hc, go =>
        have hxk : xok x ∧ xok y := hc.elim id (fun q => absurd q.1 (by omega))
        have g := go (Int32.ofInt x < Int32.ofInt y) (by rw [xi_lt hxk.1 hxk.2]; simp [xcmp])
        exact lv_icmp_lt hx hb hd ht g.1 g.2
      | 3, _, hd, hc, go =>
        have hxk : xok x ∧ xok y := hc.elim id (fun q => absurd q.1 (by omega))
        have g := go (Int32.ofInt y ≤ Int32.ofInt x) (by rw [xi_le hxk.2 hxk.1]; simp [xcmp])
        exact lv_icmp_ge hx hb hd ht g.1 g.2
      | 4, _, hd, hc, go =>
        have hxk : xok x ∧ xok y := hc.elim id (fun q => absurd q.1 (by omega))
        have g := go (Int32.ofInt y < Int32.ofInt x) (by rw [xi_lt hxk.2 hxk.1]; simp [xcmp])
        exact lv_icmp_gt hx hb hd ht g.1 g.2
      | 5, _, hd, hc, go =>
        have hxk : xok x ∧ xok y := hc.elim id (fun q => absurd q.1 (by omega))
        have g := go (Int32.ofInt x ≤ Int32.ofInt y) (by rw [xi_le hxk.1 hxk.2]; simp [xcmp])
        exact lv_icmp_le hx hb hd ht g.1 g.2
    · cases hs
  · cases hs
theorem xg11 (C : xCx p R s m meth c mi) {pc : Nat} {k : Nat × Nat} {ls : xL} {st : List xV} {M : xM} {a : Int} {b d : Nat} {q : Nat × (Nat × Nat) × xL × List xV × xM}
    (hok : xokb (xy mi).cls (decide ((xy mi).name = "<init>")) (xmi mi 0) (xb mi) mi pc (11, a, b, d) = true) (hs : xsem 11 a b d mi pc k ls st M = some (.inl q)) (hK : xW B p l e R s m args below meth c mi Q q.1 q.2.1 q.2.2.1 q.2.2.2.1 q.2.2.2.2) : xW B p l e R s m args below meth c mi Q pc k ls st M := by
  obtain ⟨hx, hb, hml, hown, -⟩ := C
  simp only [xsem, xgo, Option.some.injEq, Sum.inl.injEq] at hs
  subst hs
  intro H locs Ls hR hS hL
  exact lv_goto hx hb (xdc_eq hok) (by omega) (hK H locs Ls hR hS hL)
end XSN
end
section
/-! ===== fields and arrays ===== -/
section XSF
variable {p : Program} {l : Launch} {e : Env} {R : Room} {s : State} {m : MethodId} {args : Array Value} {below : List Frame} {meth : Method} {c : Code} {Q : State → Prop} {B : xB} {mi : Nat}
theorem xg12 (C : xCx p R s m meth c mi) (E : xE B s s.heap) {pc : Nat} {k : Nat × Nat} {ls : xL} {st : List xV} {M : xM} {a : Int} {b d : Nat} {q : Nat × (Nat × Nat) × xL × List xV × xM}
    (hok : xokb (xy mi).cls (decide ((xy mi).name = "<init>")) (xmi mi 0) (xb mi) mi pc (12, a, b, d) = true) (hs : xsem 12 a b d mi pc k ls st M = some (.inl q)) (hK : xW B p l e R s m args below meth c mi Q q.1 q.2.1 q.2.2.1 q.2.2.2.1 q.2.2.2.2) : xW B p l e R s m args below meth c mi Q pc k ls st M := by
  obtain ⟨hx, hb, hml, hown, -⟩ := C
  simp only [xsem] at hs
  split at hs
  · rename_i pp r
    split at hs
    · rename_i hkd
      simp only [xgo, Option.some.injEq, Sum.inl.injEq] at hs
      subst hs
      intro H locs Ls hR hS hL
      have hlow := hR.low hkd (by omega) (by omega)
      have hk := hK H locs Ls hR hS hL
      simp only [List.map_cons] at hk ⊢
      rw [xr_pos (by omega)]
      simp only [xokb, Bool.and_eq_true, decide_eq_true_eq] at hok
      obtain ⟨hb8, hd, h⟩ := hok
      have he := xws_at (B := B) hlow
      rw [xce_obj hkd] at he
      unfold xfl at h
      split at h
      · rename_i o i r1 n1 d1 hw
        simp only [Bool.and_eq_true, decide_eq_true_eq] at h
        obtain ⟨rfl, rfl, rfl, rfl, h, -⟩ := h
        exact va_get hx hb (E.2.1.ws args) (xus_at b hb8) hown E.1 hR.2.2.1 (pp - 3) he (xcl_at b hb8) d hd (E.2.1.get hw rfl args) (fun _ z => z) (xfs_at hd) (xdc_eq h) hk
      · rename_i o i r1 n1 d1 hst hw
        simp only [Bool.and_eq_true, decide_eq_true_eq] at h
        obtain ⟨rfl, rfl, rfl, rfl, h, -⟩ := h
        exact va_getN hx hb (E.2.1.ws args) (xus_at b hb8) hown E.1 hR.2.2.1 (pp - 3) he (xcl_at b hb8) d hd (E.2.1.get hw rfl args) (fun _ z => z) (xfs_at hd) (xdc_eq h) hk
      · cases h
    · cases hs
  · cases hs
theorem xap : ∀ b, b < 8 → (∃ ty0 : Nat → FieldType, ∀ k, k < xN b → parseFieldDescriptor (xT b k).2.2.1 = some (ty0 k)) ∧ ∀ a, a < xN b → ∀ z, z < xN b → a ≠ z → (xT b a).2.1 ≠ (xT b z).2.1
  | 0, _ => ⟨⟨tyX0, tyX0_ok⟩, nmX0⟩
  | 1, _ => ⟨⟨tyX1, tyX1_ok⟩, nmX1⟩
  | 2, _ => ⟨⟨tyX3, tyX3_ok⟩, nmX3⟩
  | 3, _ => ⟨⟨tyX4, tyX4_ok⟩, nmX4⟩
  | 4, _ => ⟨⟨tyX5, tyX5_ok⟩, nmX5⟩
  | 5, _ => ⟨⟨tyX6, tyX6_ok⟩, nmX6⟩
  | 6, _ => ⟨⟨tyX7, tyX7_ok⟩, nmX7⟩
  | 7, _ => ⟨⟨tyX8, tyX8_ok⟩, nmX8⟩
theorem xput (C : xCx p R s m meth c mi) (E : xE B s s.heap) {H : Heap} {locs : List Loc} {cells slots pc : Nat} {Ls : Array Slot} {ws : va_W} {q0 a b d i0 : Nat} {fs : List Value} {v : Value} {rest : List Value} {ty : FieldType}
    (hb8 : b < 8) (hd : d < xN b) (h : xfl (xy mi).cls (xb mi) pc true (xT b d).2.2.2 (decide ((xy mi).name = "<init>")) (xT b d).1 (xT b d).2.1 (xT b d).2.2.1 (xwd i0) = true)
    (hP : va_P B.1 xcl ws H) (hD : va_D (xA B) ws) (hS0 : va_S (xA B) s.heap H locs) (he : ws[q0]? = some (a, .inr (b, fs))) (hty : parseFieldDescriptor (xT b d).2.2.1 = some ty) (hn : narrow ty v = v) (hfit : fits ty v = true) (hl : d < fs.length)
    (kk : ∀ (H1 : Heap) (locs1 : List Loc), va_P B.1 xcl (ws.set q0 (a, .inr (b, fs.set d v))) H1 → va_S (xA B) s.heap H1 locs1 → H1.size = H.size → (∀ q, q ≠ a → H1[q]? = H[q]?) → W p l e R s m args below meth c H1 locs1 cells slots Q (F0 m (pc + 3) Ls rest)) :
    W p l e R s m args below meth c H locs cells slots Q (F0 m pc Ls (v :: .ref a :: rest)) := by
  obtain ⟨hx, hb, hml, hown, -, -, hini, -⟩ := C
  obtain ⟨⟨ty0, htys⟩, hnm⟩ := xap b hb8
  have hts := E.2.1.ws args
  have hin := xus_at b hb8
  have hc := xcl_at b hb8
  have hap := va_apart (own := (xy mi).cls) hts hin ty0 htys hnm E.1 hc
  obtain ⟨r, h1, cell, q1, q2, q3, q4⟩ := hP q0 _ he
  have hr : r = (xCn b, xT b, xN b) := Option.some.inj (h1.symm.trans hc)
  subst hr
  obtain ⟨hSl, hfc, kC, hkC, hkind⟩ := E.1.1 b _ hc
  obtain ⟨cf, kf, fi, f, hi, hsl⟩ := hSl d hd
  have hlay := hts _ (hin _ (u_in_lay hd))
  unfold u_lay at hlay
  have hst := (u_facts hfc hkC (u_lays hts hin hd) hi).1
  have fin' : ∀ H' : Heap, H'[a]? = some (cell.setSlot (B.1.2 b d) v) → H'.size = H.size → (∀ q, q ≠ a → H'[q]? = H[q]?) → W p l e R s m args below meth c H' (locs ++ [⟨a, B.1.2 b d⟩]) cells slots Q (F0 m (pc + 3) Ls rest) := fun H' e1 e2 e3 =>
    kk H' _ (hP.set hD he ⟨_, hc, t_OB.to (V := updV (vp_V fs) d v) ⟨_, e1, q2, q3, t_set q4 hap hd v⟩ (fun j _ => vp_updV_set hl v j)⟩ e3) (hS0.put e2 e3 (hD.2 q0 _ he)) e2 e3
  unfold xfl at h
  split at h
  · rename_i o i r1 n1 d1 hw
    simp only [Bool.and_eq_true, Bool.or_eq_true, decide_eq_true_eq, Bool.not_eq_true', Bool.not_true, Bool.false_eq_true, false_or] at h
    obtain ⟨rfl, rfl, rfl, rfl, h, hfin⟩ := h
    have hlink := E.2.1.get hw rfl args
    rcases hfin with hf | ⟨hf1, hf2⟩
    · rw [if_neg (by rw [hf]; decide)] at hlay
      have h6 := u_store hfc hkC hkind hlay hi hty hn hfit
      refine W.putK hx hb (f := f) ⟨hown, hlink, ⟨_, _, _, hi⟩, hst⟩ (by rw [q2]; exact h6) q1 q3 (by rw [hsl]; exact k2_hasslot (q4 d hd)) rfl rfl (xdc_eq h) fun H' e1 e2 e3 => ?_
      rw [hsl] at e1 ⊢
      exact fin' H' e1 e2 e3
    · cases hff : (xT b d).2.2.2 with
      | false =>
        rw [if_neg (by rw [hff]; decide)] at hlay
        have h6 := u_store hfc hkC hkind hlay hi hty hn hfit
        refine W.putK hx hb (f := f) ⟨hown, hlink, ⟨_, _, _, hi⟩, hst⟩ (by rw [q2]; exact h6) q1 q3 (by rw [hsl]; exact k2_hasslot (q4 d hd)) rfl rfl (xdc_eq h) fun H' e1 e2 e3 => ?_
        rw [hsl] at e1 ⊢
        exact fin' H' e1 e2 e3
      | true =>
        rw [if_pos hff] at hlay
        have hcf : m.cls = cf := by
          obtain ⟨_, _, c', _, _, _, -, -, hf', -, -, -, hown2, -⟩ := Cond.laysFinal_spec hlay
          have e1 : c' = cf := by have := hi.symm.trans hf'; simp at this; exact this.1.symm
          rw [hf2] at hown2
          rw [← e1]; exact Option.some.inj (hown.symm.trans hown2)
        have h6 := u_fits hfc hkC hkind (Or.inr hlay) hi hty hn hfit
        refine W.putFinK hx hb hown hlink hi hst hcf (hini hf1) (by rw [q2]; exact h6) q1 q3 (by rw [hsl]; exact k2_hasslot (q4 d hd)) rfl rfl (xdc_eq h) fun H' e1 e2 e3 => ?_
        rw [hsl] at e1 ⊢
        exact fin' H' e1 e2 e3
  · rename_i o i r1 n1 d1 hst' hw
    simp only [Bool.and_eq_true, Bool.or_eq_true, decide_eq_true_eq, Bool.not_eq_true', Bool.not_true, Bool.false_eq_true, false_or] at h
    obtain ⟨rfl, rfl, rfl, rfl, h, hf⟩ := h
    have hlink := E.2.1.get hw rfl args
    rw [if_neg (by rw [hf]; decide)] at hlay
    have h6 := u_store hfc hkC hkind hlay hi hty hn hfit
    refine va_WputK hx hb (f := f) hown hlink hi hst (by rw [q2]; exact h6) q1 q3 (by rw [hsl]; exact k2_hasslot (q4 d hd)) rfl rfl (xdc_eq h) fun H' e1 e2 e3 => ?_
    rw [hsl] at e1 ⊢
    exact fin' H' e1 e2 e3
  · cases h
def xrt (t : FieldType) : Bool := match t with
  | .object _ => true
  | .array _ => true
  | _ => false
theorem xty_all : (List.range 8).all (fun b => (List.range (xN b)).all (fun d => match parseFieldDescriptor (xT b d).2.2.1 with
    | some t => if xrf b d then xrt t else if xbf b d then decide (t = .boolean) else decide (t = .int)
    | none => false)) = true := by decide +kernel
theorem xty_at {b d : Nat} (hb : b < 8) (hd : d < xN b) : ∃ t, parseFieldDescriptor (xT b d).2.2.1 = some t ∧ (xrf b d = true → xrt t = true) ∧ (xrf b d = false → xbf b d = true → t = .boolean) ∧ (xrf b d = false → xbf b d = false → t = .int) := by
  have h := List.all_eq_true.mp (List.all_eq_true.mp xty_all b (List.mem_range.mpr hb)) d (List.mem_range.mpr hd)
  split at h
  · rename_i t ht
    refine ⟨t, ht, fun q => ?_, fun q q2 => ?_, fun q q2 => ?_⟩
    · rw [if_pos q] at h; exact h
    · rw [if_neg (by rw [q]; decide), if_pos q2] at h; exact of_decide_eq_true h
    · rw [if_neg (by rw [q]; decide), if_neg (by rw [q2]; decide)] at h; exact of_decide_eq_true h
  · cases h
theorem xfs_len (M : xM) (q b : Nat) : (xfs B M q b).length = xN b := by simp [xfs]
theorem xfs_wr {M : xM} {q b d : Nat} {x : Int} (hr : xrf b d = false) : xfs B (xwr M q d x) q b = (xfs B M q b).set d (.int (Int32.ofInt x)) := by
  apply List.ext_getElem?
  intro j
  by_cases hj : j < xN b
  · rw [xfs_at hj]
    by_cases e : j = d
    · subst e
      rw [List.getElem?_set_self (by rw [xfs_len]; exact hj), hr]
      simp [xr, xwr]
    · rw [List.getElem?_set_ne (Ne.symm e), xfs_at hj]
      simp [xwr, xat, e]
  · rw [List.getElem?_eq_none (by rw [xfs_len]; omega), List.getElem?_eq_none (by rw [List.length_set, xfs_len]; omega)]
theorem xfs_wref {M : xM} {q b d v : Nat} (hq : q < M.1.length) (hr : xrf b d = true) : xfs B (xwref M q d v) q b = (xfs B M q b).set d (xr B (.inr v)) := by
  apply List.ext_getElem?
  intro j
  by_cases hj : j < xN b
  · rw [xfs_at hj]
    by_cases e : j = d
    · subst e
      rw [List.getElem?_set_self (by rw [xfs_len]; exact hj), hr, xat_wref M _ _ hq]
      simp
    · rw [List.getElem?_set_ne (Ne.symm e), xfs_at hj, xat_wref M _ _ hq]
      simp [e, xwref]
  · rw [List.getElem?_eq_none (by rw [xfs_len]; omega), List.getElem?_eq_none (by rw [List.length_set, xfs_len]; omega)]
theorem xbelow {H H1 : Heap} {a : Nat} (ha : 3 ≤ a) (h : ∀ q, q ≠ xad B a → H1[q]? = H[q]?) : ∀ q, q < xba B → H1[q]? = H[q]? := fun q hq => h q (by rw [xad_ge ha]; omega)
theorem xg13 (C : xCx p R s m meth c mi) (E : xE B s s.heap) {pc : Nat} {k : Nat × Nat} {ls : xL} {st : List xV} {M : xM} {a : Int} {b d : Nat} {q : Nat × (Nat × Nat) × xL × List xV × xM}
    (hok : xokb (xy mi).cls (decide ((xy mi).name = "<init>")) (xmi mi 0) (xb mi) mi pc (13, a, b, d) = true) (hs : xsem 13 a b d mi pc k ls st M = some (.inl q)) (hK : xW B p l e R s m args below meth c mi Q q.1 q.2.1 q.2.2.1 q.2.2.2.1 q.2.2.2.2) : xW B p l e R s m args below meth c mi Q pc k ls st M := by
  simp only [xokb, Bool.and_eq_true, decide_eq_true_eq] at hok
  obtain ⟨hb8, hd, h⟩ := hok
  obtain ⟨t, ht, t1, t2, t3⟩ := xty_at hb8 hd
  simp only [xsem] at hs
  split at hs
  · rename_i x pp r
    split at hs
    · rename_i hc
      obtain ⟨hkd, hrf, hbo⟩ := hc
      simp only [xgo, Option.some.injEq, Sum.inl.injEq] at hs
      subst hs
      intro H locs Ls hR hS hL
      have hlow := hR.low hkd (by omega) (by omega)
      simp only [List.map_cons]
      rw [xr_pos (p := pp) (by omega)]
      have he := xws_at (B := B) hlow
      rw [xce_obj hkd] at he
      have hnf : narrow t (xr B (.inl x)) = xr B (.inl x) ∧ fits t (xr B (.inl x)) = true := by
        cases hbb : xbf b d with
        | false => rw [t3 hrf hbb]; exact ⟨rfl, rfl⟩
        | true =>
          rw [t2 hrf hbb]
          simp only [xr]
          rcases hbo hbb with rfl | rfl <;> exact ⟨by decide, by decide⟩
      refine xput C E hb8 hd h hR.2.2.1 (xws_D B M) hS he ht hnf.1 hnf.2 (by rw [xfs_len]; exact hd) (fun H1 locs1 hP1 hS1 hz ho => ?_)
      refine hK H1 locs1 Ls (hR.upd (M' := xwr M pp d x) hlow rfl (fun _ _ => rfl) (fun z hz => by funext j; simp [xwr, hz]) (xce_obj (M := xwr M pp d x) hkd) (fun z hz => xce_wr_ne B M x hz) (by rw [xfs_wr hrf]; exact hP1) hz (xbelow hlow.1 ho) (by rw [xat_wr, hkd]; omega)) hS1 hL
    · cases hs
  · rename_i v pp r
    split at hs
    · rename_i hc
      obtain ⟨hkd, hrf⟩ := hc
      simp only [xgo, Option.some.injEq, Sum.inl.injEq] at hs
      subst hs
      intro H locs Ls hR hS hL
      have hlow := hR.low hkd (by omega) (by omega)
      simp only [List.map_cons]
      rw [xr_pos (p := pp) (by omega)]
      have he := xws_at (B := B) hlow
      rw [xce_obj hkd] at he
      have hnf : narrow t (xr B (.inr (v + 1))) = xr B (.inr (v + 1)) ∧ fits t (xr B (.inr (v + 1))) = true := by
        have hrt := t1 hrf
        rw [xr_ref]
        cases t <;> first | exact ⟨rfl, rfl⟩ | cases hrt
      refine xput C E hb8 hd h hR.2.2.1 (xws_D B M) hS he ht hnf.1 hnf.2 (by rw [xfs_len]; exact hd) (fun H1 locs1 hP1 hS1 hz ho => ?_)
      have hkd' : (xat (xwref M pp d (v + 1)) pp).1 = 10 + b := by rw [xat_wref M _ _ hlow.2]; exact hkd
      refine hK H1 locs1 Ls (hR.upd (M' := xwref M pp d (v + 1)) hlow (by simp [xwref]) (fun z hz => xat_wref_ne M hz) (fun z hz => rfl) (xce_obj hkd') (fun z hz => xce_wref_ne B M hz) (by rw [xfs_wref hlow.2 hrf]; exact hP1) hz (xbelow hlow.1 ho) (by rw [hkd']; omega)) hS1 hL
    · cases hs
  · cases hs
end XSF
end
section
/-! ===== arrays, new, the stack, the library ===== -/
section XSG
variable {p : Program} {l : Launch} {e : Env} {R : Room} {s : State} {m : MethodId} {args : Array Value} {below : List Frame} {meth : Method} {c : Code} {Q : State → Prop} {B : xB} {mi : Nat}
theorem xvp {i : Int} {n : Nat} (h0 : 0 ≤ i) (h1 : i < n) (hi : xok i) : vp_in (Int32.ofInt i) n := vp_in_iff.mpr (by rw [xti hi]; exact ⟨h0, h1⟩)
theorem xcl_nat {i : Int} (h0 : 0 ≤ i) (hi : xok i) : (Int32.ofInt i).toNatClampNeg = i.toNat := by
  show (Int32.ofInt i).toInt.toNat = i.toNat
  rw [xti hi]
theorem xt_0 : (xtys B)[0]? = some (B.2.1.1, .int) := rfl
theorem xt_1 : (xtys B)[1]? = some (B.2.1.2.1, .object "ReedBench$Reed") := rfl
theorem xt_2 : (xtys B)[2]? = some (B.2.1.2.2.1, .object "ReedBench$State") := rfl
theorem xt_3 : (xtys B)[3]? = some (B.2.1.2.2.2, .array .int) := rfl
theorem xlow5 {U : State} {M : xM} {H : Heap} (h : xR B U M H) {a : Nat} (ha : (xat M a).1 = 5) : (a = 1 ∨ a = 2) ∨ 3 ≤ a ∧ a < M.1.length := by
  have hl := xat_lt ha (by omega)
  match a, ha with
  | 0, ha => rw [h.2.2.2.1] at ha; cases ha
  | 1, _ => exact Or.inl (Or.inl rfl)
  | 2, _ => exact Or.inl (Or.inr rfl)
  | a + 3, _ => exact Or.inr ⟨by omega, hl⟩
theorem xg14 (C : xCx p R s m meth c mi) (E : xE B s s.heap) {pc : Nat} {k : Nat × Nat} {ls : xL} {st : List xV} {M : xM} {a : Int} {b d : Nat} {q : Nat × (Nat × Nat) × xL × List xV × xM}
    (hok : xokb (xy mi).cls (decide ((xy mi).name = "<init>")) (xmi mi 0) (xb mi) mi pc (14, a, b, d) = true) (hs : xsem 14 a b d mi pc k ls st M = some (.inl q)) (hK : xW B p l e R s m args below meth c mi Q q.1 q.2.1 q.2.2.1 q.2.2.2.1 q.2.2.2.2) : xW B p l e R s m args below meth c mi Q pc k ls st M := by
  obtain ⟨hx, hb, hml, hown, -⟩ := C
  simp only [xsem] at hs
  split at hs
  · rename_i i pp r
    split at hs
    · rename_i hc
      obtain ⟨hkd, h0, h1, hi⟩ := hc
      simp only [xgo, Option.some.injEq, Sum.inl.injEq] at hs
      subst hs
      intro H locs Ls hR hS hL
      have hk := hK H locs Ls hR hS hL
      simp only [List.map_cons] at hk ⊢
      rcases hkd with hkd | hkd
      · have hlow := hR.low hkd (by omega) (by omega)
        rw [xr_pos (p := pp) (by omega)]
        have he := xws_at (B := B) hlow
        rw [xce_1 hkd] at he
        refine va_iald hx hb E.1 hR.2.2.1 (pp - 3) 0 he xt_0 (xvp h0 h1 hi) (xdc_eq hok) ?_
        rw [xcl_nat h0 hi]
        exact hk
      · have go : xX B M s H pp → 0 < pp → W p l e R s m args below meth c H locs k.1 k.2 Q (F0 m pc Ls (xr B (.inl i) :: xr B (.inr pp) :: r.map (xr B))) := fun hX hp => by
          obtain ⟨-, -, scr, g1, g2, g3, g4, g5⟩ := hX
          rw [xr_pos hp]
          refine W.iald (v := xr B (.inl (M.2 pp i.toNat))) hx hb g1 g2 g3 (fun z => xvp h0 h1 hi (z.imp id (fun z => Nat.le_trans g4.1 z))) ?_ rfl rfl (xdc_eq hok) hk
          rw [xcl_nat h0 hi]
          exact g5 _ (by omega)
        rcases xlow5 hR hkd with (rfl | rfl) | hlow
        · exact go hR.2.2.2.2.1 (by omega)
        · exact go hR.2.2.2.2.2.1 (by omega)
        · exact absurd hkd (hR.2.2.2.2.2.2 pp hlow.1)
    · cases hs
  · cases hs
theorem xg15 (C : xCx p R s m meth c mi) (E : xE B s s.heap) {pc : Nat} {k : Nat × Nat} {ls : xL} {st : List xV} {M : xM} {a : Int} {b d : Nat} {q : Nat × (Nat × Nat) × xL × List xV × xM}
    (hok : xokb (xy mi).cls (decide ((xy mi).name = "<init>")) (xmi mi 0) (xb mi) mi pc (15, a, b, d) = true) (hs : xsem 15 a b d mi pc k ls st M = some (.inl q)) (hK : xW B p l e R s m args below meth c mi Q q.1 q.2.1 q.2.2.1 q.2.2.2.1 q.2.2.2.2) : xW B p l e R s m args below meth c mi Q pc k ls st M := by
  obtain ⟨hx, hb, hml, hown, -⟩ := C
  simp only [xsem] at hs
  split at hs
  · rename_i x i pp r
    split at hs
    · rename_i hc
      obtain ⟨hkd, h0, h1, hi⟩ := hc
      simp only [xgo, Option.some.injEq, Sum.inl.injEq] at hs
      subst hs
      intro H locs Ls hR hS hL
      simp only [List.map_cons]
      have hlow := hR.low hkd (by omega) (by omega)
      rw [xr_pos (p := pp) (by omega)]
      have he := xws_at (B := B) hlow
      rw [xce_1 hkd] at he
      refine W.iast hx hb (hR.2.2.1 _ _ he) ((E.1.2 0 _ xt_0).1 _ _) (fun z => by cases z) (by show ¬ (_ ∨ (arrV _ _ _).slots.size ≤ _); rw [arrV_size]; exact xvp h0 h1 hi) rfl rfl (xdc_eq hok) fun H1 e1 z oq => ?_
      refine hK H1 _ Ls (hR.upd (M' := xwr M pp i.toNat x) hlow rfl (fun _ _ => rfl) (fun z hz => by funext j; simp [xwr, hz]) (xce_1 (M := xwr M pp i.toNat x) hkd) (fun z hz => xce_wr_ne B M x hz) (hR.2.2.1.set (xws_D B M) he ?_ oq) z (xbelow hlow.1 oq) (by rw [xat_wr, hkd]; omega)) (hS.put z oq ((xws_D B M).2 _ _ he)) hL
      show H1[xad B pp]? = some (vp_cell _ _)
      rw [e1]
      dsimp only
      rw [vp_cell_i, vp_cell_i, arrV_store, xcl_nat h0 hi]
      congr 2
      funext j
      by_cases hj : j = i.toNat
      · subst hj; simp [updV, xwr]
      · simp [updV, xwr, hj]
    · cases hs
  · cases hs
theorem xg16 (C : xCx p R s m meth c mi) (E : xE B s s.heap) {pc : Nat} {k : Nat × Nat} {ls : xL} {st : List xV} {M : xM} {a : Int} {b d : Nat} {q : Nat × (Nat × Nat) × xL × List xV × xM}
    (hok : xokb (xy mi).cls (decide ((xy mi).name = "<init>")) (xmi mi 0) (xb mi) mi pc (16, a, b, d) = true) (hs : xsem 16 a b d mi pc k ls st M = some (.inl q)) (hK : xW B p l e R s m args below meth c mi Q q.1 q.2.1 q.2.2.1 q.2.2.2.1 q.2.2.2.2) : xW B p l e R s m args below meth c mi Q pc k ls st M := by
  obtain ⟨hx, hb, hml, hown, -⟩ := C
  simp only [xsem] at hs
  split at hs
  · rename_i i pp r
    split at hs
    · rename_i hc
      obtain ⟨hkd, h0, h1, hi⟩ := hc
      simp only [xgo, Option.some.injEq, Sum.inl.injEq] at hs
      subst hs
      intro H locs Ls hR hS hL
      have hk := hK H locs Ls hR hS hL
      simp only [List.map_cons] at hk ⊢
      have hlow : 3 ≤ pp ∧ pp < M.1.length := by
        rcases hkd with h | h | h
        · exact hR.low h (by omega) (by omega)
        · exact hR.low h (by omega) (by omega)
        · exact hR.low h (by omega) (by omega)
      rw [xr_pos (p := pp) (by omega)]
      have he := xws_at (B := B) hlow
      have hlt : (Int32.ofInt i).toNatClampNeg < (xat M pp).2.1 := by rw [xcl_nat h0 hi]; omega
      have go : ∀ (cA : ClassId) (ty : FieldType) (t0 : Nat), (xtys B)[t0]? = some (cA, ty) → ty.isReference = true → xce B M pp = .inl (cA, (xat M pp).2.1, .inr (.inr (.inr (.inr (xra B M pp))))) → W p l e R s m args below meth c H locs k.1 k.2 Q (F0 m pc Ls (xr B (.inl i) :: .ref (xad B pp) :: r.map (xr B))) := fun cA ty t0 ht hrf hce => by
        rw [hce] at he
        refine W.aald (v := xr B (.inr ((xat M pp).2.2 i.toNat))) (ty := ty) hx hb (hR.2.2.1 _ _ he) ((E.1.2 t0 _ ht).1 _ (fun j => va_rf (xra B M pp j))) hrf (fun z => by cases z) (by show ¬ (_ ∨ (arrV _ _ _).slots.size ≤ _); rw [arrV_size]; exact xvp h0 h1 hi) ?_ rfl rfl (xdc_eq hok) hk
        show (arrV _ _ _).slots[_]? = _
        rw [arrV_read _ _ hlt, xcl_nat h0 hi]
        rfl
      rcases hkd with h | h | h
      · exact go _ _ 1 xt_1 rfl (xce_2 h)
      · exact go _ _ 2 xt_2 rfl (xce_3 h)
      · exact go _ _ 3 xt_3 rfl (xce_4 h)
    · cases hs
  · cases hs
theorem xg17 (C : xCx p R s m meth c mi) (E : xE B s s.heap) {pc : Nat} {k : Nat × Nat} {ls : xL} {st : List xV} {M : xM} {a : Int} {b d : Nat} {q : Nat × (Nat × Nat) × xL × List xV × xM}
    (hok : xokb (xy mi).cls (decide ((xy mi).name = "<init>")) (xmi mi 0) (xb mi) mi pc (17, a, b, d) = true) (hs : xsem 17 a b d mi pc k ls st M = some (.inl q)) (hK : xW B p l e R s m args below meth c mi Q q.1 q.2.1 q.2.2.1 q.2.2.2.1 q.2.2.2.2) : xW B p l e R s m args below meth c mi Q pc k ls st M := by
  obtain ⟨hx, hb, hml, hown, -⟩ := C
  simp only [xsem] at hs
  split at hs
  · rename_i v i pp r
    split at hs
    · rename_i hc
      obtain ⟨hkd, h0, h1, hi⟩ := hc
      simp only [xgo, Option.some.injEq, Sum.inl.injEq] at hs
      subst hs
      intro H locs Ls hR hS hL
      simp only [List.map_cons]
      have hlow : 3 ≤ pp ∧ pp < M.1.length := by
        rcases hkd with ⟨h, -⟩ | ⟨h, -⟩
        · exact hR.low h (by omega) (by omega)
        · exact hR.low h (by omega) (by omega)
      rw [xr_pos (p := pp) (by omega), xr_ref]
      have he := xws_at (B := B) hlow
      have hlt : (Int32.ofInt i).toNatClampNeg < (xat M pp).2.1 := by rw [xcl_nat h0 hi]; omega
      have hn0 : ¬ Int32.ofInt i < 0 := fun z => (xvp h0 h1 hi) (Or.inl z)
      have go : ∀ (cA : ClassId) (ci t0 : Nat) (kd : Nat), ci < 8 → kd ≠ 5 → (xtys B)[t0]? = some (cA, .object (xCn ci)) → (xat M (v + 1)).1 = 10 + ci → (xat M pp).1 = kd → (∀ M' : xM, (xat M' pp).1 = kd → xce B M' pp = .inl (cA, (xat M' pp).2.1, .inr (.inr (.inr (.inr (xra B M' pp)))))) → W p l e R s m args below meth c H locs k.1 k.2 Q (F0 m pc Ls (.ref (xad B (v + 1)) :: xr B (.inl i) :: .ref (xad B pp) :: r.map (xr B))) := fun cA ci t0 kd hci hkd5 ht hvk hpk hce => by
        have hlv := hR.low hvk (by omega) (by omega)
        have hev := xws_at (B := B) hlv
        rw [xce_obj hvk] at hev
        rw [hce M hpk] at he
        have hcl := xcl_at ci hci
        obtain ⟨r', hr', cellV, g1, g2, g3, -⟩ := hR.2.2.1 _ _ hev
        have hcls := (E.1.1 ci _ hcl).2
        obtain ⟨kA, comp, k1, k2, k3, -⟩ := (E.1.2 t0 _ ht).2
        have hcomp : comp = B.1.1 ci := Option.some.inj (k3.symm.trans hcls.1)
        subst hcomp
        obtain ⟨kC, hkC, -⟩ := id hcls.2
        refine W.aast hx hb (hR.2.2.1 _ _ he) (fun z h => by cases h) (fun h => by cases h) k1 k2 rfl hkC ⟨hn0, by show _ < (arrV _ _ _).slots.size; rw [arrV_size]; exact hlt⟩ g1 (fun z h => by rw [g3] at h; cases h) (by rw [g2]; exact hkC) (by rw [g2]; exact va_assign hcls) rfl rfl (xdc_eq hok) fun H1 e1 z oq => ?_
        have hk' : (xat (xwref M pp i.toNat (v + 1)) pp).1 = kd := by rw [xat_wref M _ _ hlow.2]; exact hpk
        refine hK H1 _ Ls (hR.upd (M' := xwref M pp i.toNat (v + 1)) hlow (by simp [xwref]) (fun z hz => xat_wref_ne M hz) (fun z hz => rfl) (hce _ hk') (fun z hz => xce_wref_ne B M hz) (hR.2.2.1.set (xws_D B M) he ?_ oq) z (xbelow hlow.1 oq) (by rw [hk']; exact hkd5)) (hS.put z oq ((xws_D B M).2 _ _ he)) hL
        show H1[xad B pp]? = some (vp_cell _ _)
        rw [e1]
        dsimp only
        rw [vp_cell_q, vp_cell_q, arrV_store, xcl_nat h0 hi]
        unfold xra
        rw [xat_wref M _ _ hlow.2]
        congr 2
        funext j
        by_cases hj : j = i.toNat
        · subst hj; simp [updV, xro, va_rf]
        · simp [updV, hj]
      rcases hkd with ⟨h, h2⟩ | ⟨h, h2⟩
      · exact go _ 3 1 2 (by omega) (by omega) xt_1 h2 h (fun M' h' => xce_2 h')
      · exact go _ 4 2 3 (by omega) (by omega) xt_2 h2 h (fun M' h' => xce_3 h')
    · cases hs
  · cases hs
theorem xg18 (C : xCx p R s m meth c mi) (E : xE B s s.heap) {pc : Nat} {k : Nat × Nat} {ls : xL} {st : List xV} {M : xM} {a : Int} {b d : Nat} {q : Nat × (Nat × Nat) × xL × List xV × xM}
    (hok : xokb (xy mi).cls (decide ((xy mi).name = "<init>")) (xmi mi 0) (xb mi) mi pc (18, a, b, d) = true) (hs : xsem 18 a b d mi pc k ls st M = some (.inl q)) (hK : xW B p l e R s m args below meth c mi Q q.1 q.2.1 q.2.2.1 q.2.2.2.1 q.2.2.2.2) : xW B p l e R s m args below meth c mi Q pc k ls st M := by
  obtain ⟨hx, hb, hml, hown, -⟩ := C
  simp only [xsem] at hs
  split at hs
  · rename_i pp r
    split at hs
    · rename_i hkd
      simp only [xgo, Option.some.injEq, Sum.inl.injEq] at hs
      subst hs
      intro H locs Ls hR hS hL
      have hk := hK H locs Ls hR hS hL
      simp only [List.map_cons] at hk ⊢
      have hof : (Int32.ofNat (xat M pp).2.1) = Int32.ofInt ((xat M pp).2.1 : Int) := (Int32.ofInt_eq_ofNat).symm
      rcases hkd with hkd | hkd
      · have hlow := hR.low hkd (by omega) (by omega)
        rw [xr_pos (p := pp) (by omega)]
        have he := xws_at (B := B) hlow
        rw [xce_1 hkd] at he
        exact va_alen hx hb E.1 hR.2.2.1 (pp - 3) 0 he xt_0 hof (xdc_eq hok) hk
      · have go : xX B M s H pp → 0 < pp → W p l e R s m args below meth c H locs k.1 k.2 Q (F0 m pc Ls (xr B (.inr pp) :: r.map (xr B))) := fun hX hp => by
          obtain ⟨-, -, scr, g1, g2, g3, g4, g5⟩ := hX
          rw [xr_pos hp]
          exact W.alen hx hb g1 g2 (g4.2.trans hof) rfl rfl (xdc_eq hok) hk
        rcases xlow5 hR hkd with (rfl | rfl) | hlow
        · exact go hR.2.2.2.2.1 (by omega)
        · exact go hR.2.2.2.2.2.1 (by omega)
        · exact absurd hkd (hR.2.2.2.2.2.2 pp hlow.1)
    · cases hs
  · cases hs
theorem xg23 (C : xCx p R s m meth c mi) {pc : Nat} {k : Nat × Nat} {ls : xL} {st : List xV} {M : xM} {a : Int} {b d : Nat} {q : Nat × (Nat × Nat) × xL × List xV × xM}
    (hok : xokb (xy mi).cls (decide ((xy mi).name = "<init>")) (xmi mi 0) (xb mi) mi pc (23, a, b, d) = true) (hs : xsem 23 a b d mi pc k ls st M = some (.inl q)) (hK : xW B p l e R s m args below meth c mi Q q.1 q.2.1 q.2.2.1 q.2.2.2.1 q.2.2.2.2) : xW B p l e R s m args below meth c mi Q pc k ls st M := by
  obtain ⟨hx, hb, hml, hown, -⟩ := C
  simp only [xsem] at hs
  split at hs
  · simp only [xgo, Option.some.injEq, Sum.inl.injEq] at hs
    subst hs
    intro H locs Ls hR hS hL
    exact lv_dup hx hb (xdc_eq hok) (xr_cat B _) (hK H locs Ls hR hS hL)
  · cases hs
theorem xg24 (C : xCx p R s m meth c mi) {pc : Nat} {k : Nat × Nat} {ls : xL} {st : List xV} {M : xM} {a : Int} {b d : Nat} {q : Nat × (Nat × Nat) × xL × List xV × xM}
    (hok : xokb (xy mi).cls (decide ((xy mi).name = "<init>")) (xmi mi 0) (xb mi) mi pc (24, a, b, d) = true) (hs : xsem 24 a b d mi pc k ls st M = some (.inl q)) (hK : xW B p l e R s m args below meth c mi Q q.1 q.2.1 q.2.2.1 q.2.2.2.1 q.2.2.2.2) : xW B p l e R s m args below meth c mi Q pc k ls st M := by
  obtain ⟨hx, hb, hml, hown, -⟩ := C
  simp only [xsem] at hs
  split at hs
  · simp only [xgo, Option.some.injEq, Sum.inl.injEq] at hs
    subst hs
    intro H locs Ls hR hS hL
    exact lv_pop hx hb (xdc_eq hok) (xr_cat B _) (hK H locs Ls hR hS hL)
  · cases hs
theorem xg25 (C : xCx p R s m meth c mi) {pc : Nat} {k : Nat × Nat} {ls : xL} {st : List xV} {M : xM} {a : Int} {b d : Nat} {q : Nat × (Nat × Nat) × xL × List xV × xM}
    (hok : xokb (xy mi).cls (decide ((xy mi).name = "<init>")) (xmi mi 0) (xb mi) mi pc (25, a, b, d) = true) (hs : xsem 25 a b d mi pc k ls st M = some (.inl q)) (hK : xW B p l e R s m args below meth c mi Q q.1 q.2.1 q.2.2.1 q.2.2.2.1 q.2.2.2.2) : xW B p l e R s m args below meth c mi Q pc k ls st M := by
  obtain ⟨hx, hb, hml, hown, -⟩ := C
  simp only [xsem] at hs
  split at hs
  · simp only [xgo, Option.some.injEq, Sum.inl.injEq] at hs
    subst hs
    intro H locs Ls hR hS hL
    exact lv_dup2_11 hx hb (xdc_eq hok) (xr_cat B _) (xr_cat B _) (hK H locs Ls hR hS hL)
  · cases hs
theorem xsum (B : xB) : ∀ st : List xV, ((st.map (xr B)).map fun v => v.category).sum = st.length
  | [] => rfl
  | v :: t => by
    have := xsum B t
    simp only [List.map_cons, List.sum_cons, xr_cat, List.length_cons]
    rw [this]; omega
theorem xlk0_eq {own : String} {cc : ByteArray} {pc kd i0 : Nat} {y : MethodName} (h : xlk0 own cc pc kd y (xwd i0) = true) : ∃ i, xwd i0 = some (.methodLink own i y) ∧ decode cc pc = .ok (xiv kd i, 3) := by
  unfold xlk0 at h
  split at h
  · rename_i o i z hw
    simp only [Bool.and_eq_true, decide_eq_true_eq] at h
    obtain ⟨rfl, rfl, h⟩ := h
    exact ⟨i, hw, xdc_eq h⟩
  · cases h
theorem xg26 (C : xCx p R s m meth c mi) (E : xE B s s.heap) {pc : Nat} {k : Nat × Nat} {ls : xL} {st : List xV} {M : xM} {a : Int} {b d : Nat} {q : Nat × (Nat × Nat) × xL × List xV × xM}
    (hok : xokb (xy mi).cls (decide ((xy mi).name = "<init>")) (xmi mi 0) (xb mi) mi pc (26, a, b, d) = true) (hs : xsem 26 a b d mi pc k ls st M = some (.inl q)) (hK : xW B p l e R s m args below meth c mi Q q.1 q.2.1 q.2.2.1 q.2.2.2.1 q.2.2.2.2) : xW B p l e R s m args below meth c mi Q pc k ls st M := by
  obtain ⟨hx, hb, hml, hown, -, -, -, hr1, hr2, -⟩ := C
  simp only [xsem] at hs
  split at hs
  · rename_i pp r
    split at hs
    · rename_i hc
      obtain ⟨c1, c2, c3⟩ := hc
      simp only [xgo, Option.some.injEq, Sum.inl.injEq] at hs
      subst hs
      intro H locs Ls hR hS hL
      have hk := hK H locs Ls hR hS hL
      simp only [List.map_cons, xr_ref]
      obtain ⟨i, hw, hd⟩ := xlk0_eq hok
      refine W.objInit hx hb hown (E.2.1.get hw rfl args) (E.2.1.get xw_obi rfl args) (E.2.1.get xw_obc rfl args) rfl (by rw [hml]; exact hL.1) rfl hd (by omega) (by rw [xsum]; show 2 * 0 + _ + _ ≤ _; omega) hk
    · cases hs
  · cases hs
theorem xg31 (C : xCx p R s m meth c mi) (E : xE B s s.heap) {pc : Nat} {k : Nat × Nat} {ls : xL} {st : List xV} {M : xM} {a : Int} {b d : Nat} {q : Nat × (Nat × Nat) × xL × List xV × xM}
    (hok : xokb (xy mi).cls (decide ((xy mi).name = "<init>")) (xmi mi 0) (xb mi) mi pc (31, a, b, d) = true) (hs : xsem 31 a b d mi pc k ls st M = some (.inl q)) (hK : xW B p l e R s m args below meth c mi Q q.1 q.2.1 q.2.2.1 q.2.2.2.1 q.2.2.2.2) : xW B p l e R s m args below meth c mi Q pc k ls st M := by
  obtain ⟨hx, hb, hml, hown, -⟩ := C
  simp only [xsem, xgo, Option.some.injEq, Sum.inl.injEq] at hs
  subst hs
  intro H locs Ls hR hS hL
  have hk := hK H locs Ls hR hS hL
  simp only [List.map_cons, xr_ref] at hk
  simp only [xokb] at hok
  unfold xgs at hok
  split at hok
  · rename_i o i r n d1 hw
    simp only [Bool.and_eq_true, decide_eq_true_eq] at hok
    obtain ⟨rfl, rfl, rfl, rfl, h⟩ := hok
    exact va_gets hx hb E.2.2.2 hS hown (E.2.1.get hw rfl args) (fun _ z => z) (xdc_eq h) hk
  · cases hok
theorem xg32 (C : xCx p R s m meth c mi) {pc : Nat} {k : Nat × Nat} {ls : xL} {st : List xV} {M : xM} {a : Int} {b d : Nat} {q : Nat × (Nat × Nat) × xL × List xV × xM}
    (hok : xokb (xy mi).cls (decide ((xy mi).name = "<init>")) (xmi mi 0) (xb mi) mi pc (32, a, b, d) = true) (hs : xsem 32 a b d mi pc k ls st M = some (.inl q)) (hK : xW B p l e R s m args below meth c mi Q q.1 q.2.1 q.2.2.1 q.2.2.2.1 q.2.2.2.2) : xW B p l e R s m args below meth c mi Q pc k ls st M := by
  obtain ⟨hx, hb, hml, hown, -⟩ := C
  simp only [xsem] at hs
  split at hs
  · rename_i x r
    split at hs
    · rename_i hxk
      simp only [xgo, Option.some.injEq, Sum.inl.injEq] at hs
      subst hs
      intro H locs Ls hR hS hL
      have hk := hK H locs Ls hR hS hL
      simp only [List.map_cons, xr]
      have hd := xdc_eq hok
      have hv := xti hxk
      dsimp only at hk
      split at hk
      · rename_i hc
        exact lv_tableOut (tgt := b) hx hb hd (by rw [hv]; omega) (by omega) hk
      · rename_i hc
        have hlt : (x - a).toNat < (xsw mi pc).length := by omega
        refine lv_tableIn (tgt := xnth (xsw mi pc) (x - a).toNat 0) (off := ((xnth (xsw mi pc) (x - a).toNat 0 : Nat) : Int) - pc) hx hb hd (by rw [hv]; omega) (by rw [hv]; omega) ?_ (by omega) hk
        rw [hv, xnth_get]
        simp [hlt]
    · cases hs
  · cases hs
theorem xg33 (C : xCx p R s m meth c mi) (E : xE B s s.heap) {pc : Nat} {k : Nat × Nat} {ls : xL} {st : List xV} {M : xM} {a : Int} {b d : Nat} {q : Nat × (Nat × Nat) × xL × List xV × xM} (hkc : k.1 ≤ xmi mi 7 ∧ k.2 ≤ xmi mi 8)
    (hok : xokb (xy mi).cls (decide ((xy mi).name = "<init>")) (xmi mi 0) (xb mi) mi pc (33, a, b, d) = true) (hs : xsem 33 a b d mi pc k ls st M = some (.inl q)) (hK : xW B p l e R s m args below meth c mi Q q.1 q.2.1 q.2.2.1 q.2.2.2.1 q.2.2.2.2) : xW B p l e R s m args below meth c mi Q pc k ls st M := by
  obtain ⟨hx, hb, hml, hown, -, -, -, hr1, hr2, hr3, hr4⟩ := C
  simp only [xsem] at hs
  split at hs
  · rename_i y x r
    split at hs
    · rename_i hc
      obtain ⟨kx, ky, c1, c2, c3⟩ := hc
      simp only [xgo, Option.some.injEq, Sum.inl.injEq] at hs
      subst hs
      intro H locs Ls hR hS hL
      have hk := hK H locs Ls hR hS hL
      simp only [List.map_cons, xr] at hk ⊢
      obtain ⟨i, hw, hd⟩ := xlk0_eq hok
      refine va_mmin hx hb (by rw [hml]; exact hL.1.symm) hown (E.2.1.get hw rfl args) (E.2.1.get xw_mis rfl args) (E.2.1.get xw_mai rfl args) (E.2.1.get xw_mic rfl args) (by omega) (by rw [xsum]; omega) (by omega) (by omega) hd ?_
      by_cases h : y < x
      · rw [if_pos h] at hk; rw [if_pos ((xi_lt ky kx).mpr h)]; exact hk
      · rw [if_neg h] at hk; rw [if_neg (fun z => h ((xi_lt ky kx).mp z))]; exact hk
    · cases hs
  · cases hs
theorem xg34 (C : xCx p R s m meth c mi) (E : xE B s s.heap) {pc : Nat} {k : Nat × Nat} {ls : xL} {st : List xV} {M : xM} {a : Int} {b d : Nat} {q : Nat × (Nat × Nat) × xL × List xV × xM} (hkc : k.1 ≤ xmi mi 7 ∧ k.2 ≤ xmi mi 8)
    (hok : xokb (xy mi).cls (decide ((xy mi).name = "<init>")) (xmi mi 0) (xb mi) mi pc (34, a, b, d) = true) (hs : xsem 34 a b d mi pc k ls st M = some (.inl q)) (hK : xW B p l e R s m args below meth c mi Q q.1 q.2.1 q.2.2.1 q.2.2.2.1 q.2.2.2.2) : xW B p l e R s m args below meth c mi Q pc k ls st M := by
  obtain ⟨hx, hb, hml, hown, -, -, -, hr1, hr2, hr3, hr4⟩ := C
  simp only [xsem] at hs
  split at hs
  · rename_i y x r
    split at hs
    · rename_i hc
      obtain ⟨kx, ky, c1, c2, c3⟩ := hc
      simp only [xgo, Option.some.injEq, Sum.inl.injEq] at hs
      subst hs
      intro H locs Ls hR hS hL
      have hk := hK H locs Ls hR hS hL
      simp only [List.map_cons, xr] at hk ⊢
      obtain ⟨i, hw, hd⟩ := xlk0_eq hok
      refine va_mmax hx hb (by rw [hml]; exact hL.1.symm) hown (E.2.1.get hw rfl args) (E.2.1.get xw_mas rfl args) (E.2.1.get xw_mai rfl args) (E.2.1.get xw_mac rfl args) (by omega) (by rw [xsum]; omega) (by omega) (by omega) hd ?_
      by_cases h : x < y
      · rw [if_pos h] at hk; rw [if_pos ((xi_lt kx ky).mpr h)]; exact hk
      · rw [if_neg h] at hk; rw [if_neg (fun z => h ((xi_lt kx ky).mp z))]; exact hk
    · cases hs
  · cases hs
end XSG
end
section
/-! ===== new cells; arraycopy ===== -/
section XSH
variable {p : Program} {l : Launch} {e : Env} {R : Room} {s : State} {m : MethodId} {args : Array Value} {below : List Frame} {meth : Method} {c : Code} {Q : State → Prop} {B : xB} {mi : Nat}
theorem xat_app {M M' : xM} {cs : List xC} (hl : M'.1 = M.1 ++ cs) {q : Nat} (hq : q < M.1.length) : xat M' q = xat M q := by
  unfold xat; rw [hl]; exact xnth_app _ _ _ hq
theorem xat_app2 {M M' : xM} {cs : List xC} (hl : M'.1 = M.1 ++ cs) (k : Nat) : xat M' (M.1.length + k) = xnth cs k (0, 0, fun _ => 0) := by
  unfold xat; rw [hl]; exact xnth_app2 _ _ _
theorem xce_app {M M' : xM} {cs : List xC} (hl : M'.1 = M.1 ++ cs) {q : Nat} (hq : q < M.1.length) (hf : M'.2 q = M.2 q) : xce B M' q = xce B M q := by
  unfold xce xfs xra; rw [xat_app hl hq, hf]
theorem xR.app {U : State} {M M' : xM} {H H1 : Heap} {cs : List xC} (h : xR B U M H) (hl : M'.1 = M.1 ++ cs) (hf : ∀ q, q < M.1.length → M'.2 q = M.2 q) (hz : H1.size = H.size + cs.length) (hk : ∀ q, q < H.size → H1[q]? = H[q]?) (hc : ∀ k, k < cs.length → va_at B.1 xcl (xad B (M.1.length + k), xce B M' (M.1.length + k)) H1) (h5 : ∀ k, k < cs.length → (xnth cs k (0, 0, fun _ => 0)).1 ≠ 5) : xR B U M' H1 := by
  obtain ⟨e1, e2, e3, e4, e5, e6, e7⟩ := h
  have hlen : M'.1.length = M.1.length + cs.length := by rw [hl, List.length_append]
  have hb : ∀ q, q < xba B → H1[q]? = H[q]? := fun q hq => hk q (by omega)
  refine ⟨by omega, by rw [hz, e2, hlen]; omega, ?_, by rw [xat_app hl (by omega)]; exact e4, e5.kept hb (xat_app hl (by omega)) (hf 1 (by omega)), e6.kept hb (xat_app hl (by omega)) (hf 2 (by omega)), fun q hq => ?_⟩
  · rw [xws_app e1 hl (fun q hq => xce_app hl hq (hf q hq))]
    refine va_P.app (e3.kept (fun k q hq => hk q.1 ((e3 k q hq).lt))) (fun k q hq => ?_)
    rw [List.getElem?_map] at hq
    by_cases hkc : k < cs.length
    · rw [List.getElem?_range hkc] at hq
      simp only [Option.map_some, Option.some.injEq] at hq
      rw [← hq]
      exact hc k hkc
    · rw [List.getElem?_eq_none (by simp; omega)] at hq
      cases hq
  · by_cases hq2 : q < M.1.length
    · rw [xat_app hl hq2]; exact e7 q hq
    · by_cases hq3 : q - M.1.length < cs.length
      · have := h5 _ hq3
        rw [← xat_app2 hl, show M.1.length + (q - M.1.length) = q by omega] at this
        exact this
      · unfold xat; rw [xnth_of_le _ _ _ (by omega)]; exact (by decide)
theorem xR.top {U : State} {M : xM} {H : Heap} (h : xR B U M H) (k : Nat) : xad B (M.1.length + k) = H.size + k := by
  rw [xad_ge (by have := h.1; omega), h.2.1]; have := h.1; omega
theorem xcl1_eq {own C : String} {cc : ByteArray} {pc n i0 : Nat} {f : Nat → Instr} (h : xcl1 own C cc pc f n (xwd i0) = true) : ∃ i, xwd i0 = some (.classLink own i C) ∧ decode cc pc = .ok (f i, n) := by
  unfold xcl1 at h
  split at h
  · rename_i o i z hw
    simp only [Bool.and_eq_true, decide_eq_true_eq] at h
    obtain ⟨rfl, rfl, h⟩ := h
    exact ⟨i, hw, xdc_eq h⟩
  · cases h
theorem xiw_at {b : Nat} (hb : b < 8) : xwd (xnth xiw b (0, 0)).1 = some (.instantiable (xCn b) (xN b)) ∧ xwd (xnth xiw b (0, 0)).2 = some (.initialized (xCn b)) := by
  have := List.all_eq_true.mp xiw_ok b (List.mem_range.mpr hb)
  simp only [Bool.and_eq_true, decide_eq_true_eq] at this
  exact this
theorem xg19 (C : xCx p R s m meth c mi) (E : xE B s s.heap) {pc : Nat} {k : Nat × Nat} {ls : xL} {st : List xV} {M : xM} {a : Int} {b d : Nat} {q : Nat × (Nat × Nat) × xL × List xV × xM}
    (hok : xokb (xy mi).cls (decide ((xy mi).name = "<init>")) (xmi mi 0) (xb mi) mi pc (19, a, b, d) = true) (hs : xsem 19 a b d mi pc k ls st M = some (.inl q)) (hK : xW B p l e R s m args below meth c mi Q q.1 q.2.1 q.2.2.1 q.2.2.2.1 q.2.2.2.2) : xW B p l e R s m args below meth c mi Q pc k ls st M := by
  obtain ⟨hx, hb, hml, hown, -, -, -, hr1, hr2, hr3, hr4⟩ := C
  simp only [xsem] at hs
  split at hs
  · rename_i hc
    simp only [xgo, Option.some.injEq, Sum.inl.injEq] at hs
    subst hs
    intro H locs Ls hR hS hL
    simp only [xokb, Bool.and_eq_true, decide_eq_true_eq] at hok
    obtain ⟨hb8, hok⟩ := hok
    obtain ⟨i, hw, hd⟩ := xcl1_eq hok
    obtain ⟨w1, w2⟩ := xiw_at hb8
    have hcl := xcl_at b hb8
    have hKn := E.1.1 b _ hcl
    obtain ⟨⟨ty0, htys⟩, hnm⟩ := xap b hb8
    refine W.newcK hx hb hown (E.2.1.get hw rfl args) (E.2.1.get w1 rfl args) (E.2.1.get w2 rfl args) rfl hd (by omega) (by omega) hKn.2.1 rfl fun H1 kC hkC e1 z1 o1 => ?_
    have htop := hR.top 0
    have hkd : (xat (xnew M (10 + b) (xN b)) (M.1.length + 0)).1 = 10 + b := by rw [xat_app2 (M' := xnew M (10 + b) (xN b)) rfl]; rfl
    have hk := hK H1 locs Ls (hR.app (M' := xnew M (10 + b) (xN b)) (cs := [(10 + b, xN b, fun _ => 0)]) rfl (fun q hq => by funext j; simp [xnew, Nat.ne_of_lt hq]) z1 o1 (fun j hj => ?_) (fun j hj => ?_)) ⟨Nat.le_trans hS.1 (by omega), fun x h1 h2 => (o1 x (Nat.lt_of_lt_of_le h1 hS.1)).trans (hS.2.1 x h1 h2), hS.2.2⟩ hL
    · simp only [List.map_cons] at hk
      rw [xr_pos (by have := hR.1; omega)] at hk
      rw [show M.1.length + 0 = M.1.length from rfl] at htop
      rw [htop] at hk
      exact hk
    · have hj0 : j = 0 := by simpa using hj
      subst hj0
      rw [xce_obj hkd, htop]
      refine ⟨_, hcl, (u_born ty0 (E.2.1.ws args) (xus_at b hb8) hKn hkC e1 htys).to (fun j hj => ?_)⟩
      obtain ⟨t, ht, t1, t2, t3⟩ := xty_at hb8 hj
      have et : ty0 j = t := Option.some.inj ((htys j hj).symm.trans ht)
      have hv : vp_V (xfs B (xnew M (10 + b) (xN b)) (M.1.length + 0) b) j = xr B (if xrf b j then .inr 0 else .inl 0) := by
        unfold vp_V
        rw [List.getD_eq_getElem?_getD, xfs_at hj]
        have e1 : (xat (xnew M (10 + b) (xN b)) (M.1.length + 0)).2.2 j = 0 := by rw [xat_app2 (M' := xnew M (10 + b) (xN b)) rfl]; rfl
        have e2 : (xnew M (10 + b) (xN b)).2 (M.1.length + 0) j = 0 := by simp [xnew]
        rw [e1, e2]
        rfl
      rw [hv, et]
      cases hrf : xrf b j with
      | true =>
        have := t1 hrf
        cases t <;> first | rfl | cases this
      | false =>
        cases hbf : xbf b j with
        | true => rw [t2 hrf hbf]; rfl
        | false => rw [t3 hrf hbf]; rfl
    · have hj0 : j = 0 := by simpa using hj
      subst hj0
      show 10 + b ≠ 5
      omega
  · cases hs
theorem xwrap {n : Int} (h0 : 0 ≤ n) (h1 : n ≤ 134217728) : xok n ∧ ¬ Int32.ofInt n < 0 ∧ (Int32.ofInt n).toNatClampNeg = n.toNat := by
  have hk : xok n := ⟨by omega, by omega⟩
  refine ⟨hk, fun z => ?_, xcl_nat h0 hk⟩
  rw [show (0 : Int32) = Int32.ofInt 0 from rfl, xi_lt hk ⟨by omega, by omega⟩] at z
  omega
theorem xg20 (C : xCx p R s m meth c mi) (E : xE B s s.heap) {pc : Nat} {k : Nat × Nat} {ls : xL} {st : List xV} {M : xM} {a : Int} {b d : Nat} {q : Nat × (Nat × Nat) × xL × List xV × xM}
    (hok : xokb (xy mi).cls (decide ((xy mi).name = "<init>")) (xmi mi 0) (xb mi) mi pc (20, a, b, d) = true) (hs : xsem 20 a b d mi pc k ls st M = some (.inl q)) (hK : xW B p l e R s m args below meth c mi Q q.1 q.2.1 q.2.2.1 q.2.2.2.1 q.2.2.2.2) : xW B p l e R s m args below meth c mi Q pc k ls st M := by
  obtain ⟨hx, hb, hml, hown, -, -, -, hr1, hr2, hr3, hr4⟩ := C
  simp only [xsem] at hs
  split at hs
  · rename_i n r
    split at hs
    · rename_i hc
      obtain ⟨h0, h1, h2, h3⟩ := hc
      simp only [xgo, Option.some.injEq, Sum.inl.injEq] at hs
      subst hs
      intro H locs Ls hR hS hL
      obtain ⟨hnk, hn0, hnn⟩ := xwrap h0 h1
      have hd := xdc_eq hok
      refine va_newaK (atype := .int) hx hb (E.2.1.get xw_int rfl args) rfl hd rfl hn0 hnn (by show n.toNat * 4 ≤ _; omega) (by omega) (by omega) rfl fun H1 cA e1 z1 o1 hAr hNm => ?_
      have hcA : cA = B.2.1.1 := Option.some.inj (hNm.symm.trans (E.1.2 0 _ xt_0).2)
      subst hcA
      have htop := hR.top 0
      have hkd : (xat (xnew M 1 n.toNat) (M.1.length + 0)) = (1, n.toNat, fun _ => 0) := by rw [xat_app2 (M' := xnew M 1 n.toNat) rfl]; rfl
      have hk := hK H1 locs Ls (hR.app (M' := xnew M 1 n.toNat) (cs := [(1, n.toNat, fun _ => 0)]) rfl (fun q hq => by funext j; simp [xnew, Nat.ne_of_lt hq]) z1 o1 (fun j hj => ?_) (fun j hj => ?_)) ⟨Nat.le_trans hS.1 (by omega), fun x h1 h2 => (o1 x (Nat.lt_of_lt_of_le h1 hS.1)).trans (hS.2.1 x h1 h2), hS.2.2⟩ hL
      · simp only [List.map_cons] at hk
        rw [xr_pos (by have := hR.1; omega)] at hk
        rw [show M.1.length + 0 = M.1.length from rfl] at htop
        rw [htop] at hk
        exact hk
      · have hj0 : j = 0 := by simpa using hj
        subst hj0
        rw [xce_1 (by rw [hkd]), htop, hkd]
        show H1[H.size + 0]? = some (vp_cell _ _)
        rw [Nat.add_zero, e1, vp_cell_i]
        congr 2
        funext j
        simp [xnew]
        rfl
      · have hj0 : j = 0 := by simpa using hj
        subst hj0
        show (1 : Nat) ≠ 5
        omega
    · cases hs
  · cases hs
theorem xg21 (C : xCx p R s m meth c mi) (E : xE B s s.heap) {pc : Nat} {k : Nat × Nat} {ls : xL} {st : List xV} {M : xM} {a : Int} {b d : Nat} {q : Nat × (Nat × Nat) × xL × List xV × xM}
    (hok : xokb (xy mi).cls (decide ((xy mi).name = "<init>")) (xmi mi 0) (xb mi) mi pc (21, a, b, d) = true) (hs : xsem 21 a b d mi pc k ls st M = some (.inl q)) (hK : xW B p l e R s m args below meth c mi Q q.1 q.2.1 q.2.2.1 q.2.2.2.1 q.2.2.2.2) : xW B p l e R s m args below meth c mi Q pc k ls st M := by
  obtain ⟨hx, hb, hml, hown, -, -, -, hr1, hr2, hr3, hr4⟩ := C
  simp only [xsem] at hs
  split at hs
  · rename_i n r
    split at hs
    · rename_i hc
      obtain ⟨h0, h1, h2, h3⟩ := hc
      simp only [xgo, Option.some.injEq, Sum.inl.injEq] at hs
      subst hs
      intro H locs Ls hR hS hL
      obtain ⟨hnk, hn0, hnn⟩ := xwrap h0 h1
      have go : ∀ (Cn : String) (cA : ClassId) (t0 i w0 : Nat), xwd a.toNat = some (.classLink (xy mi).cls i Cn) → decode (xb mi) pc = .ok (.anewarray i, 3) → xwd w0 = some (.arrayOver (.object Cn)) → (xtys B)[t0]? = some (cA, .object Cn) → b ≠ 5 → (∀ M' : xM, (xat M' (M.1.length + 0)).1 = b → xce B M' (M.1.length + 0) = .inl (cA, (xat M' (M.1.length + 0)).2.1, .inr (.inr (.inr (.inr (xra B M' (M.1.length + 0))))))) → W p l e R s m args below meth c H locs k.1 k.2 Q (F0 m pc Ls (xr B (.inl n) :: r.map (xr B))) := fun Cn cA t0 i w0 hw hd hwo ht hb5 hce => by
        refine W.anew hx hb hown (E.2.1.get hw rfl args) (E.2.1.get hwo rfl args) rfl hd rfl hn0 (by rw [hnn]; omega) (by omega) (by rw [hnn]; omega) fun cA' kA comp f1 f2 f3 f4 => ?_
        obtain ⟨kA', comp', k1, k2, k3, k4⟩ := (E.1.2 t0 _ ht).2
        have hcA : cA' = cA := Option.some.inj (f1.symm.trans k4)
        subst hcA
        rw [hnn]
        generalize hH1 : H.push ({ cls := cA', slots := Array.replicate n.toNat .null, vm := .none } : Cell) = H1
        have z1 : H1.size = H.size + 1 := by rw [← hH1, Array.size_push]
        have e1 : H1[H.size]? = some (arrV cA' n.toNat (fun _ => .null)) := by rw [← hH1, Array.getElem?_push_size, ← arrV_new]
        have o1 : ∀ q, q < H.size → H1[q]? = H[q]? := fun q hq => by rw [← hH1, Array.getElem?_push, if_neg (Nat.ne_of_lt hq)]
        have htop := hR.top 0
        have hkd : (xat (xnew M b n.toNat) (M.1.length + 0)) = (b, n.toNat, fun _ => 0) := by rw [xat_app2 (M' := xnew M b n.toNat) rfl]; rfl
        have hk := hK H1 locs Ls (hR.app (M' := xnew M b n.toNat) (cs := [(b, n.toNat, fun _ => 0)]) rfl (fun q hq => by funext j; simp [xnew, Nat.ne_of_lt hq]) z1 o1 (fun j hj => ?_) (fun j hj => ?_)) ⟨Nat.le_trans hS.1 (by omega), fun x h1 h2 => (o1 x (Nat.lt_of_lt_of_le h1 hS.1)).trans (hS.2.1 x h1 h2), hS.2.2⟩ hL
        · simp only [List.map_cons] at hk
          rw [xr_pos (by have := hR.1; omega)] at hk
          rw [show M.1.length + 0 = M.1.length from rfl] at htop
          rw [htop] at hk
          exact hk
        · have hj0 : j = 0 := by simpa using hj
          subst hj0
          rw [hce _ (by rw [hkd]), htop]
          show H1[H.size + 0]? = some (vp_cell _ _)
          rw [Nat.add_zero, e1, vp_cell_q]
          unfold xra
          rw [hkd]
          rfl
        · have hj0 : j = 0 := by simpa using hj
          subst hj0
          exact hb5
      simp only [xokb, Bool.or_eq_true, Bool.and_eq_true, decide_eq_true_eq] at hok
      rcases hok with ⟨rfl, hok⟩ | ⟨rfl, hok⟩
      · obtain ⟨i, hw, hd⟩ := xcl1_eq hok
        exact go _ _ 1 i _ hw hd xw_reed xt_1 (by omega) (fun M' h' => xce_2 h')
      · obtain ⟨i, hw, hd⟩ := xcl1_eq hok
        exact go _ _ 2 i _ hw hd xw_state xt_2 (by omega) (fun M' h' => xce_3 h')
    · cases hs
  · cases hs
theorem xg22 (C : xCx p R s m meth c mi) (E : xE B s s.heap) {pc : Nat} {k : Nat × Nat} {ls : xL} {st : List xV} {M : xM} {a : Int} {b d : Nat} {q : Nat × (Nat × Nat) × xL × List xV × xM}
    (hok : xokb (xy mi).cls (decide ((xy mi).name = "<init>")) (xmi mi 0) (xb mi) mi pc (22, a, b, d) = true) (hs : xsem 22 a b d mi pc k ls st M = some (.inl q)) (hK : xW B p l e R s m args below meth c mi Q q.1 q.2.1 q.2.2.1 q.2.2.2.1 q.2.2.2.2) : xW B p l e R s m args below meth c mi Q pc k ls st M := by
  obtain ⟨hx, hb, hml, hown, -, -, -, hr1, hr2, hr3, hr4⟩ := C
  simp only [xsem] at hs
  split at hs
  · rename_i w n r
    split at hs
    · rename_i hc
      obtain ⟨⟨h0, h1⟩, ⟨h2, h3⟩, h4, h5⟩ := hc
      simp only [xgo, Option.some.injEq, Sum.inl.injEq] at hs
      subst hs
      intro H locs Ls hR hS hL
      obtain ⟨hnk, hn0, hnn⟩ := xwrap h0 h1
      obtain ⟨hwk, hw0, hww⟩ := xwrap h2 h3
      obtain ⟨i, hw, hd⟩ := xcl1_eq hok
      intro T hT Xs
      obtain ⟨vm₁, cA, comp, -, fA, fC, hO, -, X', step⟩ := Xs.multianewarray2F (ty := .int) hx hown (E.2.1.get hw rfl args) (E.2.1.get xw_aint rfl args) (E.2.1.get xw_int rfl args) (g := F0 m pc Ls (xr B (.inl w) :: xr B (.inl n) :: r.map (xr B))) rfl (by rw [hb]; exact hd) rfl hn0 hw0 (by rw [hnn]; omega) (by rw [hww]; show w.toNat * 4 ≤ _; omega) (by rw [hww]; omega) rfl rfl (by rw [hnn]; omega) (by rw [hnn, hww]; omega)
      rw [hnn, hww] at X' step
      have hcA : cA = B.2.1.2.2.2 := Option.some.inj (fA.symm.trans (E.1.2 3 _ xt_3).2)
      have hcI : comp = B.2.1.1 := Option.some.inj (fC.symm.trans (E.1.2 0 _ xt_0).2)
      subst hcA
      subst hcI
      generalize hF : Jvm.Free.Multi.fill (T.setVm vm₁) B.2.1.2.2.2 B.2.1.1 n.toNat w.toNat (defaultValue .int) n.toNat = F at X' step
      have hTh : (T.setVm vm₁).heap = H := hT
      obtain ⟨f1, f2, -, -⟩ := Jvm.Free.Multi.fill_facts (T.setVm vm₁) B.2.1.2.2.2 B.2.1.1 n.toNat w.toNat (defaultValue .int) n.toNat
      rw [hF, hTh] at f1 f2
      have o1 : ∀ x : Nat, x < H.size → F.heap[x]? = H[x]? := fun x hx => by
        have := Jvm.Free.Multi.fill_old (T.setVm vm₁) B.2.1.2.2.2 B.2.1.1 n.toNat w.toNat (defaultValue .int) (a := x) (by rw [hTh]; exact hx) n.toNat
        rw [hF, hTh] at this
        exact this
      have hrow : ∀ j : Nat, j < n.toNat → F.heap[H.size + 1 + j]? = some (Jvm.Free.Multi.innerC B.2.1.1 w.toNat (defaultValue .int)) := fun j hj => by
        have := Jvm.Free.Multi.fill_inner (T.setVm vm₁) B.2.1.2.2.2 B.2.1.1 n.toNat w.toNat (defaultValue .int) n.toNat j hj
        rw [hF, hTh] at this
        exact this
      have hlen : ((4, n.toNat, fun i => M.1.length + 1 + i) :: List.replicate n.toNat ((1, w.toNat, fun _ => 0) : xC)).length = n.toNat + 1 := by simp
      have hcell : ∀ j, j < n.toNat → xnth (List.replicate n.toNat ((1, w.toNat, fun _ => 0) : xC)) j (0, 0, fun _ => 0) = (1, w.toNat, fun _ => 0) := fun j hj => by
        rw [xnth_get]; simp [hj]
      have hk := hK F.heap locs Ls (hR.app (M' := xnew2 M n.toNat w.toNat) (cs := (4, n.toNat, fun i => M.1.length + 1 + i) :: List.replicate n.toNat (1, w.toNat, fun _ => 0)) rfl (fun q hq => by funext j; simp [xnew2, Nat.not_le.mpr hq]) (by rw [f1, hlen]; omega) o1 (fun j hj => ?_) (fun j hj => ?_)) ⟨Nat.le_trans hS.1 (by rw [f1]; omega), fun x h1 h2 => (o1 x (Nat.lt_of_lt_of_le h1 hS.1)).trans (hS.2.1 x h1 h2), hS.2.2⟩ hL
      · obtain ⟨t, a1, b1⟩ := hk F rfl X'
        refine ⟨t, step t ?_, b1⟩
        simp only [List.map_cons] at a1
        rw [xr_pos (by have := hR.1; omega), show M.1.length = M.1.length + 0 from rfl, hR.top 0] at a1
        rw [hT]
        exact a1
      · rw [hR.top j]
        cases j with
        | zero =>
          have hkd : xat (xnew2 M n.toNat w.toNat) (M.1.length + 0) = (4, n.toNat, fun i => M.1.length + 1 + i) := by rw [xat_app2 (M' := xnew2 M n.toNat w.toNat) rfl]; rfl
          rw [xce_4 (by rw [hkd])]
          show F.heap[H.size + 0]? = some (vp_cell _ _)
          rw [Nat.add_zero, f2, vp_cell_q]
          unfold xra
          rw [hkd]
          have houter : ∀ (c : ClassId) (N h0 : Nat) (i : Nat), Jvm.Free.Multi.outerC c N h0 i = arrV c N (fun j => va_rf (if j < i then some (h0 + 1 + j) else none)) := by
            intro c N h0 i
            induction i with
            | zero =>
              show ({ cls := c, slots := Array.replicate N .null, vm := .none } : Cell) = _
              rw [arrV_new]
              refine congrArg (arrV c N) (funext fun j => ?_)
              simp [va_rf]
            | succ i ih =>
              show (Jvm.Free.Multi.outerC c N h0 i).setSlot i (.ref (h0 + 1 + i)) = _
              rw [ih, arrV_store]
              refine congrArg (arrV c N) (funext fun j => ?_)
              by_cases e : j = i
              · subst e
                simp [updV, va_rf]
              · by_cases h : j < i
                · simp [updV, e, h, Nat.lt_succ_of_lt h]
                · simp [updV, e, h, show ¬ j < i + 1 by omega]
          rw [houter]
          have hext : ∀ (f g : Nat → Value), (∀ j, j < n.toNat → f j = g j) → arrV B.2.1.2.2.2 n.toNat f = arrV B.2.1.2.2.2 n.toNat g := fun f g hfg => by
            unfold arrV
            congr 2
            funext j
            exact hfg j.1 j.2
          congr 1
          refine hext _ _ (fun j hj => ?_)
          have hpos := hR.1
          rw [if_pos hj]
          unfold xro
          dsimp only
          rw [if_neg (by omega), show M.1.length + 1 + j = M.1.length + (1 + j) by omega, hR.top (1 + j), Nat.add_assoc]
        | succ j =>
          have hj' : j < n.toNat := by rw [hlen] at hj; omega
          have hkd : xat (xnew2 M n.toNat w.toNat) (M.1.length + (j + 1)) = (1, w.toNat, fun _ => 0) := by
            rw [xat_app2 (M' := xnew2 M n.toNat w.toNat) rfl]
            exact hcell j hj'
          rw [xce_1 (by rw [hkd])]
          show F.heap[H.size + (j + 1)]? = some (vp_cell _ _)
          rw [show H.size + (j + 1) = H.size + 1 + j by omega, hrow j hj', vp_cell_i, hkd]
          congr 1
          show ({ cls := _, slots := Array.replicate w.toNat (.int 0), vm := .none } : Cell) = _
          rw [arrV_new]
          refine congrArg (arrV _ _) (funext fun i => ?_)
          simp [xnew2]
      · cases j with
        | zero => show (4 : Nat) ≠ 5; omega
        | succ j =>
          have hj' : j < n.toNat := by rw [hlen] at hj; omega
          show (xnth (List.replicate n.toNat ((1, w.toNat, fun _ => 0) : xC)) j (0, 0, fun _ => 0)).1 ≠ 5
          rw [hcell j hj']
          show (1 : Nat) ≠ 5
          omega
    · cases hs
  · cases hs
theorem xg27 (C : xCx p R s m meth c mi) (E : xE B s s.heap) {pc : Nat} {k : Nat × Nat} {ls : xL} {st : List xV} {M : xM} {a : Int} {b d : Nat} {q : Nat × (Nat × Nat) × xL × List xV × xM}
    (hok : xokb (xy mi).cls (decide ((xy mi).name = "<init>")) (xmi mi 0) (xb mi) mi pc (27, a, b, d) = true) (hs : xsem 27 a b d mi pc k ls st M = some (.inl q)) (hK : xW B p l e R s m args below meth c mi Q q.1 q.2.1 q.2.2.1 q.2.2.2.1 q.2.2.2.2) : xW B p l e R s m args below meth c mi Q pc k ls st M := by
  obtain ⟨hx, hb, hml, hown, -, -, -, hr1, hr2, hr3, hr4⟩ := C
  simp only [xsem] at hs
  split at hs
  · rename_i n dp dd sp ss r
    split at hs
    · rename_i hc
      obtain ⟨⟨ks, kd⟩, ⟨s0, s1⟩, ⟨d0, d1⟩, ⟨n0, n1⟩, hss, hdd, hfr, hlo, hrl⟩ := hc
      simp only [xgo, Option.some.injEq, Sum.inl.injEq] at hs
      subst hs
      intro H locs Ls hR hS hL
      simp only [List.map_cons]
      have ls' := hR.low ks (by omega) (by omega)
      have ld' := hR.low kd (by omega) (by omega)
      rw [xr_pos (p := ss) (by omega), xr_pos (p := dd) (by omega)]
      have hes := xws_at (B := B) ls'
      have hed := xws_at (B := B) ld'
      rw [xce_1 ks] at hes
      rw [xce_1 kd] at hed
      obtain ⟨i, hw, hd⟩ := xlk0_eq hok
      have nz : ∀ {z : Int}, 0 ≤ z → xok z → ¬ Int32.ofInt z < 0 := fun {z} h0 hk h => by
        rw [show (0 : Int32) = Int32.ofInt 0 from rfl, xi_lt hk ⟨by omega, by omega⟩] at h
        omega
      intro T hT X
      have hc0 := hR.2.2.1 _ _ hes
      have hc1 := hR.2.2.1 _ _ hed
      obtain ⟨-, k0, hk0, cm0, hkk0⟩ := (E.1.2 0 _ xt_0).1 (xat M ss).2.1 (fun j => .int (Int32.ofInt (M.2 ss j)))
      obtain ⟨vm', X', step⟩ := X.arraycopy hx hown (E.2.1.get hw rfl args) (E.2.1.get xw_nat rfl args) (E.2.1.get xw_cst rfl args) (E.2.1.get xw_csi rfl args) (src := xad B ss) (dst := xad B dd) (cs := vp_cell B.2.1.1 ((xat M ss).2.1, .inl (fun i => Int32.ofInt (M.2 ss i)))) (cd := vp_cell B.2.1.1 ((xat M dd).2.1, .inl (fun i => Int32.ofInt (M.2 dd i)))) (srcPos := Int32.ofInt sp) (destPos := Int32.ofInt dp) (n := Int32.ofInt n) (by rw [hT]; exact hc0) (by rw [hT]; exact hc1)
        (fun _ h => by cases h) (fun _ h => by cases h) (fun h => by cases h) (fun h => by cases h) hk0 hk0 hkk0 hkk0 (by simp [refKind]) (nz s0 s1) (nz d0 d1) (nz n0 n1)
        (by rw [xti s1, xti n1]; show ¬ _ > ((arrV B.2.1.1 (xat M ss).2.1 (fun j => .int (Int32.ofInt (M.2 ss j)))).slots.size : Int); rw [arrV_size]; omega)
        (by rw [xti d1, xti n1]; show ¬ _ > ((arrV B.2.1.1 (xat M dd).2.1 (fun j => .int (Int32.ofInt (M.2 dd j)))).slots.size : Int); rw [arrV_size]; omega)
        (fun vm₁ _ i hi => by
          rw [xcl_nat n0 n1] at hi
          have e : (vp_cell B.2.1.1 ((xat M ss).2.1, .inl (fun i => Int32.ofInt (M.2 ss i)))).slots.getD ((Int32.ofInt sp).toNatClampNeg + i) .null = .int (Int32.ofInt (M.2 ss (sp.toNat + i))) := by
            rw [xcl_nat s0 s1]
            show (arrV B.2.1.1 (xat M ss).2.1 (fun j => .int (Int32.ofInt (M.2 ss j)))).slots.getD _ _ = _
            rw [Array.getD_eq_getD_getElem?, arrV_read _ _ (by omega)]
            rfl
          refine ⟨?_, ?_⟩
          · rw [e]
            rfl
          · rw [e]
            exact trivial)
        (g := F0 m pc Ls (.int (Int32.ofInt n) :: .int (Int32.ofInt dp) :: .ref (xad B dd) :: .int (Int32.ofInt sp) :: .ref (xad B ss) :: r.map (xr B))) rfl (by rw [hml]; exact hL.1) (rest := r.map (xr B)) rfl (by rw [hb]; exact hd) (by omega) (by rw [xsum]; show 2 * 0 + _ + _ ≤ _; show 2 * 0 + r.length + (7 + 11) ≤ _; omega)
      have e1 : copied (vp_cell B.2.1.1 ((xat M ss).2.1, .inl (fun i => Int32.ofInt (M.2 ss i)))) (vp_cell B.2.1.1 ((xat M dd).2.1, .inl (fun i => Int32.ofInt (M.2 dd i)))) (Int32.ofInt sp) (Int32.ofInt dp) (Int32.ofInt n) = vp_cell B.2.1.1 ((xat M dd).2.1, .inl (va_cpy (fun i => Int32.ofInt (M.2 ss i)) (fun i => Int32.ofInt (M.2 dd i)) (Int32.ofInt sp).toNatClampNeg (Int32.ofInt dp).toNatClampNeg (Int32.ofInt n).toNatClampNeg)) := va_copied (n0 := (xat M ss).2.1) (n1 := (xat M dd).2.1) (sp := (Int32.ofInt sp).toNatClampNeg) (dp := (Int32.ofInt dp).toNatClampNeg) (n := (Int32.ofInt n).toNatClampNeg) (fun z => .int z) B.2.1.1 B.2.1.1 (fun i => Int32.ofInt (M.2 ss i)) (fun i => Int32.ofInt (M.2 dd i)) (by rw [xcl_nat s0 s1, xcl_nat n0 n1]; omega)
      rw [e1] at X' step
      rw [xcl_nat s0 s1, xcl_nat d0 d1, xcl_nat n0 n1] at X' step
      generalize hCe : vp_cell B.2.1.1 ((xat M dd).2.1, .inl (va_cpy (fun i => Int32.ofInt (M.2 ss i)) (fun i => Int32.ofInt (M.2 dd i)) sp.toNat dp.toNat n.toNat)) = Ce at X' step
      have hl : xad B dd < H.size := (Array.getElem?_eq_some_iff.mp hc1).1
      have hheap : ((T.setVm vm').setCell (xad B dd) Ce).heap = H.setIfInBounds (xad B dd) Ce := by rw [← hT]; rfl
      have oq : ∀ q : Nat, q ≠ xad B dd → (H.setIfInBounds (xad B dd) Ce)[q]? = H[q]? := fun q hq => by simp [Array.getElem?_setIfInBounds, Ne.symm hq]
      have hz : (H.setIfInBounds (xad B dd) Ce).size = H.size := by simp
      have hk1 : (xat (xcpy M ss sp.toNat dd dp.toNat n.toNat) dd).1 = 1 := kd
      obtain ⟨t, a1, b1⟩ := hK (H.setIfInBounds (xad B dd) Ce) _ Ls (hR.upd (M' := xcpy M ss sp.toNat dd dp.toNat n.toNat) ld' rfl (fun _ _ => rfl) (fun z hz => by funext j; simp [xcpy, hz]) (xce_1 hk1) (fun z hz => by
          unfold xce xfs xra
          have e2 : (xcpy M ss sp.toNat dd dp.toNat n.toNat).2 z = M.2 z := by funext j; simp [xcpy, hz]
          rw [e2]
          rfl) (hR.2.2.1.set (xws_D B M) hed (show (H.setIfInBounds (xad B dd) Ce)[xad B dd]? = some (vp_cell _ _) by
          rw [Array.getElem?_setIfInBounds, if_pos rfl, if_pos hl, ← hCe]
          congr 1
          show vp_cell B.2.1.1 ((xat M dd).2.1, .inl _) = vp_cell B.2.1.1 ((xat M dd).2.1, .inl _)
          congr 3
          funext j
          by_cases hj : dp.toNat ≤ j ∧ j < dp.toNat + n.toNat
          · rw [show va_cpy (fun i => Int32.ofInt (M.2 ss i)) (fun i => Int32.ofInt (M.2 dd i)) sp.toNat dp.toNat n.toNat j = Int32.ofInt (M.2 ss (sp.toNat + (j - dp.toNat))) from if_pos hj]
            have : (xcpy M ss sp.toNat dd dp.toNat n.toNat).2 dd j = M.2 ss (sp.toNat + (j - dp.toNat)) := if_pos ⟨rfl, hj⟩
            rw [this]
          · rw [show va_cpy (fun i => Int32.ofInt (M.2 ss i)) (fun i => Int32.ofInt (M.2 dd i)) sp.toNat dp.toNat n.toNat j = Int32.ofInt (M.2 dd j) from if_neg hj]
            have : (xcpy M ss sp.toNat dd dp.toNat n.toNat).2 dd j = M.2 dd j := by
              show (if dd = dd ∧ dp.toNat ≤ j ∧ j < dp.toNat + n.toNat then _ else _) = _
              rw [if_neg (fun z => hj z.2)]
            rw [this]) oq) hz (xbelow ld'.1 oq) (by rw [hk1]; omega)) ⟨by rw [hz]; exact hS.1, fun q g1 g2 => by
          rw [oq q (fun e => g2 (by rw [e]; exact (xws_D B M).2 _ _ hed))]
          exact hS.2.1 q g1 g2, fun q hq => by
          rcases List.mem_append.mp hq with h | h
          · exact hS.2.2 q h
          · obtain ⟨z, -, hz⟩ := List.mem_map.mp h
            rw [← hz]
            exact (xws_D B M).2 _ _ hed⟩ hL _ hheap X'
      exact ⟨t, step t a1, b1⟩
    · cases hs
  · cases hs
end XSH
end
section
/-! ===== all instructions; calls; a pure run is a run of the machine ===== -/
theorem xsem_k {t : Nat} {a : Int} {b c mi pc : Nat} {k : Nat × Nat} {ls : xL} {st : List xV} {M : xM} {q : Nat × (Nat × Nat) × xL × List xV × xM} (h : xsem t a b c mi pc k ls st M = some (.inl q)) (hk : k.1 ≤ xmi mi 7 ∧ k.2 ≤ xmi mi 8) : q.2.1.1 ≤ xmi mi 7 ∧ q.2.1.2 ≤ xmi mi 8 := by
  unfold xsem at h
  split at h
  all_goals (repeat' split at h)
  all_goals first
    | (cases h; done)
    | (simp only [xgo, Option.some.injEq, Sum.inl.injEq] at h; subst h; first | exact hk | (refine ⟨?_, ?_⟩ <;> dsimp only <;> omega))
section XSI
variable {p : Program} {l : Launch} {e : Env} {R : Room} {s : State} {m : MethodId} {args : Array Value} {below : List Frame} {meth : Method} {c : Code} {Q : State → Prop} {B : xB} {mi : Nat}
theorem xgo_all (C : xCx p R s m meth c mi) (E : xE B s s.heap) {pc : Nat} {k : Nat × Nat} {ls : xL} {st : List xV} {M : xM} {q : Nat × (Nat × Nat) × xL × List xV × xM} (hkc : k.1 ≤ xmi mi 7 ∧ k.2 ≤ xmi mi 8)
    (hs : xstep mi pc k ls st M = some (.inl q)) (hK : xW B p l e R s m args below meth c mi Q q.1 q.2.1 q.2.2.1 q.2.2.2.1 q.2.2.2.2) : xW B p l e R s m args below meth c mi Q pc k ls st M := by
  have hok := xins_ok mi pc
  unfold xstep at hs
  generalize xins mi pc = i at hs hok
  obtain ⟨t, a, b, d⟩ := i
  dsimp only at hs
  match t, hs, hok with
  | 0, hs, _ => simp [xsem] at hs
  | 1, hs, hok => exact xg1 C E hok hs hK
  | 2, hs, hok => exact xg2 C hok hs hK
  | 3, hs, hok => exact xg3 C hok hs hK
  | 4, hs, hok => exact xg4 C hok hs hK
  | 5, hs, hok => exact xg5 C hok hs hK
  | 6, hs, hok => exact xg6 C hok hs hK
  | 7, hs, hok => exact xg7 C hok hs hK
  | 8, hs, hok => exact xg8 C hok hs hK
  | 9, hs, hok => exact xg9 C hok hs hK
  | 10, hs, hok => exact xg10 C hok hs hK
  | 11, hs, hok => exact xg11 C hok hs hK
  | 12, hs, hok => exact xg12 C E hok hs hK
  | 13, hs, hok => exact xg13 C E hok hs hK
  | 14, hs, hok => exact xg14 C E hok hs hK
  | 15, hs, hok => exact xg15 C E hok hs hK
  | 16, hs, hok => exact xg16 C E hok hs hK
  | 17, hs, hok => exact xg17 C E hok hs hK
  | 18, hs, hok => exact xg18 C E hok hs hK
  | 19, hs, hok => exact xg19 C E hok hs hK
  | 20, hs, hok => exact xg20 C E hok hs hK
  | 21, hs, hok => exact xg21 C E hok hs hK
  | 22, hs, hok => exact xg22 C E hok hs hK
  | 23, hs, hok => exact xg23 C hok hs hK
  | 24, hs, hok => exact xg24 C hok hs hK
  | 25, hs, hok => exact xg25 C hok hs hK
  | 26, hs, hok => exact xg26 C E hok hs hK
  | 27, hs, hok => exact xg27 C E hok hs hK
  | 28, hs, _ =>
    exfalso
    simp only [xsem] at hs
    repeat' split at hs
    all_goals cases hs
  | 29, hs, _ =>
    exfalso
    simp only [xsem] at hs
    repeat' split at hs
    all_goals cases hs
  | 30, hs, _ =>
    exfalso
    simp only [xsem] at hs
    repeat' split at hs
    all_goals cases hs
  | 31, hs, hok => exact xg31 C E hok hs hK
  | 32, hs, hok => exact xg32 C hok hs hK
  | 33, hs, hok => exact xg33 C E hkc hok hs hK
  | 34, hs, hok => exact xg34 C E hkc hok hs hK
  | n + 35, hs, _ => simp [xsem] at hs
def xQc (B : xB) (v : List xV) (M : xM) : Array Value → State → Outcome → State → Prop := match v with
  | [.inl x] => va_Qi (fun (r : Int32) (_ : Unit) => r = Int32.ofInt x) (fun _ t => xR B t M t.heap) (xA B)
  | _ => va_Qv (fun (_ : Unit) => True) (fun _ t => xR B t M t.heap) (xA B)
theorem xret_all (C : xCx p R s m meth c mi) {pc : Nat} {k : Nat × Nat} {ls : xL} {st : List xV} {M : xM} {v : List xV} (hkc : k.1 ≤ xmi mi 7 ∧ k.2 ≤ xmi mi 8)
    (hs : xstep mi pc k ls st M = some (.inr (.inr v))) : xW B p l e R s m args below meth c mi (MQ below (xQc B v M) args s (xmi mi 7) (xmi mi 8) (xA B)) pc k ls st M := by
  obtain ⟨hx, hb, hml, hown, hlocks, hr, -⟩ := C
  have hok := xins_ok mi pc
  unfold xstep at hs
  generalize xins mi pc = i at hs hok
  obtain ⟨t, a, b, d⟩ := i
  dsimp only at hs
  have ht : t = 29 ∨ t = 30 := by
    apply Classical.byContradiction
    intro hn
    unfold xsem at hs
    split at hs
    all_goals first
      | (exact hn (Or.inl rfl))
      | (exact hn (Or.inr rfl))
      | ((repeat' split at hs) <;> cases hs)
  rcases ht with rfl | rfl
  · simp only [xsem] at hs
    split at hs
    · rename_i x
      split at hs
      · rename_i hc
        simp only [Option.some.injEq, Sum.inr.injEq] at hs
        subst hs
        intro H locs Ls hR hS hL
        refine W.widen hkc.1 hkc.2 ?_
        have hd := xdc_eq hok
        have hq : ∀ t : State, t.heap = H → s.WarmedH t.vm → xQc B [.inl x] M args s (.returned (some (.int (Int32.ofInt x)))) t := fun t ht hW => ⟨⟨_, (), rfl, rfl, show xR B t M t.heap by rw [ht]; exact hR.moved hW.alike⟩, hS.F ht⟩
        rcases hc with hc | ⟨hc, hx2⟩
        · exact W.iret hx hb (by rw [hr]; unfold xret; simp only [hc]) hq hS.2.2 hd
        · exact W.zret (ty := .boolean) hx hb (by rw [hr]; unfold xret; simp only [hc]) (by rcases hx2 with rfl | rfl <;> decide) hq hS.2.2 hd
      · cases hs
    · cases hs
  · simp only [xsem] at hs
    split at hs
    · split at hs
      · rename_i hc
        simp only [Option.some.injEq, Sum.inr.injEq] at hs
        subst hs
        intro H locs Ls hR hS hL
        refine W.widen hkc.1 hkc.2 ?_
        have hd := xdc_eq hok
        exact W.vret hx hb (by rw [hr]; unfold xret; simp only [hc]) (fun t ht hW => ⟨⟨(), rfl, trivial, show xR B t M t.heap by rw [ht]; exact hR.moved hW.alike⟩, hS.F ht⟩) hS.2.2 hd
      · cases hs
    · cases hs
def xrm (j : Nat) : Room := { frames := xmi j 5, cells := xmi j 7, slots := xmi j 8, locals := xmi j 6 }
def xcw (j : Nat) : List Jvm.Cond := [.code (xy j) (xb j) (xmi j 0) (xret j)]
def xPc (B : xB) (as : List xV) (M : xM) : Array Value → State → Prop := va_Pc (as.map (xr B)) (fun U => xE B U U.heap ∧ xR B U M U.heap)
def xMet (B : xB) (l : Launch) (j : Nat) (as : List xV) (M : xM) (v : List xV) (M' : xM) : Prop := Met l (xy j) (xcw j) (xrm j) (xPc B as M) (xQc B v M') (xmi j 7) (xmi j 8) (xA B)
theorem xPc_blind {as : List xV} {M : xM} : FrameBlind (xPc B as M) := by
  intro a U g mk h
  obtain ⟨h1, ⟨hK, hT, hz, hZ⟩, hR⟩ := h
  exact ⟨h1, ⟨va_K.moved (u := U) (U := U.calling g mk a) (Vm.Alike.refl U.vm) hK, xTB.warm (s := U) (U := U.calling g mk a) (State.WarmedH.refl U) hT, hz, va_Z.moved (u := U) (U := U.calling g mk a) (Vm.Alike.refl U.vm) hZ⟩, xR.moved (u := U) (U := U.calling g mk a) (Vm.Alike.refl U.vm) hR⟩
theorem xE.at {H : Heap} {locs : List Loc} {M : xM} (E : xE B s s.heap) (hR : xR B s M H) (hS : va_S (xA B) s.heap H locs) {as : List xV} {U : State} (hU : U.heap = H) (hW : s.WarmedH U.vm) : xPc B as M (as.map (xr B)).toArray U := by
  obtain ⟨hK, hT, hz, hZ⟩ := E
  subst hU
  refine ⟨rfl, ⟨va_K.moved hW.alike hK, hT.warm hW, by rw [hR.2.1]; omega, ?_⟩, hR.moved hW.alike⟩
  exact va_Z.moved hW.alike (hZ.kept (fun a h1 h2 => hS.2.1 a h1 h2))
theorem xcw_good {j : Nat} (hj : j < 128) (h14 : j ≠ 14) (h47 : j ≠ 47) : GoodIn xwl (xcw j) := by
  intro w hw
  have hw' : w = .code (xy j) (xb j) (xmi j 0) (xret j) := by simpa [xcw] using hw
  subst hw'
  exact ⟨List.mem_filter.mpr ⟨xwd_mem (xmco j hj h14 h47), rfl⟩, Or.inl rfl⟩
theorem xlk_eq {own : String} {cc : ByteArray} {pc kd i0 : Nat} {y : MethodName} (h : xlk own cc pc kd y (xwd i0) = true) : ∃ i, decode cc pc = .ok (xiv kd i, 3) ∧ (xwd i0 = some (.methodLink own i y) ∨ ∃ h, xwd i0 = some (.methodLinkNest own i y h)) := by
  unfold xlk at h
  split at h
  · rename_i o i z hw
    simp only [Bool.and_eq_true, decide_eq_true_eq] at h
    obtain ⟨rfl, rfl, h⟩ := h
    exact ⟨i, xdc_eq h, Or.inl hw⟩
  · rename_i o i z hh hw
    simp only [Bool.and_eq_true, decide_eq_true_eq] at h
    obtain ⟨rfl, rfl, h⟩ := h
    exact ⟨i, xdc_eq h, Or.inr ⟨hh, hw⟩⟩
  · cases h
theorem xcall_all (C : xCx p R s m meth c mi) (E : xE B s s.heap) {pc : Nat} {k : Nat × Nat} {ls : xL} {st : List xV} {M M' : xM} {j : Nat} {as r v : List xV}
    (hs : xstep mi pc k ls st M = some (.inr (.inl (j, as, r)))) (hM : j < 128 → j ≠ 14 → j ≠ 47 → as.length = xmi j 2 → xMet B l j as M v M') (hv : v = [] ∨ ∃ x, v = [.inl x])
    (hK : xW B p l e R s m args below meth c mi Q (pc + 3) (k.1 + xmi j 7, k.2 + xmi j 8) ls (v ++ r) M') : xW B p l e R s m args below meth c mi Q pc k ls st M := by
  obtain ⟨hx, hb, hml, hown, -, -, -, hr1, hr2, hr3, hr4⟩ := C
  have hok := xins_ok mi pc
  unfold xstep at hs
  generalize xins mi pc = i at hs hok
  obtain ⟨t, a, b, d⟩ := i
  dsimp only at hs
  have ht : t = 28 := by
    apply Classical.byContradiction
    intro hn
    unfold xsem at hs
    split at hs
    all_goals first
      | (exact hn rfl)
      | ((repeat' split at hs) <;> cases hs)
  subst ht
  simp only [xsem] at hs
  split at hs
  · rename_i hc
    obtain ⟨c1, c2, c3, c4, c5, c6⟩ := hc
    simp only [xokb, Bool.and_eq_true, decide_eq_true_eq] at hok
    obtain ⟨⟨hb1, hb2, hb3⟩, hdn, hlk⟩ := hok
    obtain ⟨i, hd, hlink⟩ := xlk_eq hlk
    have hmok := xmok b hb1
    simp only [xmokb, Bool.or_eq_true, Bool.and_eq_true, decide_eq_true_eq, beq_iff_eq] at hmok
    have hmok := (hmok.resolve_left hb2).resolve_left hb3
    obtain ⟨m1, m2, m3, m4, m5, m6, m7, m8⟩ := hmok
    have hE1 := E.2.1.get m1 rfl args
    -- what all three kinds share
    have hlenr : (st.drop d).length ≤ 8 := by rw [List.length_drop]; omega
    have hsplit : st = (st.take d).reverse.reverse ++ st.drop d := by rw [List.reverse_reverse, List.take_append_drop]
    have hlen : (st.take d).reverse.length = xmi b 2 := by rw [List.length_reverse, List.length_take, ← hdn]; omega
    have fin' : ∀ {H : Heap} {locs : List Loc} {Ls : Array Slot} {st0 : List Value} {rr : List xV} {Aa : Array Value}, j = b → r = rr → xR B s M H → va_S (xA B) s.heap H locs → xlh B Ls (xmi mi 0) ls →
        va_Run p l e R s m args below meth c H locs k.1 k.2 (xmi b 7) (xmi b 8) (F0 m pc Ls st0) (rr.map (xr B)) (xQc B v M' Aa) (xA B) → W p l e R s m args below meth c H locs k.1 k.2 Q (F0 m pc Ls st0) := fun {H locs Ls st0 rr Aa} hj hrr hR hS hL hrun => by
      subst hj
      subst hrr
      rcases hv with rfl | ⟨x, rfl⟩
      · refine va_callv (a := Aa) hrun hS (fun _ _ z => z) (fun _ z => z) (fun u t H1 locs1 ht hvm hw hB hz1 hk1 hS1 => ?_)
        have hR1 : xR B s M' H1 := by rw [← ht]; exact hB.moved hvm.symm
        exact hK H1 locs1 Ls hR1 hS1 hL
      · refine va_calli (a := Aa) hrun hS (fun _ _ z => z) (fun _ z => z) (fun r0 u t H1 locs1 ht hvm hw hB hz1 hk1 hS1 => ?_)
        have hR1 : xR B s M' H1 := by rw [← ht]; exact hB.moved hvm.symm
        have hk2 := hK H1 locs1 Ls hR1 hS1 hL
        rw [hw]
        exact hk2
    have hroom : (xrm b).frames + 1 ≤ R.frames ∧ 8 + (xmi b 0 + 11) + (xrm b).locals ≤ R.locals := ⟨by show xmi b 5 + 1 ≤ _; omega, by show 8 + (xmi b 0 + 11) + xmi b 6 ≤ _; omega⟩
    have hcells : k.1 + xmi b 7 ≤ R.cells ∧ k.2 + xmi b 8 ≤ R.slots := ⟨by omega, by omega⟩
    split at hs
    · -- static
      rename_i heq
      simp only [Option.some.injEq, Sum.inr.injEq, Sum.inl.injEq, Prod.mk.injEq] at hs
      obtain ⟨rfl, rfl, rfl⟩ := hs
      rw [heq] at m2 hd m6
      try dsimp only at m2
      simp only [decide_eq_true_eq] at m2
      intro H locs Ls hR hS hL
      have hdesc : (xy b).cls ≠ "java/lang/invoke/MethodHandle" ∧ (xy b).cls ≠ "java/lang/invoke/VarHandle" ∧ (parseMethodDescriptor (xy b).desc).map (fun d => d.parameters.length) = some (xmi b 2) := ⟨m4, m5, by rw [m6, if_pos rfl]⟩
      have hpre : PreS s H (xPc B (st.take d).reverse M) ((st.take d).reverse.map (xr B)) := ⟨xPc_blind, fun U hU hW => E.at hR hS hU hW⟩
      have hstk : (st.map (xr B)) = ((st.take d).reverse.map (xr B)).reverse ++ (st.drop d).map (xr B) := by rw [← List.map_reverse, ← List.map_append, ← hsplit]
      have hMet := hM hb1 hb2 hb3 hlen
      refine fin' (Aa := ((st.take d).reverse.map (xr B)).toArray) rfl rfl hR hS hL ?_
      rcases hlink with hlk | ⟨hh, hlk⟩
      · exact va_runS (Ts := xwl) ⟨hx, hb, hml, hown, E.2.1.ws args⟩ hMet ⟨callB_of (xmi b 2) (E.2.1.ws args) (xcw_good hb1 hb2 hb3) rfl rfl rfl hE1 (E.2.1.get hlk rfl args) hdesc hroom, E.2.1.get m2 rfl args⟩ hpre rfl (by rw [List.length_map]; exact hlen) hL.1 hstk (lv_room (by rw [xsum]; exact hlenr)) hd hcells
      · exact va_runSN (Ts := xwl) ⟨hx, hb, hml, hown, E.2.1.ws args⟩ hMet ⟨va_cnB (xmi b 2) (E.2.1.ws args) (xcw_good hb1 hb2 hb3) rfl rfl rfl (E.2.1.get hlk rfl #[]) hE1 hdesc hroom, E.2.1.get m2 rfl args, trivial⟩ hpre rfl (by rw [List.length_map]; exact hlen) hL.1 hstk (lv_room (by rw [xsum]; exact hlenr)) hd hcells
    · -- virtual
      rename_i pp as' heq hrev
      split at hs
      · rename_i hkd
        simp only [Option.some.injEq, Sum.inr.injEq, Sum.inl.injEq, Prod.mk.injEq] at hs
        obtain ⟨rfl, rfl, rfl⟩ := hs
        rw [heq] at m2 hd m6
        try dsimp only at m2
        simp only [Bool.and_eq_true, decide_eq_true_eq] at m2
        obtain ⟨m2, ms, mcn, mc8⟩ := m2
        intro H locs Ls hR hS hL
        rw [hrev] at hlen hsplit
        have hlow := hR.low hkd (by omega) (by omega)
        have hl1 : as'.length = xmi b 2 - 1 := by rw [List.length_cons] at hlen; omega
        have hdesc : (xy b).cls ≠ "java/lang/invoke/MethodHandle" ∧ (xy b).cls ≠ "java/lang/invoke/VarHandle" ∧ (parseMethodDescriptor (xy b).desc).map (fun d => d.parameters.length) = some (xmi b 2 - 1) := ⟨m4, m5, by rw [m6, if_neg (by omega)]⟩
        have he := xws_at (B := B) hlow
        rw [xce_obj hkd] at he
        have hrec := va_recv E.1 hR.2.2.1 (xcl_at _ mc8) he
        dsimp only at hrec
        rw [mcn] at hrec
        have hpre : PreV s H (xy b).cls (xad B pp) (xPc B (.inr pp :: as') M) (as'.map (xr B)) := ⟨xPc_blind, hrec, fun U hU hW => by
          have := E.at (as := .inr pp :: as') hR hS hU hW
          rw [List.map_cons, xr_pos (by omega)] at this
          exact this⟩
        have hstk : (st.map (xr B)) = (as'.map (xr B)).reverse ++ .ref (xad B pp) :: (st.drop d).map (xr B) := by
          conv => lhs; rw [hsplit]
          rw [List.reverse_cons, List.append_assoc, List.map_append, List.map_append, List.map_reverse, List.map_cons, xr_pos (by omega)]
          rfl
        have hMet := hM hb1 hb2 hb3 hlen
        refine fin' (Aa := (Value.ref (xad B pp) :: as'.map (xr B)).toArray) rfl rfl hR hS hL ?_
        rcases hlink with hlk | ⟨hh, hlk⟩
        · exact va_runV (Ts := xwl) ⟨hx, hb, hml, hown, E.2.1.ws args⟩ hMet ⟨callB_of (xmi b 2 - 1) (E.2.1.ws args) (xcw_good hb1 hb2 hb3) rfl rfl rfl hE1 (E.2.1.get hlk rfl args) hdesc hroom, E.2.1.get m2 rfl args, E.2.1.get ms rfl args⟩ hpre rfl (by rw [List.length_map]; exact hl1) hL.1 hstk (lv_room (by rw [xsum]; exact hlenr)) hd hcells
        · exact va_runVN (Ts := xwl) ⟨hx, hb, hml, hown, E.2.1.ws args⟩ hMet ⟨va_cnB (xmi b 2 - 1) (E.2.1.ws args) (xcw_good hb1 hb2 hb3) rfl rfl rfl (E.2.1.get hlk rfl #[]) hE1 hdesc hroom, E.2.1.get m2 rfl args, E.2.1.get ms rfl args⟩ hpre rfl (by rw [List.length_map]; exact hl1) hL.1 hstk (lv_room (by rw [xsum]; exact hlenr)) hd hcells
      · cases hs
    · -- a constructor
      rename_i pp as' heq hrev
      simp only [Option.some.injEq, Sum.inr.injEq, Sum.inl.injEq, Prod.mk.injEq] at hs
      obtain ⟨rfl, rfl, rfl⟩ := hs
      rw [heq] at m2 hd m6
      try dsimp only at m2
      simp only [Bool.and_eq_true, decide_eq_true_eq] at m2
      obtain ⟨m2, mnm, mrt⟩ := m2
      intro H locs Ls hR hS hL
      rw [hrev] at hlen hsplit
      have hl1 : as'.length = xmi b 2 - 1 := by rw [List.length_cons] at hlen; omega
      have hdesc : (xy b).cls ≠ "java/lang/invoke/MethodHandle" ∧ (xy b).cls ≠ "java/lang/invoke/VarHandle" ∧ (parseMethodDescriptor (xy b).desc).map (fun d => d.parameters.length) = some (xmi b 2 - 1) := ⟨m4, m5, by rw [m6, if_neg (by omega)]⟩
      have hpre : PreS s H (xPc B (.inr (pp + 1) :: as') M) (.ref (xad B (pp + 1)) :: as'.map (xr B)) := ⟨xPc_blind, fun U hU hW => by
        have := E.at (as := .inr (pp + 1) :: as') hR hS hU hW
        rw [List.map_cons, xr_ref] at this
        exact this⟩
      have hstk : (st.map (xr B)) = (as'.map (xr B)).reverse ++ .ref (xad B (pp + 1)) :: (st.drop d).map (xr B) := by
        conv => lhs; rw [hsplit]
        rw [List.reverse_cons, List.append_assoc, List.map_append, List.map_append, List.map_reverse, List.map_cons, xr_ref]
        rfl
      have hMet := hM hb1 hb2 hb3 hlen
      have hcw : xcw b = [.code (xy b) (xb b) (xmi b 0) none] := by unfold xcw xret; simp only [mrt]
      refine fin' (Aa := (Value.ref (xad B (pp + 1)) :: as'.map (xr B)).toArray) rfl rfl hR hS hL ?_
      rcases hlink with hlk | ⟨hh, hlk⟩
      · exact va_runI (Ts := xwl) ⟨hx, hb, hml, hown, E.2.1.ws args⟩ hMet ⟨callB_of (xmi b 2 - 1) (E.2.1.ws args) (xcw_good hb1 hb2 hb3) hcw rfl rfl hE1 (E.2.1.get hlk rfl args) hdesc hroom, mnm, E.2.1.get m2 rfl args⟩ hpre rfl (by rw [List.length_map]; exact hl1) hL.1 hstk (lv_room (by rw [xsum]; exact hlenr)) hd hcells
      · exact va_runIN (Ts := xwl) ⟨hx, hb, hml, hown, E.2.1.ws args⟩ hMet ⟨va_cnB (xmi b 2 - 1) (E.2.1.ws args) (xcw_good hb1 hb2 hb3) hcw rfl rfl (E.2.1.get hlk rfl #[]) hE1 hdesc hroom, mnm, E.2.1.get m2 rfl args⟩ hpre rfl (by rw [List.length_map]; exact hl1) hL.1 hstk (lv_room (by rw [xsum]; exact hlenr)) hd hcells
    · cases hs
  · cases hs
end XSI
end
section
/-! ===== a pure run is a run of the machine ===== -/
theorem xret_v {mi pc : Nat} {k : Nat × Nat} {ls : xL} {st : List xV} {M : xM} {v : List xV} (hs : xstep mi pc k ls st M = some (.inr (.inr v))) : v = [] ∨ ∃ x, v = [.inl x] := by
  unfold xstep at hs
  generalize xins mi pc = i at hs
  obtain ⟨t, a, b, d⟩ := i
  dsimp only at hs
  unfold xsem at hs
  split at hs
  all_goals (repeat' split at hs)
  all_goals first
    | (cases hs; done)
    | (cases hs; exact Or.inr ⟨_, rfl⟩)
    | (cases hs; exact Or.inl rfl)
theorem xrun_v : ∀ (n : Nat) {mi pc : Nat} {k : Nat × Nat} {ls : xL} {st : List xV} {M : xM} {v : List xV} {M' : xM}, xrun n mi pc k ls st M = some (v, M') → v = [] ∨ ∃ x, v = [.inl x]
  | 0, _, _, _, _, _, _, _, _, h => by simp [xrun] at h
  | n + 1, mi, pc, k, ls, st, M, v, M', h => by
    unfold xrun at h
    cases hs : xstep mi pc k ls st M with
    | none => rw [hs] at h; cases h
    | some o =>
      rw [hs] at h
      rcases o with ⟨pc', k', ls', st', M1⟩ | ⟨j, as, r⟩ | w
      · exact xrun_v n h
      · dsimp only at h
        cases hc : xrun n j 0 (0, 0) (xloc j as) [] M with
        | none => rw [hc] at h; cases h
        | some q =>
          obtain ⟨v1, M1⟩ := q
          rw [hc] at h
          exact xrun_v n h
      · simp only [Option.some.injEq, Prod.mk.injEq] at h
        obtain ⟨rfl, rfl⟩ := h
        exact xret_v hs
theorem xcall_k {mi pc : Nat} {k : Nat × Nat} {ls : xL} {st : List xV} {M : xM} {j : Nat} {as r : List xV} (hs : xstep mi pc k ls st M = some (.inr (.inl (j, as, r)))) : k.1 + xmi j 7 ≤ xmi mi 7 ∧ k.2 + xmi j 8 ≤ xmi mi 8 := by
  unfold xstep at hs
  generalize xins mi pc = i at hs
  obtain ⟨t, a, b, d⟩ := i
  dsimp only at hs
  unfold xsem at hs
  split at hs
  all_goals first
    | ((repeat' split at hs) <;> (cases hs; done))
    | skip
  split at hs
  · rename_i hc
    obtain ⟨c1, c2, c3, c4, c5, c6⟩ := hc
    split at hs
    · cases hs; exact ⟨c5, c6⟩
    · split at hs
      · cases hs; exact ⟨c5, c6⟩
      · cases hs
    · cases hs; exact ⟨c5, c6⟩
    · cases hs
  · cases hs
theorem xsl_eq (B : xB) : ∀ as : List xV, lg_sl (as.map (xr B)) = as.map (fun v => Slot.val (xr B v))
  | [] => rfl
  | v :: t => by
    have ih := xsl_eq B t
    unfold lg_sl at ih ⊢
    simp only [List.map_cons, List.flatMap_cons, ih, xr_cat]
    rfl
theorem xentry (B : xB) (as : List xV) (j : Nat) (h : as.length ≤ xmi j 0) : xlh B ((lg_sl (as.map (xr B)) ++ List.replicate (xmi j 0 - (lg_sl (as.map (xr B))).length) Slot.unset).toArray) (xmi j 0) (xloc j as) := by
  have hlen : (lg_sl (as.map (xr B))).length = as.length := by rw [xsl_eq, List.length_map]
  have hl := lv_entry (as.map (xr B)) (n := xmi j 0) (by rw [hlen]; exact h)
  refine ⟨hl.1, hl.2.1, fun i v hv => ?_⟩
  rw [xnth_get] at hv
  unfold xloc at hv
  rw [xsl_eq]
  by_cases hi : i < as.length
  · have e : as[i]? = some v := by
      rw [List.getD_eq_getElem?_getD, List.getElem?_append_left (by simpa using hi), List.getElem?_map] at hv
      cases ha : as[i]? with
      | none => rw [ha] at hv; cases hv
      | some w => rw [ha] at hv; simpa using hv
    simp only [List.getElem?_toArray]
    rw [List.getElem?_append_left (by simpa using hi), List.getElem?_map, e]
    rfl
  · rw [List.getD_eq_getElem?_getD, List.getElem?_append_right (by simp; omega)] at hv
    exfalso
    cases hr : (List.replicate (xmi j 0 - as.length) (none : Option xV))[i - (as.map some).length]? with
    | none => rw [hr] at hv; cases hv
    | some w =>
      rw [hr] at hv
      have := List.eq_of_mem_replicate (List.mem_of_getElem? hr)
      subst this
      cases hv
section XSJ
variable {l : Launch} {B : xB}
theorem xMet_of {j : Nat} {as : List xV} {M : xM} {v : List xV} {M' : xM} (hj : j < 128) (h14 : j ≠ 14) (h47 : j ≠ 47) (hlen : as.length = xmi j 2)
    (h : ∀ (p : Program) (e : Env) (R : Room) (s : State) (m : MethodId) (args : Array Value) (below : List Frame) (meth : Method) (c : Code), xCx p R s m meth c j → xE B s s.heap → xW B p l e R s m args below meth c j (MQ below (xQc B v M') args s (xmi j 7) (xmi j 8) (xA B)) 0 (0, 0) (xloc j as) [] M) : xMet B l j as M v M' := by
  have hmok := xmok j hj
  simp only [xmokb, Bool.or_eq_true, Bool.and_eq_true, decide_eq_true_eq, beq_iff_eq] at hmok
  have hmok := (hmok.resolve_left h14).resolve_left h47
  obtain ⟨m1, m2, m3, m4, m5, m6, m7, m8⟩ := hmok
  refine Met.ofW (cc := xb j) (maxL := xmi j 0) (ret := xret j) m3 rfl ?_
  intro p e s m args below meth c s₁ Bd hml hv
  obtain ⟨rfl, E, hR⟩ := hv
  rw [lg_entry_eq]
  exact h p e _ s m _ below meth c ⟨Bd.exec, Bd.bytes, hml, findClass_of_methodNamed Bd.named, Bd.notSynchronized, Bd.returns, fun z => ((name_of_methodNamed Bd.named Bd.method).1).trans z, Nat.le_refl _, Nat.le_refl _, Nat.le_refl _, Nat.le_refl _⟩ E s.heap [] _ hR va_S.rf (xentry B as j (by omega))
theorem xrun_W : ∀ (n : Nat) {mi pc : Nat} {k : Nat × Nat} {ls : xL} {st : List xV} {M : xM} {v : List xV} {M' : xM}, xrun n mi pc k ls st M = some (v, M') → ∀ {p : Program} {e : Env} {R : Room} {s : State} {m : MethodId} {args : Array Value} {below : List Frame} {meth : Method} {c : Code} {Q : State → Prop}, xCx p R s m meth c mi → xE B s s.heap → (k.1 ≤ xmi mi 7 ∧ k.2 ≤ xmi mi 8) →
    (∀ (pc : Nat) (k : Nat × Nat) (ls : xL) (st : List xV), (k.1 ≤ xmi mi 7 ∧ k.2 ≤ xmi mi 8) → xstep mi pc k ls st M' = some (.inr (.inr v)) → xW B p l e R s m args below meth c mi Q pc k ls st M') → xW B p l e R s m args below meth c mi Q pc k ls st M
  | 0, _, _, _, _, _, _, _, _, h => by simp [xrun] at h
  | n + 1, mi, pc, k, ls, st, M, v, M', h => by
    intro C E hkc hfin
    unfold xrun at h
    cases hs : xstep mi pc k ls st M with
    | none => rw [hs] at h; cases h
    | some o =>
      rw [hs] at h
      rcases o with ⟨pc', k', ls', st', M1⟩ | ⟨j, as, r⟩ | w
      · exact xgo_all C E hkc hs (xrun_W n h C E (xsem_k (q := (pc', k', ls', st', M1)) (by unfold xstep at hs; exact hs) hkc) hfin)
      · dsimp only at h
        cases hc : xrun n j 0 (0, 0) (xloc j as) [] M with
        | none => rw [hc] at h; cases h
        | some q =>
          obtain ⟨v1, M1⟩ := q
          rw [hc] at h
          exact xcall_all C E hs (fun a1 a2 a3 a4 => xMet_of a1 a2 a3 a4 (fun p e R s m args below meth c C E => xrun_W n hc C E ⟨Nat.zero_le _, Nat.zero_le _⟩ (fun pc k ls st hk hst => xret_all C hk hst))) (xrun_v n hc) (xrun_W n h C E (xcall_k hs) hfin)
      · simp only [Option.some.injEq, Prod.mk.injEq] at h
        obtain ⟨rfl, rfl⟩ := h
        exact hfin pc k ls st hkc hs
end XSJ
end
section
/-! THE CLAIM OUT OF ONE WALK OF THE LAW'S BODY. Your part is whole_start (and what it stands on); all else here is the same for every law, but numbers. -/
def R_law : String := "ReedBenchLaw"
def lw_P (b : Addr) (xs : List Int32) (args : Array Value) (s : State) : Prop := args = #[.ref b] ∧ s.IntsAt b xs ∧ xs.length ≤ 2560 ∧ (Jvm.Cond.and given_1 narrow_1).before args s = true
def lw_Q (_ : Array Value) (s : State) (o : Outcome) (t : State) : Prop := o = .returned (some (.int 1)) ∧ Framed s o t [] 600000 7302250
def lw_Z (below : List Frame) (a : Array Value) (s : State) : State → Prop := fun t => ∃ o, t.status = .running ∧ Ended t below o ∧ lw_Q a s o t
/-- the law's own end, with 1 on the stack, nothing written that was there before, its room as the claim has it -/
theorem lw_ret {p : Program} {l : Launch} {e : Env} {s : State} {m : MethodId} {below : List Frame} {meth : Method} {c : Code} {b : Nat} (hx : p.tables.exec = Jvm.exec) (hb : c.code = code) (hr : meth.sig.returnType = ret) (hlocks : meth.locks = false) {pc : Nat} {H : Heap} {ls : Array Slot} (hdg : decode code pc = .ok (.ireturn, 1)) : W p l e room_1 s m #[Value.ref b] below meth c H [] 600000 7302250 (lw_Z below #[Value.ref b] s) (F0 m pc ls [.int 1]) := by
  intro T hT X
  obtain ⟨fs, hret, hrun, hended, hW, hframe⟩ := X.leave (v := some (.int 1)) (hlocks := hlocks) (fun h => by rw [hr] at h; cases h)
  have hmeth' : T.vm.method? m = some meth := X.method'
  refine ⟨T.setFrames fs, ?_, .returned (some (.int 1)), hrun, hended, rfl, ⟨_, rfl⟩, hW, hframe⟩
  jvm_step X.here [X.here.top, hx, hb, hdg, hmeth', hr, ret, narrow_b1]
  (try refine ⟨rfl, ?_⟩); (try refine ⟨rfl, ?_⟩)
  first | (intro acts; rw [hret _ acts rfl rfl rfl]) | rw [hret _ _ rfl rfl rfl]
  exact Steps.refl _
/-- what holds at the law's entry: the machine, the code, the tables' words (any of lw_tbl by 'hts w (by decide +kernel)'), the script of L ints xs at the cell b, what the Statement gives of the start (any of its parts by flat_of_before) -/
def lw_At (p : Program) (s : State) (m : MethodId) (meth : Method) (c : Code) (b L : Nat) (xs : Nat → Int32) : Prop :=
  p.tables.exec = Jvm.exec ∧ c.code = code ∧ meth.sig.returnType = ret ∧ c.maxLocals = 4 ∧ s.vm.findClass R_law = some m.cls ∧ (∀ w ∈ lw_tbl, w.before #[Value.ref b] s = true) ∧ va_X b L xs s s.heap ∧ b < s.heap.size ∧ meth.locks = false ∧ (Jvm.Cond.and given_1 narrow_1).before #[Value.ref b] s = true
/-! ===== the law's start in the pure machine ===== -/
def xkeys : List Int := [0, 200, 400, 500, 700, 900, 1100, 1200, 0, 204, 386, 498, 702, 884, 1088, 1200, 0, 0, 400, 400, 700, 700, 1200, 1200]
def xM0 (L : Nat) (f : Nat → Int) : xM := ([(0, 0, fun _ => 0), (5, L, fun _ => 0), (5, 24, fun _ => 0)], fun a i => if a = 1 then f i else if a = 2 then xnth xkeys i 0 else 0)
theorem xret_1 {mi pc : Nat} {k : Nat × Nat} {ls : xL} {st : List xV} {M : xM} {x : Int} (hs : xstep mi pc k ls st M = some (.inr (.inr [.inl x]))) : st = [.inl x] ∧ decode (xb mi) pc = .ok (.ireturn, 1) := by
  have hok := xins_ok mi pc
  unfold xstep at hs
  generalize xins mi pc = i at hs hok
  obtain ⟨t, a, b, d⟩ := i
  dsimp only at hs
  have ht : t = 29 := by
    apply Classical.byContradiction
    intro hn
    unfold xsem at hs
    split at hs
    all_goals first
      | (exact hn rfl)
      | ((repeat' split at hs) <;> cases hs)
  subst ht
  simp only [xsem] at hs
  split at hs
  · split at hs
    · cases hs
      exact ⟨rfl, xdc_eq hok⟩
    · cases hs
  · cases hs
theorem xword {s : State} {A : Array Value} (hts : ∀ w ∈ lw_tbl, w.before A s = true) : xTB s := by
  intro w hw hk A'
  have h0 := hts w hw
  rcases xkp_cases hk with g | ⟨a, i, b, n, d, e, rfl⟩ | ⟨a, i, x, e, rfl⟩ | ⟨t, rfl⟩
  · exact word_at (State.WarmedH.refl s) (good_of_word g) h0
  · exact va_tabs rfl rfl h0
  · exact va_tabs rfl rfl h0
  · exact h0
set_option maxRecDepth 100000 in
theorem xlays : Jvm.Cond.laysStatic "ReedBench" "ABOVE_KEY" "[I" ∈ lw_tbl := List.mem_of_getElem? (i := 343) rfl
set_option maxRecDepth 100000 in
theorem xkinit : Jvm.Cond.initialized "ReedBench" ∈ lw_tbl := List.mem_of_getElem? (i := 67) rfl
theorem xkey_all : (List.range 24).all (fun j => decide (Jvm.Cond.eq (Jvm.Term.elem (Jvm.Term.static "ReedBench" "ABOVE_KEY" "[I") (Jvm.Term.int (Int32.ofNat j))) (Jvm.Term.int (Int32.ofInt (xnth xkeys j 0))) ∈ flatC (Jvm.Cond.and given_1 narrow_1))) = true := by decide +kernel
theorem xkey_arr : Jvm.Cond.arrayOf (Jvm.Term.static "ReedBench" "ABOVE_KEY" "[I") .int ∈ flatC (Jvm.Cond.and given_1 narrow_1) := by decide +kernel
theorem xkey_len : Jvm.Cond.eq (Jvm.Term.length (Jvm.Term.static "ReedBench" "ABOVE_KEY" "[I")) (Jvm.Term.int (Int32.ofNat 24)) ∈ flatC (Jvm.Cond.and given_1 narrow_1) := by decide +kernel
set_option maxHeartbeats 1000000 in
theorem xlaw_W {p : Program} {e : Env} {s : State} {m : MethodId} {below : List Frame} {meth : Method} {c : Code} (l : Launch) {b L : Nat} {xs : Nat → Int32} (hL : L ≤ 2560) (C0 : lw_At p s m meth c b L xs)
    (hrun : ∃ n M', xrun n 128 0 (0, 0) (xloc 128 [.inr 1]) [] (xM0 L (fun j => (xs j).toInt)) = some ([.inl 1], M')) :
    W p l e room_1 s m #[Value.ref b] below meth c s.heap [] 0 0 (lw_Z below #[Value.ref b] s) (entryFrame m ([Value.ref b] : List Value).toArray 4) := by
  obtain ⟨hx, hb, hr, hml, hown, hts, hX, hbl, hlocks, hgv⟩ := C0
  have hT : xTB s := xword hts
  have hfl := flat_of_before _ hgv
  have hAn : ∀ a : Nat, a < s.heap.size → ¬ (fun q : Nat => s.heap.size ≤ q) a := fun a h => Nat.not_le.mpr h
  obtain ⟨ky, hky, hkT⟩ := va_Tof (N := 24) (f := fun j => .int (Int32.ofInt (xnth xkeys j 0))) (A := fun q : Nat => s.heap.size ≤ q) (by decide) (hfl _ xkey_arr) (va_eqt (hfl _ xkey_len)) (fun j hj => va_eqt (hfl _ (of_decide_eq_true (List.all_eq_true.mp xkey_all j (List.mem_range.mpr hj))))) hAn
  have hZ := va_Zof (A := fun q : Nat => s.heap.size ≤ q) (hts _ xlays) (hts _ xkinit) hky hAn
  -- the classes
  have hcls : ∀ k : Nat, ∃ (cC : ClassId) (iS : Nat → Nat), k < 8 → u_Kn s (xCn k) (xT k) (xN k) cC iS := fun k => by
    by_cases hk : k < 8
    · obtain ⟨cC, iS, h⟩ := u_known (C := xCn k) (T := xT k) (N := xN k) (hT.ws #[]) (xus_at k hk) (hT.get (xiw_at hk).1 rfl #[])
      exact ⟨cC, iS, fun _ => h⟩
    · exact ⟨0, fun _ => 0, fun h => absurd h hk⟩
  obtain ⟨dC, hdC⟩ := Classical.axiomOfChoice hcls
  obtain ⟨dI, hdI⟩ := Classical.axiomOfChoice hdC
  -- the array classes
  obtain ⟨cI, kI, compI, fI, gI, hI⟩ := Cond.arrayClass_spec (hT.get xw_int rfl #[])
  obtain ⟨compR, cR, kR, fR, -, gR, hR', eR⟩ := Cond.arrayOver_spec (hT.get xw_reed rfl #[])
  obtain ⟨compS, cS, kS, fS, -, gS, hS', eS⟩ := Cond.arrayOver_spec (hT.get xw_state rfl #[])
  obtain ⟨compA, cA, kA, fA, gA, hA', eA⟩ := Cond.arrayOver_specA (hT.get xw_aint rfl #[])
  obtain ⟨n, M', hrun⟩ := hrun
  let B : xB := ((dC, dI), (cI, cR, cS, cA), b, ky, s.heap.size)
  have hK : va_K (dC, dI) xcl (xtys B) s := by
    refine ⟨fun k q hq => ?_, fun k q hq => ?_⟩
    · have hk : k < 8 := by
        have := (List.getElem?_eq_some_iff.mp hq).1
        simpa using this
      have he := xcl_at k hk
      rw [he] at hq
      cases hq
      exact hdI k hk
    · match k, hq with
      | 0, hq => cases hq; exact ⟨fun n z => ⟨fun k h => (by cases h), kI, gI, compI, hI⟩, fI⟩
      | 1, hq => cases hq; exact ⟨fun n z => ⟨fun k h => (by cases h), kR, gR, compR, hR'⟩, kR, compR, gR, hR', fR, eR⟩
      | 2, hq => cases hq; exact ⟨fun n z => ⟨fun k h => (by cases h), kS, gS, compS, hS'⟩, kS, compS, gS, hS', fS, eS⟩
      | 3, hq => cases hq; exact ⟨fun n z => ⟨fun k h => (by cases h), kA, gA, compA, hA'⟩, eA⟩
      | k + 4, hq => simp [xtys] at hq
  have E : xE B s s.heap := ⟨hK, hT, Nat.le_refl _, hZ⟩
  have hkl : ky < s.heap.size := by
    obtain ⟨cell, h1, -⟩ := hkT
    exact (Array.getElem?_eq_some_iff.mp h1).1
  have hRel : xR B s (xM0 L (fun j => (xs j).toInt)) s.heap := by
    refine ⟨Nat.le_refl 3, rfl, fun k q h => by simp [xws, xM0] at h, rfl, ⟨hbl, rfl, ?_⟩, ⟨hkl, rfl, ?_⟩, fun q hq => ?_⟩
    · obtain ⟨scr, g1, g2, g3, g4, g5⟩ := hX
      refine ⟨scr, g1, g2, g3, ⟨by rw [g4]; exact Nat.le_refl _, by rw [g4]; rfl⟩, fun j hj => ?_⟩
      show _ = some (Value.int (Int32.ofInt (xs j).toInt))
      rw [Int32.ofInt_toInt]
      exact g5 j hj
    · obtain ⟨cell, g1, g2, g3, g4, g5, g6, -⟩ := hkT
      exact ⟨cell, g1, g2, g3, ⟨g4, g5⟩, fun j hj => g6 j hj⟩
    · unfold xat
      rw [xnth_of_le _ _ _ (by simpa [xM0] using hq)]
      decide
  rw [lg_entry_eq]
  refine xrun_W n hrun (s := s) (args := #[Value.ref b]) (below := below) (Q := lw_Z below #[Value.ref b] s) ⟨hx, hb, hml, hown, hlocks, hr, fun z => absurd z (by decide), by decide, by decide, by decide, by decide⟩ E ⟨Nat.zero_le _, Nat.zero_le _⟩ (fun pc k ls st hk hst => ?_) s.heap [] _ hRel va_S.rf (xentry B [.inr 1] 128 (by decide))
  obtain ⟨rfl, hd⟩ := xret_1 hst
  intro H locs Ls hR hS hLs
  refine va_forget (fun q hq => hS.2.2 q hq) ?_
  refine W.widen (k := 600000) (n := 7302250) hk.1 hk.2 ?_
  exact lw_ret hx hb hr hlocks hd
end
