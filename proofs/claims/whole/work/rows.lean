section
-- ===== PART A: goes FIRST, ahead of the names: the tables' words, and 'selects' of the private methods out of them =====
/-- a private method of a class that the tables say can be made, by its rows of tables_1 -/
def lw_okq (q : MethodName × Nat) : Prop := (q.1.cls ≠ "java/lang/invoke/MethodHandle" ∧ q.1.cls ≠ "java/lang/invoke/VarHandle") ∧ Cond.instantiable q.1.cls q.2 ∈ tables_1 ∧ Cond.privateMethod q.1 ∈ tables_1 ∧ Cond.instanceMethod q.1 ∈ tables_1
theorem lw_p0 : lw_okq (⟨"LaneCrowds$Ways", "fewestToShut", "(LLaneCrowds$Quarter;)I"⟩, 4) := ⟨⟨by decide +kernel, by decide +kernel⟩, List.mem_of_getElem? (i := 125) (by decide +kernel), List.mem_of_getElem? (i := 158) (by decide +kernel), List.mem_of_getElem? (i := 159) (by decide +kernel)⟩
theorem lw_p1 : lw_okq (⟨"LaneCrowds$Ways", "startAnew", "()V"⟩, 4) := ⟨⟨by decide +kernel, by decide +kernel⟩, List.mem_of_getElem? (i := 125) (by decide +kernel), List.mem_of_getElem? (i := 162) (by decide +kernel), List.mem_of_getElem? (i := 163) (by decide +kernel)⟩
theorem lw_p2 : lw_okq (⟨"LaneCrowds$Ways", "lead", "(LLaneCrowds$Quarter;II)V"⟩, 4) := ⟨⟨by decide +kernel, by decide +kernel⟩, List.mem_of_getElem? (i := 125) (by decide +kernel), List.mem_of_getElem? (i := 169) (by decide +kernel), List.mem_of_getElem? (i := 170) (by decide +kernel)⟩
theorem lw_p3 : lw_okq (⟨"LaneCrowds$Quarter", "isFree", "(I)Z"⟩, 1) := ⟨⟨by decide +kernel, by decide +kernel⟩, List.mem_of_getElem? (i := 34) (by decide +kernel), List.mem_of_getElem? (i := 173) (by decide +kernel), List.mem_of_getElem? (i := 174) (by decide +kernel)⟩
theorem lw_p4 : lw_okq (⟨"LaneCrowds$Quarter", "at", "(I)I"⟩, 1) := ⟨⟨by decide +kernel, by decide +kernel⟩, List.mem_of_getElem? (i := 34) (by decide +kernel), List.mem_of_getElem? (i := 177) (by decide +kernel), List.mem_of_getElem? (i := 178) (by decide +kernel)⟩
theorem lw_p5 : lw_okq (⟨"LaneCrowds$Ways", "putLast", "(II)V"⟩, 4) := ⟨⟨by decide +kernel, by decide +kernel⟩, List.mem_of_getElem? (i := 125) (by decide +kernel), List.mem_of_getElem? (i := 181) (by decide +kernel), List.mem_of_getElem? (i := 182) (by decide +kernel)⟩
theorem lw_p6 : lw_okq (⟨"LaneCrowds$Ways", "putFirst", "(II)V"⟩, 4) := ⟨⟨by decide +kernel, by decide +kernel⟩, List.mem_of_getElem? (i := 125) (by decide +kernel), List.mem_of_getElem? (i := 185) (by decide +kernel), List.mem_of_getElem? (i := 186) (by decide +kernel)⟩
theorem lw_p7 : lw_okq (⟨"LaneCrowds$Ways", "leadAround", "(LLaneCrowds$Quarter;I)V"⟩, 4) := ⟨⟨by decide +kernel, by decide +kernel⟩, List.mem_of_getElem? (i := 125) (by decide +kernel), List.mem_of_getElem? (i := 189) (by decide +kernel), List.mem_of_getElem? (i := 190) (by decide +kernel)⟩
theorem lw_p8 : lw_okq (⟨"LaneCrowds$Night", "crowdsLeft", "()I"⟩, 6) := ⟨⟨by decide +kernel, by decide +kernel⟩, List.mem_of_getElem? (i := 28) (by decide +kernel), List.mem_of_getElem? (i := 203) (by decide +kernel), List.mem_of_getElem? (i := 204) (by decide +kernel)⟩
theorem lw_p9 : lw_okq (⟨"LaneCrowds$Crowd", "isScattered", "()Z"⟩, 6) := ⟨⟨by decide +kernel, by decide +kernel⟩, List.mem_of_getElem? (i := 46) (by decide +kernel), List.mem_of_getElem? (i := 207) (by decide +kernel), List.mem_of_getElem? (i := 208) (by decide +kernel)⟩
theorem lw_p10 : lw_okq (⟨"LaneCrowds$Night", "peopleLeft", "()I"⟩, 6) := ⟨⟨by decide +kernel, by decide +kernel⟩, List.mem_of_getElem? (i := 28) (by decide +kernel), List.mem_of_getElem? (i := 211) (by decide +kernel), List.mem_of_getElem? (i := 212) (by decide +kernel)⟩
theorem lw_p11 : lw_okq (⟨"LaneCrowds$Night", "total", "(I)I"⟩, 6) := ⟨⟨by decide +kernel, by decide +kernel⟩, List.mem_of_getElem? (i := 28) (by decide +kernel), List.mem_of_getElem? (i := 221) (by decide +kernel), List.mem_of_getElem? (i := 222) (by decide +kernel)⟩
theorem lw_p12 : lw_okq (⟨"LaneCrowds$Quarter", "cellsWith", "(I)I"⟩, 1) := ⟨⟨by decide +kernel, by decide +kernel⟩, List.mem_of_getElem? (i := 34) (by decide +kernel), List.mem_of_getElem? (i := 225) (by decide +kernel), List.mem_of_getElem? (i := 226) (by decide +kernel)⟩
theorem lw_p13 : lw_okq (⟨"LaneCrowds$Quarter", "barricades", "()I"⟩, 1) := ⟨⟨by decide +kernel, by decide +kernel⟩, List.mem_of_getElem? (i := 34) (by decide +kernel), List.mem_of_getElem? (i := 229) (by decide +kernel), List.mem_of_getElem? (i := 230) (by decide +kernel)⟩
theorem lw_p14 : lw_okq (⟨"LaneCrowds$Night", "ordersMissed", "()I"⟩, 6) := ⟨⟨by decide +kernel, by decide +kernel⟩, List.mem_of_getElem? (i := 28) (by decide +kernel), List.mem_of_getElem? (i := 235) (by decide +kernel), List.mem_of_getElem? (i := 236) (by decide +kernel)⟩
theorem lw_p15 : lw_okq (⟨"LaneCrowds$Quarter", "addCellsTo", "(J)J"⟩, 1) := ⟨⟨by decide +kernel, by decide +kernel⟩, List.mem_of_getElem? (i := 34) (by decide +kernel), List.mem_of_getElem? (i := 239) (by decide +kernel), List.mem_of_getElem? (i := 240) (by decide +kernel)⟩
def lw_privs_1 : List (MethodName × Nat) := [(⟨"LaneCrowds$Ways", "fewestToShut", "(LLaneCrowds$Quarter;)I"⟩, 4), (⟨"LaneCrowds$Ways", "startAnew", "()V"⟩, 4), (⟨"LaneCrowds$Ways", "lead", "(LLaneCrowds$Quarter;II)V"⟩, 4), (⟨"LaneCrowds$Quarter", "isFree", "(I)Z"⟩, 1), (⟨"LaneCrowds$Quarter", "at", "(I)I"⟩, 1), (⟨"LaneCrowds$Ways", "putLast", "(II)V"⟩, 4), (⟨"LaneCrowds$Ways", "putFirst", "(II)V"⟩, 4), (⟨"LaneCrowds$Ways", "leadAround", "(LLaneCrowds$Quarter;I)V"⟩, 4), (⟨"LaneCrowds$Night", "crowdsLeft", "()I"⟩, 6), (⟨"LaneCrowds$Crowd", "isScattered", "()Z"⟩, 6), (⟨"LaneCrowds$Night", "peopleLeft", "()I"⟩, 6), (⟨"LaneCrowds$Night", "total", "(I)I"⟩, 6), (⟨"LaneCrowds$Quarter", "cellsWith", "(I)I"⟩, 1), (⟨"LaneCrowds$Quarter", "barricades", "()I"⟩, 1), (⟨"LaneCrowds$Night", "ordersMissed", "()I"⟩, 6), (⟨"LaneCrowds$Quarter", "addCellsTo", "(J)J"⟩, 1)]
theorem lw_r1 : ∀ q ∈ lw_privs_1, lw_okq q := List.forall_mem_cons.mpr ⟨lw_p0, List.forall_mem_cons.mpr ⟨lw_p1, List.forall_mem_cons.mpr ⟨lw_p2, List.forall_mem_cons.mpr ⟨lw_p3, List.forall_mem_cons.mpr ⟨lw_p4, List.forall_mem_cons.mpr ⟨lw_p5, List.forall_mem_cons.mpr ⟨lw_p6, List.forall_mem_cons.mpr ⟨lw_p7, List.forall_mem_cons.mpr ⟨lw_p8, List.forall_mem_cons.mpr ⟨lw_p9, List.forall_mem_cons.mpr ⟨lw_p10, List.forall_mem_cons.mpr ⟨lw_p11, List.forall_mem_cons.mpr ⟨lw_p12, List.forall_mem_cons.mpr ⟨lw_p13, List.forall_mem_cons.mpr ⟨lw_p14, List.forall_mem_cons.mpr ⟨lw_p15, fun _ h => absurd h List.not_mem_nil⟩⟩⟩⟩⟩⟩⟩⟩⟩⟩⟩⟩⟩⟩⟩⟩
theorem lw_p16 : lw_okq (⟨"LaneCrowds$Night", "addCrowdTo", "(JLLaneCrowds$Crowd;)J"⟩, 6) := ⟨⟨by decide +kernel, by decide +kernel⟩, List.mem_of_getElem? (i := 28) (by decide +kernel), List.mem_of_getElem? (i := 244) (by decide +kernel), List.mem_of_getElem? (i := 245) (by decide +kernel)⟩
theorem lw_p17 : lw_okq (⟨"LaneCrowds$Night", "crowdNumber", "(LLaneCrowds$Crowd;I)I"⟩, 6) := ⟨⟨by decide +kernel, by decide +kernel⟩, List.mem_of_getElem? (i := 28) (by decide +kernel), List.mem_of_getElem? (i := 249) (by decide +kernel), List.mem_of_getElem? (i := 250) (by decide +kernel)⟩
theorem lw_p18 : lw_okq (⟨"LaneCrowds$Crowd", "firstOrder", "()I"⟩, 6) := ⟨⟨by decide +kernel, by decide +kernel⟩, List.mem_of_getElem? (i := 46) (by decide +kernel), List.mem_of_getElem? (i := 253) (by decide +kernel), List.mem_of_getElem? (i := 254) (by decide +kernel)⟩
theorem lw_p19 : lw_okq (⟨"LaneCrowds$Night", "patrolsThatSee", "(LLaneCrowds$Crowd;)I"⟩, 6) := ⟨⟨by decide +kernel, by decide +kernel⟩, List.mem_of_getElem? (i := 28) (by decide +kernel), List.mem_of_getElem? (i := 257) (by decide +kernel), List.mem_of_getElem? (i := 258) (by decide +kernel)⟩
theorem lw_p20 : lw_okq (⟨"LaneCrowds$Night", "isSeen", "(LLaneCrowds$Patrol;LLaneCrowds$Crowd;)Z"⟩, 6) := ⟨⟨by decide +kernel, by decide +kernel⟩, List.mem_of_getElem? (i := 28) (by decide +kernel), List.mem_of_getElem? (i := 261) (by decide +kernel), List.mem_of_getElem? (i := 262) (by decide +kernel)⟩
theorem lw_p21 : lw_okq (⟨"LaneCrowds$Crowd", "addOrdersTo", "(J)J"⟩, 6) := ⟨⟨by decide +kernel, by decide +kernel⟩, List.mem_of_getElem? (i := 46) (by decide +kernel), List.mem_of_getElem? (i := 270) (by decide +kernel), List.mem_of_getElem? (i := 271) (by decide +kernel)⟩
theorem lw_p22 : lw_okq (⟨"LaneCrowds$Night", "addPatrolTo", "(JLLaneCrowds$Patrol;)J"⟩, 6) := ⟨⟨by decide +kernel, by decide +kernel⟩, List.mem_of_getElem? (i := 28) (by decide +kernel), List.mem_of_getElem? (i := 275) (by decide +kernel), List.mem_of_getElem? (i := 276) (by decide +kernel)⟩
theorem lw_p23 : lw_okq (⟨"LaneCrowds$Night", "guardNumber", "(LLaneCrowds$Patrol;I)I"⟩, 6) := ⟨⟨by decide +kernel, by decide +kernel⟩, List.mem_of_getElem? (i := 28) (by decide +kernel), List.mem_of_getElem? (i := 279) (by decide +kernel), List.mem_of_getElem? (i := 280) (by decide +kernel)⟩
theorem lw_p24 : lw_okq (⟨"LaneCrowds$Patrol", "nextDirection", "()I"⟩, 4) := ⟨⟨by decide +kernel, by decide +kernel⟩, List.mem_of_getElem? (i := 79) (by decide +kernel), List.mem_of_getElem? (i := 283) (by decide +kernel), List.mem_of_getElem? (i := 284) (by decide +kernel)⟩
theorem lw_p25 : lw_okq (⟨"LaneCrowds$Night", "crowdsSeenBy", "(LLaneCrowds$Patrol;)I"⟩, 6) := ⟨⟨by decide +kernel, by decide +kernel⟩, List.mem_of_getElem? (i := 28) (by decide +kernel), List.mem_of_getElem? (i := 287) (by decide +kernel), List.mem_of_getElem? (i := 288) (by decide +kernel)⟩
theorem lw_p26 : lw_okq (⟨"java/lang/Throwable", "fillInStackTrace", "(I)Ljava/lang/Throwable;"⟩, 6) := ⟨⟨by decide +kernel, by decide +kernel⟩, List.mem_of_getElem? (i := 341) (by decide +kernel), List.mem_of_getElem? (i := 339) (by decide +kernel), List.mem_of_getElem? (i := 340) (by decide +kernel)⟩
theorem lw_p27 : lw_okq (⟨"LaneCrowds$Night", "isTaken", "(I)Z"⟩, 6) := ⟨⟨by decide +kernel, by decide +kernel⟩, List.mem_of_getElem? (i := 28) (by decide +kernel), List.mem_of_getElem? (i := 372) (by decide +kernel), List.mem_of_getElem? (i := 373) (by decide +kernel)⟩
theorem lw_p28 : lw_okq (⟨"LaneCrowds$Quarter", "put", "(II)V"⟩, 1) := ⟨⟨by decide +kernel, by decide +kernel⟩, List.mem_of_getElem? (i := 34) (by decide +kernel), List.mem_of_getElem? (i := 392) (by decide +kernel), List.mem_of_getElem? (i := 393) (by decide +kernel)⟩
theorem lw_p29 : lw_okq (⟨"LaneCrowds$Night", "addCrowd", "(II)I"⟩, 6) := ⟨⟨by decide +kernel, by decide +kernel⟩, List.mem_of_getElem? (i := 28) (by decide +kernel), List.mem_of_getElem? (i := 438) (by decide +kernel), List.mem_of_getElem? (i := 439) (by decide +kernel)⟩
theorem lw_p30 : lw_okq (⟨"LaneCrowds", "needCrowd", "(I)V"⟩, 3) := ⟨⟨by decide +kernel, by decide +kernel⟩, List.mem_of_getElem? (i := 20) (by decide +kernel), List.mem_of_getElem? (i := 449) (by decide +kernel), List.mem_of_getElem? (i := 450) (by decide +kernel)⟩
theorem lw_p31 : lw_okq (⟨"LaneCrowds$Crowd", "addOrder", "(I)V"⟩, 6) := ⟨⟨by decide +kernel, by decide +kernel⟩, List.mem_of_getElem? (i := 46) (by decide +kernel), List.mem_of_getElem? (i := 457) (by decide +kernel), List.mem_of_getElem? (i := 458) (by decide +kernel)⟩
def lw_privs_2 : List (MethodName × Nat) := [(⟨"LaneCrowds$Night", "addCrowdTo", "(JLLaneCrowds$Crowd;)J"⟩, 6), (⟨"LaneCrowds$Night", "crowdNumber", "(LLaneCrowds$Crowd;I)I"⟩, 6), (⟨"LaneCrowds$Crowd", "firstOrder", "()I"⟩, 6), (⟨"LaneCrowds$Night", "patrolsThatSee", "(LLaneCrowds$Crowd;)I"⟩, 6), (⟨"LaneCrowds$Night", "isSeen", "(LLaneCrowds$Patrol;LLaneCrowds$Crowd;)Z"⟩, 6), (⟨"LaneCrowds$Crowd", "addOrdersTo", "(J)J"⟩, 6), (⟨"LaneCrowds$Night", "addPatrolTo", "(JLLaneCrowds$Patrol;)J"⟩, 6), (⟨"LaneCrowds$Night", "guardNumber", "(LLaneCrowds$Patrol;I)I"⟩, 6), (⟨"LaneCrowds$Patrol", "nextDirection", "()I"⟩, 4), (⟨"LaneCrowds$Night", "crowdsSeenBy", "(LLaneCrowds$Patrol;)I"⟩, 6), (⟨"java/lang/Throwable", "fillInStackTrace", "(I)Ljava/lang/Throwable;"⟩, 6), (⟨"LaneCrowds$Night", "isTaken", "(I)Z"⟩, 6), (⟨"LaneCrowds$Quarter", "put", "(II)V"⟩, 1), (⟨"LaneCrowds$Night", "addCrowd", "(II)I"⟩, 6), (⟨"LaneCrowds", "needCrowd", "(I)V"⟩, 3), (⟨"LaneCrowds$Crowd", "addOrder", "(I)V"⟩, 6)]
theorem lw_r2 : ∀ q ∈ lw_privs_2, lw_okq q := List.forall_mem_cons.mpr ⟨lw_p16, List.forall_mem_cons.mpr ⟨lw_p17, List.forall_mem_cons.mpr ⟨lw_p18, List.forall_mem_cons.mpr ⟨lw_p19, List.forall_mem_cons.mpr ⟨lw_p20, List.forall_mem_cons.mpr ⟨lw_p21, List.forall_mem_cons.mpr ⟨lw_p22, List.forall_mem_cons.mpr ⟨lw_p23, List.forall_mem_cons.mpr ⟨lw_p24, List.forall_mem_cons.mpr ⟨lw_p25, List.forall_mem_cons.mpr ⟨lw_p26, List.forall_mem_cons.mpr ⟨lw_p27, List.forall_mem_cons.mpr ⟨lw_p28, List.forall_mem_cons.mpr ⟨lw_p29, List.forall_mem_cons.mpr ⟨lw_p30, List.forall_mem_cons.mpr ⟨lw_p31, fun _ h => absurd h List.not_mem_nil⟩⟩⟩⟩⟩⟩⟩⟩⟩⟩⟩⟩⟩⟩⟩⟩
theorem lw_p32 : lw_okq (⟨"LaneCrowds$Night", "addPatrol", "(III)I"⟩, 6) := ⟨⟨by decide +kernel, by decide +kernel⟩, List.mem_of_getElem? (i := 28) (by decide +kernel), List.mem_of_getElem? (i := 478) (by decide +kernel), List.mem_of_getElem? (i := 479) (by decide +kernel)⟩
theorem lw_p33 : lw_okq (⟨"LaneCrowds", "needPatrol", "(I)V"⟩, 3) := ⟨⟨by decide +kernel, by decide +kernel⟩, List.mem_of_getElem? (i := 20) (by decide +kernel), List.mem_of_getElem? (i := 501) (by decide +kernel), List.mem_of_getElem? (i := 502) (by decide +kernel)⟩
theorem lw_p34 : lw_okq (⟨"LaneCrowds$Ways", "fewestSteps", "(LLaneCrowds$Quarter;II)I"⟩, 4) := ⟨⟨by decide +kernel, by decide +kernel⟩, List.mem_of_getElem? (i := 125) (by decide +kernel), List.mem_of_getElem? (i := 529) (by decide +kernel), List.mem_of_getElem? (i := 530) (by decide +kernel)⟩
theorem lw_p35 : lw_okq (⟨"LaneCrowds$Night", "goOn", "(I)V"⟩, 6) := ⟨⟨by decide +kernel, by decide +kernel⟩, List.mem_of_getElem? (i := 28) (by decide +kernel), List.mem_of_getElem? (i := 547) (by decide +kernel), List.mem_of_getElem? (i := 548) (by decide +kernel)⟩
theorem lw_p36 : lw_okq (⟨"LaneCrowds$Night", "obeyOrders", "()V"⟩, 6) := ⟨⟨by decide +kernel, by decide +kernel⟩, List.mem_of_getElem? (i := 28) (by decide +kernel), List.mem_of_getElem? (i := 551) (by decide +kernel), List.mem_of_getElem? (i := 552) (by decide +kernel)⟩
theorem lw_p37 : lw_okq (⟨"LaneCrowds$Crowd", "dropFirstOrder", "()V"⟩, 6) := ⟨⟨by decide +kernel, by decide +kernel⟩, List.mem_of_getElem? (i := 46) (by decide +kernel), List.mem_of_getElem? (i := 555) (by decide +kernel), List.mem_of_getElem? (i := 556) (by decide +kernel)⟩
theorem lw_p38 : lw_okq (⟨"LaneCrowds$Night", "tryOrder", "(LLaneCrowds$Crowd;II)Z"⟩, 6) := ⟨⟨by decide +kernel, by decide +kernel⟩, List.mem_of_getElem? (i := 28) (by decide +kernel), List.mem_of_getElem? (i := 562) (by decide +kernel), List.mem_of_getElem? (i := 563) (by decide +kernel)⟩
theorem lw_p39 : lw_okq (⟨"LaneCrowds$Night", "tryGo", "(LLaneCrowds$Crowd;II)Z"⟩, 6) := ⟨⟨by decide +kernel, by decide +kernel⟩, List.mem_of_getElem? (i := 28) (by decide +kernel), List.mem_of_getElem? (i := 567) (by decide +kernel), List.mem_of_getElem? (i := 568) (by decide +kernel)⟩
theorem lw_p40 : lw_okq (⟨"LaneCrowds$Night", "tryRaise", "(LLaneCrowds$Crowd;I)Z"⟩, 6) := ⟨⟨by decide +kernel, by decide +kernel⟩, List.mem_of_getElem? (i := 28) (by decide +kernel), List.mem_of_getElem? (i := 573) (by decide +kernel), List.mem_of_getElem? (i := 574) (by decide +kernel)⟩
theorem lw_p41 : lw_okq (⟨"LaneCrowds$Night", "tryPullDown", "(I)Z"⟩, 6) := ⟨⟨by decide +kernel, by decide +kernel⟩, List.mem_of_getElem? (i := 28) (by decide +kernel), List.mem_of_getElem? (i := 577) (by decide +kernel), List.mem_of_getElem? (i := 578) (by decide +kernel)⟩
theorem lw_p42 : lw_okq (⟨"LaneCrowds$Patrol", "moveOn", "(LLaneCrowds$Quarter;)V"⟩, 4) := ⟨⟨by decide +kernel, by decide +kernel⟩, List.mem_of_getElem? (i := 79) (by decide +kernel), List.mem_of_getElem? (i := 581) (by decide +kernel), List.mem_of_getElem? (i := 582) (by decide +kernel)⟩
theorem lw_p43 : lw_okq (⟨"LaneCrowds$Night", "scatter", "()V"⟩, 6) := ⟨⟨by decide +kernel, by decide +kernel⟩, List.mem_of_getElem? (i := 28) (by decide +kernel), List.mem_of_getElem? (i := 588) (by decide +kernel), List.mem_of_getElem? (i := 589) (by decide +kernel)⟩
theorem lw_p44 : lw_okq (⟨"LaneCrowds$Night", "become", "(LLaneCrowds$Night;)V"⟩, 6) := ⟨⟨by decide +kernel, by decide +kernel⟩, List.mem_of_getElem? (i := 28) (by decide +kernel), List.mem_of_getElem? (i := 600) (by decide +kernel), List.mem_of_getElem? (i := 601) (by decide +kernel)⟩
theorem lw_p45 : lw_okq (⟨"LaneCrowds$Quarter", "become", "(LLaneCrowds$Quarter;)V"⟩, 1) := ⟨⟨by decide +kernel, by decide +kernel⟩, List.mem_of_getElem? (i := 34) (by decide +kernel), List.mem_of_getElem? (i := 604) (by decide +kernel), List.mem_of_getElem? (i := 605) (by decide +kernel)⟩
theorem lw_p46 : lw_okq (⟨"LaneCrowds$Crowd", "become", "(LLaneCrowds$Crowd;)V"⟩, 6) := ⟨⟨by decide +kernel, by decide +kernel⟩, List.mem_of_getElem? (i := 46) (by decide +kernel), List.mem_of_getElem? (i := 609) (by decide +kernel), List.mem_of_getElem? (i := 610) (by decide +kernel)⟩
theorem lw_p47 : lw_okq (⟨"LaneCrowds$Patrol", "become", "(LLaneCrowds$Patrol;)V"⟩, 4) := ⟨⟨by decide +kernel, by decide +kernel⟩, List.mem_of_getElem? (i := 79) (by decide +kernel), List.mem_of_getElem? (i := 613) (by decide +kernel), List.mem_of_getElem? (i := 614) (by decide +kernel)⟩
def lw_privs_3 : List (MethodName × Nat) := [(⟨"LaneCrowds$Night", "addPatrol", "(III)I"⟩, 6), (⟨"LaneCrowds", "needPatrol", "(I)V"⟩, 3), (⟨"LaneCrowds$Ways", "fewestSteps", "(LLaneCrowds$Quarter;II)I"⟩, 4), (⟨"LaneCrowds$Night", "goOn", "(I)V"⟩, 6), (⟨"LaneCrowds$Night", "obeyOrders", "()V"⟩, 6), (⟨"LaneCrowds$Crowd", "dropFirstOrder", "()V"⟩, 6), (⟨"LaneCrowds$Night", "tryOrder", "(LLaneCrowds$Crowd;II)Z"⟩, 6), (⟨"LaneCrowds$Night", "tryGo", "(LLaneCrowds$Crowd;II)Z"⟩, 6), (⟨"LaneCrowds$Night", "tryRaise", "(LLaneCrowds$Crowd;I)Z"⟩, 6), (⟨"LaneCrowds$Night", "tryPullDown", "(I)Z"⟩, 6), (⟨"LaneCrowds$Patrol", "moveOn", "(LLaneCrowds$Quarter;)V"⟩, 4), (⟨"LaneCrowds$Night", "scatter", "()V"⟩, 6), (⟨"LaneCrowds$Night", "become", "(LLaneCrowds$Night;)V"⟩, 6), (⟨"LaneCrowds$Quarter", "become", "(LLaneCrowds$Quarter;)V"⟩, 1), (⟨"LaneCrowds$Crowd", "become", "(LLaneCrowds$Crowd;)V"⟩, 6), (⟨"LaneCrowds$Patrol", "become", "(LLaneCrowds$Patrol;)V"⟩, 4)]
theorem lw_r3 : ∀ q ∈ lw_privs_3, lw_okq q := List.forall_mem_cons.mpr ⟨lw_p32, List.forall_mem_cons.mpr ⟨lw_p33, List.forall_mem_cons.mpr ⟨lw_p34, List.forall_mem_cons.mpr ⟨lw_p35, List.forall_mem_cons.mpr ⟨lw_p36, List.forall_mem_cons.mpr ⟨lw_p37, List.forall_mem_cons.mpr ⟨lw_p38, List.forall_mem_cons.mpr ⟨lw_p39, List.forall_mem_cons.mpr ⟨lw_p40, List.forall_mem_cons.mpr ⟨lw_p41, List.forall_mem_cons.mpr ⟨lw_p42, List.forall_mem_cons.mpr ⟨lw_p43, List.forall_mem_cons.mpr ⟨lw_p44, List.forall_mem_cons.mpr ⟨lw_p45, List.forall_mem_cons.mpr ⟨lw_p46, List.forall_mem_cons.mpr ⟨lw_p47, fun _ h => absurd h List.not_mem_nil⟩⟩⟩⟩⟩⟩⟩⟩⟩⟩⟩⟩⟩⟩⟩⟩
theorem lw_p48 : lw_okq (⟨"LaneCrowds", "shutsBehind", "(II)I"⟩, 3) := ⟨⟨by decide +kernel, by decide +kernel⟩, List.mem_of_getElem? (i := 20) (by decide +kernel), List.mem_of_getElem? (i := 625) (by decide +kernel), List.mem_of_getElem? (i := 626) (by decide +kernel)⟩
theorem lw_p49 : lw_okq (⟨"LaneCrowdsModel", "no", "(I)I"⟩, 9) := ⟨⟨by decide +kernel, by decide +kernel⟩, List.mem_of_getElem? (i := 629) (by decide +kernel), List.mem_of_getElem? (i := 732) (by decide +kernel), List.mem_of_getElem? (i := 733) (by decide +kernel)⟩
theorem lw_p50 : lw_okq (⟨"LaneCrowdsModel", "isCrowd", "(I)Z"⟩, 9) := ⟨⟨by decide +kernel, by decide +kernel⟩, List.mem_of_getElem? (i := 629) (by decide +kernel), List.mem_of_getElem? (i := 756) (by decide +kernel), List.mem_of_getElem? (i := 757) (by decide +kernel)⟩
theorem lw_p51 : lw_okq (⟨"LaneCrowdsModel", "crowdTold", "(II)I"⟩, 9) := ⟨⟨by decide +kernel, by decide +kernel⟩, List.mem_of_getElem? (i := 629) (by decide +kernel), List.mem_of_getElem? (i := 772) (by decide +kernel), List.mem_of_getElem? (i := 773) (by decide +kernel)⟩
theorem lw_p52 : lw_okq (⟨"LaneCrowdsModel", "isPatrol", "(I)Z"⟩, 9) := ⟨⟨by decide +kernel, by decide +kernel⟩, List.mem_of_getElem? (i := 629) (by decide +kernel), List.mem_of_getElem? (i := 792) (by decide +kernel), List.mem_of_getElem? (i := 793) (by decide +kernel)⟩
theorem lw_p53 : lw_okq (⟨"LaneCrowdsModel", "guardTold", "(II)I"⟩, 9) := ⟨⟨by decide +kernel, by decide +kernel⟩, List.mem_of_getElem? (i := 629) (by decide +kernel), List.mem_of_getElem? (i := 796) (by decide +kernel), List.mem_of_getElem? (i := 797) (by decide +kernel)⟩
theorem lw_p54 : lw_okq (⟨"LaneCrowdsModel", "counted", "(I)I"⟩, 9) := ⟨⟨by decide +kernel, by decide +kernel⟩, List.mem_of_getElem? (i := 629) (by decide +kernel), List.mem_of_getElem? (i := 809) (by decide +kernel), List.mem_of_getElem? (i := 810) (by decide +kernel)⟩
theorem lw_p55 : lw_okq (⟨"LaneCrowdsModel", "left", "()I"⟩, 9) := ⟨⟨by decide +kernel, by decide +kernel⟩, List.mem_of_getElem? (i := 629) (by decide +kernel), List.mem_of_getElem? (i := 818) (by decide +kernel), List.mem_of_getElem? (i := 819) (by decide +kernel)⟩
theorem lw_p56 : lw_okq (⟨"LaneCrowdsModel$State", "cost", "(I)I"⟩, 11) := ⟨⟨by decide +kernel, by decide +kernel⟩, List.mem_of_getElem? (i := 635) (by decide +kernel), List.mem_of_getElem? (i := 845) (by decide +kernel), List.mem_of_getElem? (i := 846) (by decide +kernel)⟩
theorem lw_p57 : lw_okq (⟨"LaneCrowdsModel$State", "leastBeside", "(I)I"⟩, 11) := ⟨⟨by decide +kernel, by decide +kernel⟩, List.mem_of_getElem? (i := 635) (by decide +kernel), List.mem_of_getElem? (i := 849) (by decide +kernel), List.mem_of_getElem? (i := 850) (by decide +kernel)⟩
theorem lw_p58 : lw_okq (⟨"LaneCrowdsModel$State", "act", "(I)V"⟩, 11) := ⟨⟨by decide +kernel, by decide +kernel⟩, List.mem_of_getElem? (i := 635) (by decide +kernel), List.mem_of_getElem? (i := 862) (by decide +kernel), List.mem_of_getElem? (i := 863) (by decide +kernel)⟩
theorem lw_p59 : lw_okq (⟨"LaneCrowdsModel$State", "carriesOut", "(II)Z"⟩, 11) := ⟨⟨by decide +kernel, by decide +kernel⟩, List.mem_of_getElem? (i := 635) (by decide +kernel), List.mem_of_getElem? (i := 867) (by decide +kernel), List.mem_of_getElem? (i := 868) (by decide +kernel)⟩
theorem lw_p60 : lw_okq (⟨"LaneCrowdsModel$State", "pulls", "(I)Z"⟩, 11) := ⟨⟨by decide +kernel, by decide +kernel⟩, List.mem_of_getElem? (i := 635) (by decide +kernel), List.mem_of_getElem? (i := 872) (by decide +kernel), List.mem_of_getElem? (i := 873) (by decide +kernel)⟩
theorem lw_p61 : lw_okq (⟨"LaneCrowdsModel$State", "isLane", "(I)Z"⟩, 11) := ⟨⟨by decide +kernel, by decide +kernel⟩, List.mem_of_getElem? (i := 635) (by decide +kernel), List.mem_of_getElem? (i := 876) (by decide +kernel), List.mem_of_getElem? (i := 877) (by decide +kernel)⟩
theorem lw_p62 : lw_okq (⟨"LaneCrowdsModel$State", "raises", "(II)Z"⟩, 11) := ⟨⟨by decide +kernel, by decide +kernel⟩, List.mem_of_getElem? (i := 635) (by decide +kernel), List.mem_of_getElem? (i := 880) (by decide +kernel), List.mem_of_getElem? (i := 881) (by decide +kernel)⟩
theorem lw_p63 : lw_okq (⟨"LaneCrowdsModel$State", "goes", "(III)Z"⟩, 11) := ⟨⟨by decide +kernel, by decide +kernel⟩, List.mem_of_getElem? (i := 635) (by decide +kernel), List.mem_of_getElem? (i := 885) (by decide +kernel), List.mem_of_getElem? (i := 886) (by decide +kernel)⟩
def lw_privs_4 : List (MethodName × Nat) := [(⟨"LaneCrowds", "shutsBehind", "(II)I"⟩, 3), (⟨"LaneCrowdsModel", "no", "(I)I"⟩, 9), (⟨"LaneCrowdsModel", "isCrowd", "(I)Z"⟩, 9), (⟨"LaneCrowdsModel", "crowdTold", "(II)I"⟩, 9), (⟨"LaneCrowdsModel", "isPatrol", "(I)Z"⟩, 9), (⟨"LaneCrowdsModel", "guardTold", "(II)I"⟩, 9), (⟨"LaneCrowdsModel", "counted", "(I)I"⟩, 9), (⟨"LaneCrowdsModel", "left", "()I"⟩, 9), (⟨"LaneCrowdsModel$State", "cost", "(I)I"⟩, 11), (⟨"LaneCrowdsModel$State", "leastBeside", "(I)I"⟩, 11), (⟨"LaneCrowdsModel$State", "act", "(I)V"⟩, 11), (⟨"LaneCrowdsModel$State", "carriesOut", "(II)Z"⟩, 11), (⟨"LaneCrowdsModel$State", "pulls", "(I)Z"⟩, 11), (⟨"LaneCrowdsModel$State", "isLane", "(I)Z"⟩, 11), (⟨"LaneCrowdsModel$State", "raises", "(II)Z"⟩, 11), (⟨"LaneCrowdsModel$State", "goes", "(III)Z"⟩, 11)]
theorem lw_r4 : ∀ q ∈ lw_privs_4, lw_okq q := List.forall_mem_cons.mpr ⟨lw_p48, List.forall_mem_cons.mpr ⟨lw_p49, List.forall_mem_cons.mpr ⟨lw_p50, List.forall_mem_cons.mpr ⟨lw_p51, List.forall_mem_cons.mpr ⟨lw_p52, List.forall_mem_cons.mpr ⟨lw_p53, List.forall_mem_cons.mpr ⟨lw_p54, List.forall_mem_cons.mpr ⟨lw_p55, List.forall_mem_cons.mpr ⟨lw_p56, List.forall_mem_cons.mpr ⟨lw_p57, List.forall_mem_cons.mpr ⟨lw_p58, List.forall_mem_cons.mpr ⟨lw_p59, List.forall_mem_cons.mpr ⟨lw_p60, List.forall_mem_cons.mpr ⟨lw_p61, List.forall_mem_cons.mpr ⟨lw_p62, List.forall_mem_cons.mpr ⟨lw_p63, fun _ h => absurd h List.not_mem_nil⟩⟩⟩⟩⟩⟩⟩⟩⟩⟩⟩⟩⟩⟩⟩⟩
theorem lw_p64 : lw_okq (⟨"LaneCrowdsModel$State", "patrol", "(I)V"⟩, 11) := ⟨⟨by decide +kernel, by decide +kernel⟩, List.mem_of_getElem? (i := 635) (by decide +kernel), List.mem_of_getElem? (i := 889) (by decide +kernel), List.mem_of_getElem? (i := 890) (by decide +kernel)⟩
theorem lw_p65 : lw_okq (⟨"LaneCrowdsModel$State", "copy", "([I[I)V"⟩, 11) := ⟨⟨by decide +kernel, by decide +kernel⟩, List.mem_of_getElem? (i := 635) (by decide +kernel), List.mem_of_getElem? (i := 902) (by decide +kernel), List.mem_of_getElem? (i := 903) (by decide +kernel)⟩
def lw_privs_5 : List (MethodName × Nat) := [(⟨"LaneCrowdsModel$State", "patrol", "(I)V"⟩, 11), (⟨"LaneCrowdsModel$State", "copy", "([I[I)V"⟩, 11)]
theorem lw_r5 : ∀ q ∈ lw_privs_5, lw_okq q := List.forall_mem_cons.mpr ⟨lw_p64, List.forall_mem_cons.mpr ⟨lw_p65, fun _ h => absurd h List.not_mem_nil⟩⟩
def lw_privs : List (MethodName × Nat) := lw_privs_1 ++ (lw_privs_2 ++ (lw_privs_3 ++ (lw_privs_4 ++ (lw_privs_5))))
def lw_tbl : List Cond := k2_sels lw_privs ++ tables_1
theorem lw_privs_ok : ∀ q ∈ lw_privs, lw_okq q := by
  show ∀ q ∈ lw_privs_1 ++ (lw_privs_2 ++ (lw_privs_3 ++ (lw_privs_4 ++ (lw_privs_5)))), lw_okq q
  exact List.forall_mem_append.mpr ⟨lw_r1, List.forall_mem_append.mpr ⟨lw_r2, List.forall_mem_append.mpr ⟨lw_r3, List.forall_mem_append.mpr ⟨lw_r4, lw_r5⟩⟩⟩⟩
/-- the streams that the claim lets the run draw from -/
abbrev lw_cs : List Choice := [Jvm.Choice.named "NaN.bits"]
theorem lw_bits : nanBits ∈ lw_cs := by first | decide | exact List.mem_cons_self | simp [lw_cs, nanBits]
-- ===== end of PART A; then your names; then what follows =====
end
section
/-! ===== BEGIN words of one list among another's, by their places ===== -/
theorem goodIn_r {big : List Cond} (ws : List Cond) (ps : List Nat) (hp : ws = ps.filterMap (fun i => big[i]?)) (h : ws.all goodWord = true) : GoodIn big ws := by
  intro w hw
  have h1 := List.all_eq_true.mp h w hw
  rw [hp] at hw
  obtain ⟨i, -, hi⟩ := List.mem_filterMap.mp hw
  have hm : w ∈ big := by first | exact List.mem_of_getElem? hi | exact List.getElem?_mem hi
  exact ⟨hm, good_of_word h1⟩
theorem goodIn_app {big a b : List Cond} (ha : GoodIn big a) (hb : GoodIn big b) : GoodIn big (a ++ b) := fun w h => (List.mem_append.mp h).elim (ha w) (hb w)
theorem goodIn_ca {big a b : List Cond} {c : Cond} (ha : GoodIn big (c :: a)) (hb : GoodIn big b) : GoodIn big (c :: (a ++ b)) := fun w h => (List.mem_cons.mp h).elim (fun e => ha w (List.mem_cons.mpr (Or.inl e))) (fun h => (List.mem_append.mp h).elim (fun h => ha w (List.mem_cons.mpr (Or.inr h))) (hb w))
theorem goodIn_sub {big ws : List Cond} (hm : ∀ w ∈ ws, w ∈ big) (h : ws.all goodWord = true) : GoodIn big ws := fun w hw => ⟨hm w hw, good_of_word (List.all_eq_true.mp h w hw)⟩
/-! ===== END ===== -/

/-! ===== BEGIN exceptions that leave a method, and their catching by the caller (launches without stack traces) ===== -/
section VXA
/-! The laws vx_back, vx_callV, vx_callS, vx_callSW, vx_throw0, vx_throwS follow proofs of the library, with one case more: JvmDerived/Free/Laws.lean (Back.of_free), Shelf42/LK1.lean (callV, callS), Shelf/KitTraced.lean (throwNew0V, throwNewS). -/
/-- where a method has thrown q: the class by its name, the cell, what was written, the world -/
def vx_T (XC : String → State → State → Prop) (st : State) (q : Addr) (t : State) (mc ms : Nat) (free : Addr → Prop) : Prop :=
  ∃ (E : String) (ce : Cell) (L : List Loc), XC E st t ∧ t.heap[q]? = some ce ∧ ce.vm = .none ∧ st.vm.findClass E = some ce.cls ∧ st.WarmedH t.vm ∧ st.sameButNew ({ t with vm := st.vm } : State) L mc ms ∧ ∀ z ∈ L, free z.base
def vx_Q (Qc : Array Value → State → Outcome → State → Prop) (XC : String → State → State → Prop) (mc ms : Nat) (free : Addr → Prop) : Array Value → State → Outcome → State → Prop := fun a st o t =>
  (Qc a st o t ∧ ∃ L, FrameEnd st o t L mc ms ∧ ∀ q ∈ L, free q.base) ∨ ∃ q, o = .threw q ∧ vx_T XC st q t mc ms free
/-- a callee that returns or throws -/
def vx_Met (l : Launch) (y : MethodName) (ws : List Cond) (rm : Room) (Pc : Array Value → State → Prop) (Qc : Array Value → State → Outcome → State → Prop) (XC : String → State → State → Prop) (mc ms : Nat) (free : Addr → Prop) : Prop :=
  MetFree l y (headSpec ws rm) Pc (fun _ _ _ _ _ => True) (vx_Q Qc XC mc ms free)
def vx_Post (XC : String → State → State → Prop) (mc ms : Nat) (free : Addr → Prop) : Pt → Array Value → Addr → Pt → Prop := fun A a q B =>
  ∃ (g : JFrame) (mk : MethodId) (t : State) (L : List Loc) (E : String) (ce : Cell), B.U.heap = t.heap ∧ B.U.vm = t.vm ∧ XC E (A.U.calling g mk a) t ∧ t.heap[q]? = some ce ∧ ce.vm = .none ∧ A.U.vm.findClass E = some ce.cls ∧ B.locs = A.locs ++ L ∧ (∀ z ∈ L, free z.base) ∧ B.cells = A.cells + mc ∧ B.slots = A.slots + ms
def vx_Back (l : Launch) (R : Room) (p : Program) (e : Env) (below : List Frame) (s : State) (sargs : Array Value) (y : MethodName) (len W9 : Nat)
    (Pre : Pt → Array Value → Prop) (Post : Pt → Array Value → Option Value → Pt → Prop) (PostX : Pt → Array Value → Addr → Pt → Prop) : Prop :=
  ∀ (m : MethodId) (meth : Method) (c : Code) (A : Pt) (g : JFrame) (ig : Instr) (mk : MethodId) (a : Array Value),
    Stand p l e R s m sargs below meth c A.U A.locs A.cells A.slots → g.method = m → g.locals.size = c.maxLocals → decode c.code g.pc = .ok (ig, len) →
    2 * g.monitorRoom + (g.stack.map fun v => v.category).sum ≤ W9 → A.U.methodNamed? y = some mk → Pre A a →
    (∃ (v : Option Value) (B : Pt), Stand p l e R s m sargs below meth c B.U B.locs B.cells B.slots ∧ Post A a v B ∧
      Steps p.tables e below (doInvoke e (A.U.setTop g) [] mk a).1 (B.U.setTop { g with pc := g.pc + len, stack := v.toList ++ g.stack })) ∨
    (∃ (q : Addr) (B : Pt), Stand p l e R s m sargs below meth c B.U B.locs B.cells B.slots ∧ PostX A a q B ∧
      Steps p.tables e below (doInvoke e (A.U.setTop g) [] mk a).1 ((B.U.setTop g).pushFrame (.throwing q)))
section Payer
variable {l : Launch} {R : Room} {p : Program} {e : Env} {below : List Frame} {s : State} {sargs : Array Value} {y : MethodName} {len W9 : Nat}
theorem vx_back {ws : List Cond} {rm : Room} {Pc : Array Value → State → Prop} {Qc : Array Value → State → Outcome → State → Prop} {XC : String → State → State → Prop} {mc ms : Nat} {free : Addr → Prop} {bytes : ByteArray} {maxL : Nat} {ret : Option FieldType}
    (hM : vx_Met l y ws rm Pc Qc XC mc ms free) (hblind : FrameBlind Pc) (hrc : rm.cells = mc) (hrs : rm.slots = ms)
    (hframes : rm.frames + 1 ≤ R.frames) (hlocals : W9 + (maxL + 11) + rm.locals ≤ R.locals)
    (hws : ∀ w ∈ ws, ∀ a' U, s.WarmedH U.vm → w.before a' U = true) (hcode : Cond.code y bytes maxL ret ∈ ws) (hinit : ∀ a' U, s.WarmedH U.vm → (Cond.initialized y.cls).before a' U = true) :
    vx_Back l R p e below s sargs y len W9 (PreOf R mc ms Pc) (PostOf Qc mc ms free) (vx_Post XC mc ms free) := by
  intro m meth c A g ig mk a X hg hsize hdg hW hn hp
  have h1 : (headSpec ws rm).pre.before a A.U = true := atoms_intro fun w hw => hws w hw _ _ X.warmed
  have h2 : (Cond.code y bytes maxL ret).before a A.U = true := hws _ hcode _ _ X.warmed
  have h3 : (Cond.initialized y.cls).before a A.U = true := hinit _ _ X.warmed
  have h4 : A.cells + (headSpec ws rm).room.cells ≤ R.cells := by rw [show (headSpec ws rm).room.cells = mc from hrc]; exact hp.1
  have h5 : A.slots + (headSpec ws rm).room.slots ≤ R.slots := by rw [show (headSpec ws rm).room.slots = ms from hrs]; exact hp.2.1
  have hPc : Pc a (A.U.calling g mk a) := hblind _ _ _ _ hp.2.2
  obtain ⟨U, Ls, c0, s0⟩ := A
  dsimp only [Pt.U, Pt.locs, Pt.cells, Pt.slots] at h1 h2 h3 h4 h5 X hn hPc ⊢
  obtain ⟨methY, cY, hmY, hcY, -, hlY, -, -, -, -⟩ := Cond.code_spec hn h2
  obtain ⟨kY, hkY, -⟩ := className_of_methodNamed hn
  have hinitY : kY.init = .initialized := Cond.initialized_spec (findClass_of_methodNamed hn) hkY h3
  have h : At U g.method c below := by rw [hg]; exact X.here
  have hlocals9 : W9 + (maxL + 11) + (headSpec ws rm).room.locals ≤ R.locals := hlocals
  have happ : (headSpec ws rm).appliesLoose y e.platform (U.calling g mk a) = true :=
    Spec.appliesLoose_calling (g := g) h hdg hn hkY hinitY
      (X.room_calling (g := g) (R' := (headSpec ws rm).room) hsize hmY hcY hframes (by rw [hlY]; omega) h4 h5) h1
  obtain ⟨mid, hmid⟩ := h.above
  have hfr : (U.setTop g).frames = (.java g :: mid) ++ below := by rw [State.frames_setTop' g h.top, hmid]; rfl
  obtain ⟨o, s₂, hsteps, -, hend, hq⟩ := Steps.callFree hM p X.admits X.cas X.clock (acts := []) hfr happ hPc trivial
  have hq' : vx_Q Qc XC mc ms free a (U.calling g mk a) o s₂ := hq
  rw [State.frames_setTop' g h.top] at hend
  obtain ⟨g₀, hg0⟩ := Option.isSome_iff_exists.mp h.top
  obtain ⟨r, hr⟩ := State.topJava?_eq_some.mp hg0
  have hr' : (({ U with heap := s₂.heap, slotsUsed := s₂.slotsUsed } : State).setVm s₂.vm).frames = .java g₀ :: r := hr
  rcases hq' with ⟨hqc, L, hfe, hL⟩ | ⟨q, rfl, E, ce, L, hx, hce, hcv, hcl, hW₂, hsm, hL⟩
  · obtain ⟨⟨v, rfl⟩, hW₂, e2, q2, q3, q4, q5, q6⟩ := id hfe
    have e3 : s₂ = ({ (U.calling g mk a).setFrames s₂.frames with heap := s₂.heap, slotsUsed := s₂.slotsUsed } : State).setVm s₂.vm := by
      have : s₂ = ({ s₂ with vm := (U.calling g mk a).vm } : State).setVm s₂.vm := rfl
      rw [e2] at this
      exact this
    obtain ⟨c₂, i₂, len₂, hc₂, hd₂, hf₂⟩ := hend
    have hW' : U.WarmedH s₂.vm := hW₂
    have hcc : c₂ = c := by
      have h1 : s₂.code? g.method = U.code? g.method := by
        rw [State.code?_eq, State.code?_eq, hW'.alike.method?]
      exact Option.some.inj (hc₂.symm.trans (h1.trans h.code))
    subst hcc
    have hlen : len₂ = len := by rw [hdg] at hd₂; cases hd₂; rfl
    subst hlen
    have hs₂ : s₂ = (({ U with heap := s₂.heap, slotsUsed := s₂.slotsUsed } : State).setVm s₂.vm).setTop { g with pc := g.pc + len₂, stack := v.toList ++ g.stack } := by
      refine e3.trans ?_
      rw [hf₂, State.calling_eq h.top, State.setFrames_setFrames, State.setTop_of_frames _ hr', hr]
      rfl
    have hsame : U.sameButNew ({ U with heap := s₂.heap, slotsUsed := s₂.slotsUsed } : State) L mc ms := by
      refine ⟨?_, q2, q3, q4, q5, q6⟩
      obtain ⟨t, ht, -⟩ := State.frames_cons hr
      show ({ U with heap := s₂.heap, slotsUsed := s₂.slotsUsed } : State) = { U.setFrames U.frames with heap := s₂.heap, slotsUsed := s₂.slotsUsed }
      rw [State.setFrames_self ht]
    subst hg
    refine Or.inl ⟨v, ⟨(({ U with heap := s₂.heap, slotsUsed := s₂.slotsUsed } : State).setVm s₂.vm), Ls ++ L, c0 + mc, s0 + ms⟩,
      ⟨X.admits, X.cas, X.clock, X.frames, X.room, X.hears, X.method, X.code, (X.here.setHeapUsed s₂.heap s₂.slotsUsed).setVm hW'.alike, X.tail, State.WarmedH.trans X.warmed hW', X.limits, X.bytes, X.same.trans (hsame.setVm s.vm)⟩,
      ⟨g, mk, s₂, L, rfl, rfl, hqc, rfl, hL, rfl, rfl⟩, ?_⟩
    show Steps p.tables e below _ ((({ U with heap := s₂.heap, slotsUsed := s₂.slotsUsed } : State).setVm s₂.vm).setTop { g with pc := g.pc + len₂, stack := v.toList ++ g.stack })
    rw [← hs₂]
    exact hsteps
  · obtain ⟨e2, q2, q3, q4, q5, q6⟩ := id hsm
    have e3 : s₂ = ({ (U.calling g mk a).setFrames s₂.frames with heap := s₂.heap, slotsUsed := s₂.slotsUsed } : State).setVm s₂.vm := by
      have : s₂ = ({ s₂ with vm := (U.calling g mk a).vm } : State).setVm s₂.vm := rfl
      rw [e2] at this
      exact this
    have hf₂ : s₂.frames = .throwing q :: .java g :: U.frames.tail := hend
    have hW' : U.WarmedH s₂.vm := hW₂
    have hs₂ : s₂ = ((({ U with heap := s₂.heap, slotsUsed := s₂.slotsUsed } : State).setVm s₂.vm).setTop g).pushFrame (.throwing q) := by
      refine e3.trans ?_
      rw [hf₂, State.calling_eq h.top, State.setFrames_setFrames, State.pushFrame, State.frames_setTop _ hr', State.setTop_of_frames _ hr', State.setFrames_setFrames, hr]
      rfl
    have hsame : U.sameButNew ({ U with heap := s₂.heap, slotsUsed := s₂.slotsUsed } : State) L mc ms := by
      refine ⟨?_, q2, q3, q4, q5, q6⟩
      obtain ⟨t, ht, -⟩ := State.frames_cons hr
      show ({ U with heap := s₂.heap, slotsUsed := s₂.slotsUsed } : State) = { U.setFrames U.frames with heap := s₂.heap, slotsUsed := s₂.slotsUsed }
      rw [State.setFrames_self ht]
    subst hg
    refine Or.inr ⟨q, ⟨(({ U with heap := s₂.heap, slotsUsed := s₂.slotsUsed } : State).setVm s₂.vm), Ls ++ L, c0 + mc, s0 + ms⟩,
      ⟨X.admits, X.cas, X.clock, X.frames, X.room, X.hears, X.method, X.code, (X.here.setHeapUsed s₂.heap s₂.slotsUsed).setVm hW'.alike, X.tail, State.WarmedH.trans X.warmed hW', X.limits, X.bytes, X.same.trans (hsame.setVm s.vm)⟩,
      ⟨g, mk, s₂, L, E, ce, rfl, rfl, hx, hce, hcv, hcl, rfl, hL, rfl, rfl⟩, ?_⟩
    show Steps p.tables e below _ (((({ U with heap := s₂.heap, slotsUsed := s₂.slotsUsed } : State).setVm s₂.vm).setTop g).pushFrame (.throwing q))
    rw [← hs₂]
    exact hsteps
end Payer
section Calls
variable {p : Program} {l : Launch} {e : Env} {R : Room} {s : State} {m : MethodId} {args : Array Value} {below : List Frame} {meth : Method} {c : Code} {T : State} {locs : List Loc} {cells slots : Nat}
theorem vx_callV (X : Stand p l e R s m args below meth c T locs cells slots) (hexec : p.tables.exec = Jvm.exec) {own C : String} {index : Nat} {y : MethodName} {bytes : ByteArray} {maxL : Nat} {ret : Option FieldType}
    (hown : s.vm.findClass own = some m.cls) (hlink : (Cond.methodLink own index y).before args s = true) (hinst : (Cond.instanceMethod y).before args s = true) (hsel : (Cond.selects C y y).before args s = true)
    (hcode : (Cond.code y bytes maxL ret).before args s = true) (hy : y.cls ≠ "java/lang/invoke/MethodHandle" ∧ y.cls ≠ "java/lang/invoke/VarHandle")
    {W9 : Nat} {Pre : Pt → Array Value → Prop} {Post : Pt → Array Value → Option Value → Pt → Prop} {PostX : Pt → Array Value → Addr → Pt → Prop} (hK : vx_Back l R p e below s args y 3 W9 Pre Post PostX)
    {b : Addr} {cellB : Cell} (hcell : T.heap[b]? = some cellB) (hobj : cellB.vm.isStatics = false) (hcls : s.vm.findClass C = some cellB.cls)
    {g : JFrame} (hg : g.method = m) (hsize : g.locals.size = c.maxLocals) {argsL rest : List Value} (hlen : ∀ sig, parseMethodDescriptor y.desc = some sig → argsL.length = sig.parameters.length)
    (hstack : g.stack = argsL.reverse ++ .ref b :: rest) (hW : 2 * g.monitorRoom + (rest.map fun v => v.category).sum ≤ W9) (hdg : decode c.code g.pc = .ok (.invokevirtual index, 3))
    (hpre : ∀ vm₁, s.WarmedH vm₁ → Pre ⟨T.setVm vm₁, locs, cells, slots⟩ (Value.ref b :: argsL).toArray) :
    (∃ (v : Option Value) (vm₁ : Vm) (B : Pt), s.WarmedH vm₁ ∧ Stand p l e R s m args below meth c B.U B.locs B.cells B.slots ∧ Post ⟨T.setVm vm₁, locs, cells, slots⟩ (Value.ref b :: argsL).toArray v B ∧
      ∀ target, Steps p.tables e below (B.U.setTop { g with pc := g.pc + 3, stack := v.toList ++ rest }) target → Steps p.tables e below (T.setTop g) target) ∨
    (∃ (q : Addr) (vm₁ : Vm) (B : Pt), s.WarmedH vm₁ ∧ Stand p l e R s m args below meth c B.U B.locs B.cells B.slots ∧ PostX ⟨T.setVm vm₁, locs, cells, slots⟩ (Value.ref b :: argsL).toArray q B ∧
      Steps p.tables e below (T.setTop g) ((B.U.setTop { g with stack := rest }).pushFrame (.throwing q))) := by
  obtain ⟨mk, methM, hnamed, hmethM, hstM, habM⟩ := Cond.instanceMethod_spec hinst
  obtain ⟨methM', cM, hmethM', -, -, -, -, -, -, hsigM⟩ := Cond.code_spec hnamed hcode
  cases hmethM.symm.trans hmethM'
  obtain ⟨c2, r2, m2, q1, q2, q3, q4, kP, hkP, hkPi⟩ := Cond.selects_spec hsel
  cases hcls.symm.trans q1
  cases (State.methodFound?_of_named hnamed hy).symm.trans q2
  cases hnamed.symm.trans q3
  have hselP : selectMethod e.platform s.vm cellB.cls mk = .method mk := by rw [Launch.admits_selectMethod X.admits]; exact q4
  obtain ⟨vm₁, X₁, hstep₁⟩ := X.invokevirtual hexec hown hlink hnamed hmethM hstM hkP hkPi hy (a := b) (cell := cellB) hcell
    (fun z h => by rw [h] at hobj; cases hobj) hselP hmethM habM hkP hkPi (g := g) hg (argsL := argsL) (rest := rest) (hlen _ hsigM) hstack hdg
  rcases hK m meth c ⟨T.setVm vm₁, locs, cells, slots⟩ { g with stack := rest } (.invokevirtual index) mk (Value.ref b :: argsL).toArray X₁ hg hsize hdg hW (X₁.named hnamed) (hpre vm₁ X₁.warmed) with ⟨v, B, X', hpost, hsteps⟩ | ⟨q, B, X', hpost, hsteps⟩
  · exact Or.inl ⟨v, vm₁, B, X₁.warmed, X', hpost, fun target h => hstep₁ _ fun acts => by rw [doInvoke_state]; exact hsteps.trans h⟩
  · exact Or.inr ⟨q, vm₁, B, X₁.warmed, X', hpost, hstep₁ _ fun acts => by rw [doInvoke_state]; exact hsteps⟩
theorem vx_callS (X : Stand p l e R s m args below meth c T locs cells slots) (hexec : p.tables.exec = Jvm.exec) {own : String} {index : Nat} {y : MethodName} {bytes : ByteArray} {maxL : Nat} {ret : Option FieldType}
    (hown : s.vm.findClass own = some m.cls) (hlink : (Cond.methodLink own index y).before args s = true) (hstat : (Cond.static y).before args s = true) (hinit : (Cond.initialized y.cls).before args s = true)
    (hcode : (Cond.code y bytes maxL ret).before args s = true) (hy : y.cls ≠ "java/lang/invoke/MethodHandle" ∧ y.cls ≠ "java/lang/invoke/VarHandle")
    {W9 : Nat} {Pre : Pt → Array Value → Prop} {Post : Pt → Array Value → Option Value → Pt → Prop} {PostX : Pt → Array Value → Addr → Pt → Prop} (hK : vx_Back l R p e below s args y 3 W9 Pre Post PostX)
    {g : JFrame} (hg : g.method = m) (hsize : g.locals.size = c.maxLocals) {argsL rest : List Value} (hlen : ∀ sig, parseMethodDescriptor y.desc = some sig → argsL.length = sig.parameters.length)
    (hstack : g.stack = argsL.reverse ++ rest) (hW : 2 * g.monitorRoom + (rest.map fun v => v.category).sum ≤ W9) (hdg : decode c.code g.pc = .ok (.invokestatic index, 3))
    (hpre : ∀ vm₁, s.WarmedH vm₁ → Pre ⟨T.setVm vm₁, locs, cells, slots⟩ argsL.toArray) :
    (∃ (v : Option Value) (vm₁ : Vm) (B : Pt), s.WarmedH vm₁ ∧ Stand p l e R s m args below meth c B.U B.locs B.cells B.slots ∧ Post ⟨T.setVm vm₁, locs, cells, slots⟩ argsL.toArray v B ∧
      ∀ target, Steps p.tables e below (B.U.setTop { g with pc := g.pc + 3, stack := v.toList ++ rest }) target → Steps p.tables e below (T.setTop g) target) ∨
    (∃ (q : Addr) (vm₁ : Vm) (B : Pt), s.WarmedH vm₁ ∧ Stand p l e R s m args below meth c B.U B.locs B.cells B.slots ∧ PostX ⟨T.setVm vm₁, locs, cells, slots⟩ argsL.toArray q B ∧
      Steps p.tables e below (T.setTop g) ((B.U.setTop { g with stack := rest }).pushFrame (.throwing q))) := by
  obtain ⟨mk, hnamed⟩ := Cond.code_named hcode
  obtain ⟨methM, cM, hmethM, -, -, -, -, -, -, hsigM⟩ := Cond.code_spec hnamed hcode
  have hstatic : methM.isStatic = true := Cond.static_spec hnamed hmethM hstat
  obtain ⟨kP, hkP, -⟩ := className_of_methodNamed hnamed
  have hinitP : kP.init = .initialized := Cond.initialized_spec (findClass_of_methodNamed hnamed) hkP hinit
  obtain ⟨vm₁, X₁, hstep₁⟩ := X.invokestatic hexec hown hlink hnamed hmethM hstatic hkP hinitP hy (g := g) hg (argsL := argsL) (rest := rest) (hlen _ hsigM) hstack hdg
  rcases hK m meth c ⟨T.setVm vm₁, locs, cells, slots⟩ { g with stack := rest } (.invokestatic index) mk argsL.toArray X₁ hg hsize hdg hW (X₁.named hnamed) (hpre vm₁ X₁.warmed) with ⟨v, B, X', hpost, hsteps⟩ | ⟨q, B, X', hpost, hsteps⟩
  · exact Or.inl ⟨v, vm₁, B, X₁.warmed, X', hpost, fun target h => hstep₁ _ fun acts => by rw [doInvoke_state]; exact hsteps.trans h⟩
  · exact Or.inr ⟨q, vm₁, B, X₁.warmed, X', hpost, hstep₁ _ fun acts => by rw [doInvoke_state]; exact hsteps⟩
end Calls
theorem vx_cls {s : State} {T : State} {vm₁ : Vm} {E : String} {k : ClassId} (hW : s.WarmedH vm₁) (h : (T.setVm vm₁).vm.findClass E = some k) : s.vm.findClass E = some k := by
  have h1 : vm₁.findClass E = some k := h
  rw [hW.alike.findClass] at h1
  exact h1
/-- the method's frame g, with q thrown over it -/
def vx_W (p : Program) (l : Launch) (e : Env) (R : Room) (s : State) (m : MethodId) (args : Array Value) (below : List Frame) (meth : Method) (c : Code) (H : Heap) (locs : List Loc) (cells slots : Nat) (Q : State → Prop) (g : JFrame) (q : Addr) : Prop :=
  ∀ T : State, T.heap = H → Stand p l e R s m args below meth c T locs cells slots → ∃ t, Steps p.tables e below ((T.setTop g).pushFrame (.throwing q)) t ∧ Q t
def vx_Run (p : Program) (l : Launch) (e : Env) (R : Room) (s : State) (m : MethodId) (args : Array Value) (below : List Frame) (meth : Method) (c : Code) (H : Heap) (locs : List Loc) (cells slots mc ms : Nat) (g : JFrame) (rest : List Value) (Qa : State → Outcome → State → Prop) (XC : String → State → State → Prop) (free : Addr → Prop) : Prop :=
  ∀ T : State, T.heap = H → Stand p l e R s m args below meth c T locs cells slots →
    (∃ (v : Option Value) (st₀ t T' : State) (L : List Loc), st₀.heap = H ∧ Stand p l e R s m args below meth c T' (locs ++ L) (cells + mc) (slots + ms) ∧ (∀ q ∈ L, free q.base) ∧ T'.heap = t.heap ∧ T'.vm = t.vm ∧ Qa st₀ (.returned v) t ∧
      Goes p e below T g T' { g with pc := g.pc + 3, stack := v.toList ++ rest }) ∨
    (∃ (q : Addr) (st₀ t T' : State) (L : List Loc) (E : String) (ce : Cell), st₀.heap = H ∧ Stand p l e R s m args below meth c T' (locs ++ L) (cells + mc) (slots + ms) ∧ (∀ z ∈ L, free z.base) ∧ T'.heap = t.heap ∧ T'.vm = t.vm ∧ XC E st₀ t ∧ t.heap[q]? = some ce ∧ ce.vm = .none ∧ s.vm.findClass E = some ce.cls ∧
      Steps p.tables e below (T.setTop g) ((T'.setTop { g with stack := rest }).pushFrame (.throwing q)))
def vx_X {S : Type} (px : S → Prop) (B : String → S → State → Prop) (A : Nat → Prop) : String → State → State → Prop := fun E st t => ∃ u : S, px u ∧ B E u t ∧ va_F A st t
section Runs
variable {p : Program} {l : Launch} {e : Env} {R : Room} {s : State} {m : MethodId} {args : Array Value} {below : List Frame} {meth : Method} {c : Code} {H : Heap} {locs : List Loc} {cells slots : Nat}
variable {y : MethodName} {bytes cc : ByteArray} {maxL nL mc ms n index : Nat} {ret : Option FieldType} {ws : List Cond} {rm : Room} {Pc : Array Value → State → Prop} {Qc : Array Value → State → Outcome → State → Prop} {XC : String → State → State → Prop} {free : Addr → Prop} {Ts : List Cond} {own C : String} {b : Addr} {As rest : List Value} {g : JFrame}
theorem vx_callBack (cb : CallB R s args own index y bytes maxL ret ws rm mc ms n) (hM : vx_Met l y ws rm Pc Qc XC mc ms free) (hbl : FrameBlind Pc) : vx_Back l R p e below s args y 3 8 (PreOf R mc ms Pc) (PostOf Qc mc ms free) (vx_Post XC mc ms free) := by
  obtain ⟨hrc, hrs, hfr, hlo, hws, hcw, -, hini, -⟩ := cb
  exact vx_back (bytes := bytes) (maxL := maxL) (ret := ret) hM hbl hrc hrs hfr hlo hws hcw (fun a' U hW => word_at hW (Or.inl (by first | rfl | simp [Cond.onTables, Cond.keeps, Cond.steady])) hini)
theorem vx_runV (S : CallFix p m c cc nL s args Ts own) (hM : vx_Met l y ws rm Pc Qc XC mc ms free) (cw : CallW R s args own C index y bytes maxL ret ws rm mc ms n) (hp : PreV s H C b Pc As)
    (hg : g.method = m) (hn : As.length = n) (hsize : g.locals.size = nL) (hstack : g.stack = As.reverse ++ .ref b :: rest) (hW : 2 * g.monitorRoom + (rest.map fun v => v.category).sum ≤ 8) (hdg : decode cc g.pc = .ok (.invokevirtual index, 3)) (hf : cells + mc ≤ R.cells ∧ slots + ms ≤ R.slots) :
    vx_Run p l e R s m args below meth c H locs cells slots mc ms g rest (Qc (Value.ref b :: As).toArray) XC free := by
  have hK : vx_Back l R p e below s args y 3 8 (PreOf R mc ms Pc) (PostOf Qc mc ms free) (vx_Post XC mc ms free) := vx_callBack cw.1 hM hp.1
  obtain ⟨⟨-, -, -, -, -, -, hcode, -, hy, hlen, hl⟩, hin, hse⟩ := cw
  obtain ⟨hx, hb, hml, ho, -⟩ := S
  obtain ⟨-, ⟨cellB, hcB, hoB, hclB⟩, hPc⟩ := hp
  intro T hT X
  rcases vx_callV X hx (C := C) (bytes := bytes) (maxL := maxL) (ret := ret) ho hl hin hse hcode hy hK (by rw [hT]; exact hcB) hoB hclB hg (hsize.trans hml.symm) (argsL := As) (rest := rest) (fun sig h => hn.trans (hlen sig h)) hstack hW (by rw [hb]; exact hdg)
    (fun vm₁ hW₁ => ⟨hf.1, hf.2, hPc (T.setVm vm₁) hT hW₁⟩) with ⟨v, vm₁, ⟨U', l2, c2, s2⟩, hW₁, X', ⟨g', mk, t, L, e1, e2, hq, h1, hL, h2, h3⟩, st⟩ | ⟨q, vm₁, ⟨U', l2, c2, s2⟩, hW₁, X', ⟨g', mk, t, L, E, ce, e1, e2, hq, hce, hcv, hcl, h1, hL, h2, h3⟩, st⟩
  · dsimp only [Pt.U, Pt.locs, Pt.cells, Pt.slots] at X' e1 e2 h1 h2 h3 st
    subst h1; subst h2; subst h3
    exact Or.inl ⟨v, (T.setVm vm₁).calling g' mk (Value.ref b :: As).toArray, t, U', L, hT, X', hL, e1, e2, hq, st⟩
  · dsimp only [Pt.U, Pt.locs, Pt.cells, Pt.slots] at X' e1 e2 h1 h2 h3 st hcl
    subst h1; subst h2; subst h3
    exact Or.inr ⟨q, (T.setVm vm₁).calling g' mk (Value.ref b :: As).toArray, t, U', L, E, ce, hT, X', hL, e1, e2, hq, hce, hcv, vx_cls hW₁ hcl, st⟩
theorem vx_runS (S : CallFix p m c cc nL s args Ts own) (hM : vx_Met l y ws rm Pc Qc XC mc ms free) (cw : CallB R s args own index y bytes maxL ret ws rm mc ms n ∧ (Cond.static y).before args s = true) (hp : PreS s H Pc As)
    (hg : g.method = m) (hn : As.length = n) (hsize : g.locals.size = nL) (hstack : g.stack = As.reverse ++ rest) (hW : 2 * g.monitorRoom + (rest.map fun v => v.category).sum ≤ 8) (hdg : decode cc g.pc = .ok (.invokestatic index, 3)) (hf : cells + mc ≤ R.cells ∧ slots + ms ≤ R.slots) :
    vx_Run p l e R s m args below meth c H locs cells slots mc ms g rest (Qc As.toArray) XC free := by
  have hK : vx_Back l R p e below s args y 3 8 (PreOf R mc ms Pc) (PostOf Qc mc ms free) (vx_Post XC mc ms free) := vx_callBack cw.1 hM hp.1
  obtain ⟨⟨-, -, -, -, -, -, hcode, hini, hy, hlen, hl⟩, hstt⟩ := cw
  obtain ⟨hx, hb, hml, ho, -⟩ := S
  intro T hT X
  rcases vx_callS X hx (bytes := bytes) (maxL := maxL) (ret := ret) ho hl hstt hini hcode hy hK hg (hsize.trans hml.symm) (argsL := As) (rest := rest) (fun sig h => hn.trans (hlen sig h)) hstack hW (by rw [hb]; exact hdg)
    (fun vm₁ hW₁ => ⟨hf.1, hf.2, hp.2 (T.setVm vm₁) hT hW₁⟩) with ⟨v, vm₁, ⟨U', l2, c2, s2⟩, hW₁, X', ⟨g', mk, t, L, e1, e2, hq, h1, hL, h2, h3⟩, st⟩ | ⟨q, vm₁, ⟨U', l2, c2, s2⟩, hW₁, X', ⟨g', mk, t, L, E, ce, e1, e2, hq, hce, hcv, hcl, h1, hL, h2, h3⟩, st⟩
  · dsimp only [Pt.U, Pt.locs, Pt.cells, Pt.slots] at X' e1 e2 h1 h2 h3 st
    subst h1; subst h2; subst h3
    exact Or.inl ⟨v, (T.setVm vm₁).calling g' mk As.toArray, t, U', L, hT, X', hL, e1, e2, hq, st⟩
  · dsimp only [Pt.U, Pt.locs, Pt.cells, Pt.slots] at X' e1 e2 h1 h2 h3 st hcl
    subst h1; subst h2; subst h3
    exact Or.inr ⟨q, (T.setVm vm₁).calling g' mk As.toArray, t, U', L, E, ce, hT, X', hL, e1, e2, hq, hce, hcv, vx_cls hW₁ hcl, st⟩
end Runs
section Rows
variable {p : Program} {l : Launch} {e : Env} {R : Room} {s : State} {m : MethodId} {args : Array Value} {below : List Frame} {meth : Method} {c : Code} {H : Heap} {locs : List Loc} {cells slots : Nat} {Q : State → Prop}
variable {mc ms : Nat} {free : Addr → Prop} {A0 A1 : Nat → Prop} {H0 : Heap} {a : Array Value} {pc : Nat} {ls : Array Slot} {st0 rest : List Value}
theorem vx_keep {st₀ t T' : State} {L : List Loc} (h0 : st₀.heap = H) (e1 : T'.heap = t.heap) (hS : va_S A0 H0 H locs) (hA : ∀ q, q < H.size → A1 q → A0 q) (hf : ∀ q, free q → A0 q) (hL : ∀ q ∈ L, free q.base) (hF : va_F A1 st₀ t) :
    H.size ≤ T'.heap.size ∧ (∀ q : Nat, q < H.size → ¬ A1 q → T'.heap[q]? = H[q]?) ∧ va_S A0 H0 T'.heap (locs ++ L) := by
  obtain ⟨hz, hk⟩ := hF
  rw [h0] at hz hk
  exact ⟨by rw [e1]; exact hz, fun q h1 h2 => by rw [e1]; exact hk q h1 h2,
    ⟨Nat.le_trans hS.1 (by rw [e1]; exact hz), fun q h1 h2 => by rw [e1, hk q (Nat.lt_of_lt_of_le h1 hS.1) (fun z => h2 (hA q (Nat.lt_of_lt_of_le h1 hS.1) z))]; exact hS.2.1 q h1 h2, fun q hq => by
      rcases List.mem_append.mp hq with h | h
      · exact hS.2.2 q h
      · exact hf _ (hL q h)⟩⟩
theorem vx_calli {S SX : Type} {post : Int32 → S → Prop} {px : SX → Prop} {B : S → State → Prop} {BX : String → SX → State → Prop} {AX : Nat → Prop} (hr : vx_Run p l e R s m args below meth c H locs cells slots mc ms (F0 m pc ls st0) rest (va_Qi post B A1 a) (vx_X px BX AX) free) (hS : va_S A0 H0 H locs) (hA : ∀ q, q < H.size → A1 q → A0 q) (hf : ∀ q, free q → A0 q) (hAX : ∀ q, q < H.size → AX q → A0 q)
    (kx : ∀ (E : String) (ce : Cell) (q9 : Addr) (u : SX) (t : State) (H1 : Heap) (locs1 : List Loc), t.heap = H1 → s.vm.Alike t.vm → px u → BX E u t → H.size ≤ H1.size → (∀ q : Nat, q < H.size → ¬ AX q → H1[q]? = H[q]?) → va_S A0 H0 H1 locs1 → H1[q9]? = some ce → ce.vm = .none → s.vm.findClass E = some ce.cls → vx_W p l e R s m args below meth c H1 locs1 (cells + mc) (slots + ms) Q (F0 m pc ls rest) q9)
    (kk : ∀ (r : Int32) (u : S) (t : State) (H1 : Heap) (locs1 : List Loc), t.heap = H1 → s.vm.Alike t.vm → post r u → B u t → H.size ≤ H1.size → (∀ q : Nat, q < H.size → ¬ A1 q → H1[q]? = H[q]?) → va_S A0 H0 H1 locs1 → W p l e R s m args below meth c H1 locs1 (cells + mc) (slots + ms) Q (F0 m (pc + 3) ls (.int r :: rest))) : W p l e R s m args below meth c H locs cells slots Q (F0 m pc ls st0) := by
  intro T hT X
  rcases hr T hT X with ⟨v, st₀, t, T', L, h0, X', hL, e1, e2, ⟨⟨r, u, hv, hp, hb⟩, hF⟩, st⟩ | ⟨q, st₀, t, T', L, E, ce, h0, X', hL, e1, e2, ⟨u, hp, hb, hF⟩, hce, hcv, hcl, st⟩
  · cases hv
    obtain ⟨k1, k2, k3⟩ := vx_keep h0 e1 hS hA hf hL hF
    obtain ⟨t2, a1, b1⟩ := kk r u t T'.heap (locs ++ L) e1.symm (by rw [← e2]; exact X'.warmed.alike) hp hb k1 k2 k3 T' rfl X'
    exact ⟨t2, st t2 a1, b1⟩
  · obtain ⟨k1, k2, k3⟩ := vx_keep h0 e1 hS hAX hf hL hF
    obtain ⟨t2, a1, b1⟩ := kx E ce q u t T'.heap (locs ++ L) e1.symm (by rw [← e2]; exact X'.warmed.alike) hp hb k1 k2 k3 (by rw [e1]; exact hce) hcv hcl T' rfl X'
    exact ⟨t2, st.trans a1, b1⟩
theorem vx_calll {S SX : Type} {post : Int64 → S → Prop} {px : SX → Prop} {B : S → State → Prop} {BX : String → SX → State → Prop} {AX : Nat → Prop} (hr : vx_Run p l e R s m args below meth c H locs cells slots mc ms (F0 m pc ls st0) rest (va_Ql post B A1 a) (vx_X px BX AX) free) (hS : va_S A0 H0 H locs) (hA : ∀ q, q < H.size → A1 q → A0 q) (hf : ∀ q, free q → A0 q) (hAX : ∀ q, q < H.size → AX q → A0 q)
    (kx : ∀ (E : String) (ce : Cell) (q9 : Addr) (u : SX) (t : State) (H1 : Heap) (locs1 : List Loc), t.heap = H1 → s.vm.Alike t.vm → px u → BX E u t → H.size ≤ H1.size → (∀ q : Nat, q < H.size → ¬ AX q → H1[q]? = H[q]?) → va_S A0 H0 H1 locs1 → H1[q9]? = some ce → ce.vm = .none → s.vm.findClass E = some ce.cls → vx_W p l e R s m args below meth c H1 locs1 (cells + mc) (slots + ms) Q (F0 m pc ls rest) q9)
    (kk : ∀ (r : Int64) (u : S) (t : State) (H1 : Heap) (locs1 : List Loc), t.heap = H1 → s.vm.Alike t.vm → post r u → B u t → H.size ≤ H1.size → (∀ q : Nat, q < H.size → ¬ A1 q → H1[q]? = H[q]?) → va_S A0 H0 H1 locs1 → W p l e R s m args below meth c H1 locs1 (cells + mc) (slots + ms) Q (F0 m (pc + 3) ls (.long r :: rest))) : W p l e R s m args below meth c H locs cells slots Q (F0 m pc ls st0) := by
  intro T hT X
  rcases hr T hT X with ⟨v, st₀, t, T', L, h0, X', hL, e1, e2, ⟨⟨r, u, hv, hp, hb⟩, hF⟩, st⟩ | ⟨q, st₀, t, T', L, E, ce, h0, X', hL, e1, e2, ⟨u, hp, hb, hF⟩, hce, hcv, hcl, st⟩
  · cases hv
    obtain ⟨k1, k2, k3⟩ := vx_keep h0 e1 hS hA hf hL hF
    obtain ⟨t2, a1, b1⟩ := kk r u t T'.heap (locs ++ L) e1.symm (by rw [← e2]; exact X'.warmed.alike) hp hb k1 k2 k3 T' rfl X'
    exact ⟨t2, st t2 a1, b1⟩
  · obtain ⟨k1, k2, k3⟩ := vx_keep h0 e1 hS hAX hf hL hF
    obtain ⟨t2, a1, b1⟩ := kx E ce q u t T'.heap (locs ++ L) e1.symm (by rw [← e2]; exact X'.warmed.alike) hp hb k1 k2 k3 (by rw [e1]; exact hce) hcv hcl T' rfl X'
    exact ⟨t2, st.trans a1, b1⟩
theorem vx_callf {S SX : Type} {post : UInt32 → S → Prop} {px : SX → Prop} {B : S → State → Prop} {BX : String → SX → State → Prop} {AX : Nat → Prop} (hr : vx_Run p l e R s m args below meth c H locs cells slots mc ms (F0 m pc ls st0) rest (va_Qf post B A1 a) (vx_X px BX AX) free) (hS : va_S A0 H0 H locs) (hA : ∀ q, q < H.size → A1 q → A0 q) (hf : ∀ q, free q → A0 q) (hAX : ∀ q, q < H.size → AX q → A0 q)
    (kx : ∀ (E : String) (ce : Cell) (q9 : Addr) (u : SX) (t : State) (H1 : Heap) (locs1 : List Loc), t.heap = H1 → s.vm.Alike t.vm → px u → BX E u t → H.size ≤ H1.size → (∀ q : Nat, q < H.size → ¬ AX q → H1[q]? = H[q]?) → va_S A0 H0 H1 locs1 → H1[q9]? = some ce → ce.vm = .none → s.vm.findClass E = some ce.cls → vx_W p l e R s m args below meth c H1 locs1 (cells + mc) (slots + ms) Q (F0 m pc ls rest) q9)
    (kk : ∀ (r : UInt32) (u : S) (t : State) (H1 : Heap) (locs1 : List Loc), t.heap = H1 → s.vm.Alike t.vm → post r u → B u t → H.size ≤ H1.size → (∀ q : Nat, q < H.size → ¬ A1 q → H1[q]? = H[q]?) → va_S A0 H0 H1 locs1 → W p l e R s m args below meth c H1 locs1 (cells + mc) (slots + ms) Q (F0 m (pc + 3) ls (.float r :: rest))) : W p l e R s m args below meth c H locs cells slots Q (F0 m pc ls st0) := by
  intro T hT X
  rcases hr T hT X with ⟨v, st₀, t, T', L, h0, X', hL, e1, e2, ⟨⟨r, u, hv, hp, hb⟩, hF⟩, st⟩ | ⟨q, st₀, t, T', L, E, ce, h0, X', hL, e1, e2, ⟨u, hp, hb, hF⟩, hce, hcv, hcl, st⟩
  · cases hv
    obtain ⟨k1, k2, k3⟩ := vx_keep h0 e1 hS hA hf hL hF
    obtain ⟨t2, a1, b1⟩ := kk r u t T'.heap (locs ++ L) e1.symm (by rw [← e2]; exact X'.warmed.alike) hp hb k1 k2 k3 T' rfl X'
    exact ⟨t2, st t2 a1, b1⟩
  · obtain ⟨k1, k2, k3⟩ := vx_keep h0 e1 hS hAX hf hL hF
    obtain ⟨t2, a1, b1⟩ := kx E ce q u t T'.heap (locs ++ L) e1.symm (by rw [← e2]; exact X'.warmed.alike) hp hb k1 k2 k3 (by rw [e1]; exact hce) hcv hcl T' rfl X'
    exact ⟨t2, st.trans a1, b1⟩
theorem vx_calld {S SX : Type} {post : UInt64 → S → Prop} {px : SX → Prop} {B : S → State → Prop} {BX : String → SX → State → Prop} {AX : Nat → Prop} (hr : vx_Run p l e R s m args below meth c H locs cells slots mc ms (F0 m pc ls st0) rest (va_Qd post B A1 a) (vx_X px BX AX) free) (hS : va_S A0 H0 H locs) (hA : ∀ q, q < H.size → A1 q → A0 q) (hf : ∀ q, free q → A0 q) (hAX : ∀ q, q < H.size → AX q → A0 q)
    (kx : ∀ (E : String) (ce : Cell) (q9 : Addr) (u : SX) (t : State) (H1 : Heap) (locs1 : List Loc), t.heap = H1 → s.vm.Alike t.vm → px u → BX E u t → H.size ≤ H1.size → (∀ q : Nat, q < H.size → ¬ AX q → H1[q]? = H[q]?) → va_S A0 H0 H1 locs1 → H1[q9]? = some ce → ce.vm = .none → s.vm.findClass E = some ce.cls → vx_W p l e R s m args below meth c H1 locs1 (cells + mc) (slots + ms) Q (F0 m pc ls rest) q9)
    (kk : ∀ (r : UInt64) (u : S) (t : State) (H1 : Heap) (locs1 : List Loc), t.heap = H1 → s.vm.Alike t.vm → post r u → B u t → H.size ≤ H1.size → (∀ q : Nat, q < H.size → ¬ A1 q → H1[q]? = H[q]?) → va_S A0 H0 H1 locs1 → W p l e R s m args below meth c H1 locs1 (cells + mc) (slots + ms) Q (F0 m (pc + 3) ls (.double r :: rest))) : W p l e R s m args below meth c H locs cells slots Q (F0 m pc ls st0) := by
  intro T hT X
  rcases hr T hT X with ⟨v, st₀, t, T', L, h0, X', hL, e1, e2, ⟨⟨r, u, hv, hp, hb⟩, hF⟩, st⟩ | ⟨q, st₀, t, T', L, E, ce, h0, X', hL, e1, e2, ⟨u, hp, hb, hF⟩, hce, hcv, hcl, st⟩
  · cases hv
    obtain ⟨k1, k2, k3⟩ := vx_keep h0 e1 hS hA hf hL hF
    obtain ⟨t2, a1, b1⟩ := kk r u t T'.heap (locs ++ L) e1.symm (by rw [← e2]; exact X'.warmed.alike) hp hb k1 k2 k3 T' rfl X'
    exact ⟨t2, st t2 a1, b1⟩
  · obtain ⟨k1, k2, k3⟩ := vx_keep h0 e1 hS hAX hf hL hF
    obtain ⟨t2, a1, b1⟩ := kx E ce q u t T'.heap (locs ++ L) e1.symm (by rw [← e2]; exact X'.warmed.alike) hp hb k1 k2 k3 (by rw [e1]; exact hce) hcv hcl T' rfl X'
    exact ⟨t2, st.trans a1, b1⟩
theorem vx_callv {S SX : Type} {post : S → Prop} {px : SX → Prop} {B : S → State → Prop} {BX : String → SX → State → Prop} {AX : Nat → Prop} (hr : vx_Run p l e R s m args below meth c H locs cells slots mc ms (F0 m pc ls st0) rest (va_Qv post B A1 a) (vx_X px BX AX) free) (hS : va_S A0 H0 H locs) (hA : ∀ q, q < H.size → A1 q → A0 q) (hf : ∀ q, free q → A0 q) (hAX : ∀ q, q < H.size → AX q → A0 q)
    (kx : ∀ (E : String) (ce : Cell) (q9 : Addr) (u : SX) (t : State) (H1 : Heap) (locs1 : List Loc), t.heap = H1 → s.vm.Alike t.vm → px u → BX E u t → H.size ≤ H1.size → (∀ q : Nat, q < H.size → ¬ AX q → H1[q]? = H[q]?) → va_S A0 H0 H1 locs1 → H1[q9]? = some ce → ce.vm = .none → s.vm.findClass E = some ce.cls → vx_W p l e R s m args below meth c H1 locs1 (cells + mc) (slots + ms) Q (F0 m pc ls rest) q9)
    (kk : ∀ (u : S) (t : State) (H1 : Heap) (locs1 : List Loc), t.heap = H1 → s.vm.Alike t.vm → post u → B u t → H.size ≤ H1.size → (∀ q : Nat, q < H.size → ¬ A1 q → H1[q]? = H[q]?) → va_S A0 H0 H1 locs1 → W p l e R s m args below meth c H1 locs1 (cells + mc) (slots + ms) Q (F0 m (pc + 3) ls (rest))) : W p l e R s m args below meth c H locs cells slots Q (F0 m pc ls st0) := by
  intro T hT X
  rcases hr T hT X with ⟨v, st₀, t, T', L, h0, X', hL, e1, e2, ⟨⟨u, hv, hp, hb⟩, hF⟩, st⟩ | ⟨q, st₀, t, T', L, E, ce, h0, X', hL, e1, e2, ⟨u, hp, hb, hF⟩, hce, hcv, hcl, st⟩
  · cases hv
    obtain ⟨k1, k2, k3⟩ := vx_keep h0 e1 hS hA hf hL hF
    obtain ⟨t2, a1, b1⟩ := kk u t T'.heap (locs ++ L) e1.symm (by rw [← e2]; exact X'.warmed.alike) hp hb k1 k2 k3 T' rfl X'
    exact ⟨t2, st t2 a1, b1⟩
  · obtain ⟨k1, k2, k3⟩ := vx_keep h0 e1 hS hAX hf hL hF
    obtain ⟨t2, a1, b1⟩ := kx E ce q u t T'.heap (locs ++ L) e1.symm (by rw [← e2]; exact X'.warmed.alike) hp hb k1 k2 k3 (by rw [e1]; exact hce) hcv hcl T' rfl X'
    exact ⟨t2, st.trans a1, b1⟩
/-- caught by the row x of this method's table; the rows ahead don't take it -/
theorem vx_catch {own name : String} {E : String} {ce : Cell} {q : Addr} (hown : s.vm.findClass own = some m.cls) (pre : List ExceptionTableEntry) (x : ExceptionTableEntry) (suf : List ExceptionTableEntry) (hsplit : c.exceptionTable.toList = pre ++ x :: suf)
    (hpass : ∀ z ∈ pre, covers z pc = false ∨ (z.catchType ≠ 0 ∧ ∃ nm : String, (Cond.classLink own z.catchType nm).before args s = true ∧ va_Nc E nm s)) (hx : covers x pc = true) (h0 : x.catchType ≠ 0)
    (hlink : (Cond.classLink own x.catchType name).before args s = true) (hcast : (Cond.castable E name).before args s = true) (hcell : H[q]? = some ce) (hv : ce.vm = .none) (hcl : s.vm.findClass E = some ce.cls)
    (kk : W p l e R s m args below meth c H locs cells slots Q (F0 m x.handlerPc ls [.ref q])) : vx_W p l e R s m args below meth c H locs cells slots Q (F0 m pc ls rest) q := by
  intro T hT X
  have hpl : e.platform.magicAccessors = ({} : Platform).magicAccessors := by rw [X.admits.platform]
  obtain ⟨c3, c4, hc3, hc4, hasg⟩ := Cond.castable_spec hcast
  cases Option.some.inj (hc3.symm.trans hcl)
  obtain ⟨c5, hc5, hcl5⟩ := Cond.classLink_spec hown hlink e.platform hpl
  cases Option.some.inj (hc4.symm.trans hc5)
  obtain ⟨vm', X', st⟩ := X.thenCaughtThrough q (g := F0 m pc ls rest) rfl (Steps.refl _) (by rw [hT]; exact hcell) (by rw [hv]; rfl) (by obtain ⟨k9, h9, -⟩ := Vm.findClass_spec hcl; exact ⟨k9, h9⟩) pre x suf hsplit
    (fun z hz => by
      rcases hpass z hz with h | ⟨hz0, nm, hl1, hn1⟩
      · exact Or.inl h
      · obtain ⟨c6, hc6, hcl6⟩ := Cond.classLink_spec hown hl1 e.platform hpl
        obtain ⟨a8, b8, h1, h2, h3⟩ := hn1
        cases Option.some.inj (h1.symm.trans hcl)
        cases Option.some.inj (h2.symm.trans hc6)
        exact Or.inr ⟨hz0, _, hcl6, h3⟩) hx (Or.inr ⟨h0, c4, hcl5, hasg⟩)
  obtain ⟨t, a1, b1⟩ := kk (T.setVm vm') hT X'
  exact ⟨t, st.trans a1, b1⟩
end Rows
section Ends
variable {p : Program} {l : Launch} {e : Env} {R : Room} {s : State} {m : MethodId} {args : Array Value} {below : List Frame} {meth : Method} {c : Code} {H : Heap} {locs : List Loc} {cells slots : Nat} {Q : State → Prop}
variable {mc ms : Nat} {free : Addr → Prop} {A0 A1 : Nat → Prop} {H0 : Heap} {a : Array Value} {ls : Array Slot} {st0 rest : List Value}
variable {Qc : Array Value → State → Outcome → State → Prop} {XC : String → State → State → Prop}
/-- what a body that may throw owes at its end -/
def vx_MQ (below : List Frame) (Qc : Array Value → State → Outcome → State → Prop) (XC : String → State → State → Prop) (a : Array Value) (s : State) (mc ms : Nat) (free : Addr → Prop) : State → Prop := fun t =>
  ∃ o, t.status = .running ∧ Ended t below o ∧ vx_Q Qc XC mc ms free a s o t
theorem vx_ret {g : JFrame} {mc ms : Nat} (k : W p l e R s m args below meth c H locs cells slots (MQ below Qc args s mc ms free) g) : W p l e R s m args below meth c H locs cells slots (vx_MQ below Qc XC args s mc ms free) g := by
  intro T hT X
  obtain ⟨t, a1, o, b1, b2, b3, b4⟩ := k T hT X
  exact ⟨t, a1, o, b1, b2, Or.inl ⟨b3, b4⟩⟩
/-- not caught here: it goes on to the caller -/
theorem vx_widen {g : JFrame} {q : Addr} {k n : Nat} (h1 : cells ≤ k) (h2 : slots ≤ n) (kk : vx_W p l e R s m args below meth c H locs k n Q g q) : vx_W p l e R s m args below meth c H locs cells slots Q g q := fun T hT X => kk T hT (stand_widen X h1 h2)
theorem vx_out {pc : Nat} {E : String} {ce : Cell} {q : Addr} {mc ms : Nat} (hout : ∀ x ∈ c.exceptionTable.toList, covers x pc = false) (hlocks : meth.locks = false) (hcell : H[q]? = some ce) (hv : ce.vm = .none) (hcl : s.vm.findClass E = some ce.cls)
    (hx : ∀ t : State, t.heap = H → s.vm.Alike t.vm → XC E s t) (hf : ∀ z ∈ locs, free z.base) (hc : cells ≤ mc) (hs : slots ≤ ms) :
    vx_W p l e R s m args below meth c H locs cells slots (vx_MQ below Qc XC args s mc ms free) (F0 m pc ls rest) q := by
  intro T hT X
  obtain ⟨st1, hrun, hend, hW, hsm⟩ := X.leaveThrown q (g := F0 m pc ls rest) rfl rfl rfl hout hlocks
  have hcell9 : (T.setFrames (.throwing q :: below)).heap[q]? = some ce := by
    show T.heap[q]? = some ce
    rw [hT]; exact hcell
  exact ⟨_, st1, .threw q, hrun, hend, Or.inr ⟨q, rfl, E, ce, locs, hx _ hT hW.alike, hcell9, hv, hcl, hW, hsm.mono hc hs, hf⟩⟩
theorem vx_frame {U : State} {k n : Nat} (h : s.sameButNew ({ U with vm := s.vm } : State) locs k n) : s.heap.size ≤ U.heap.size ∧ ∀ q : Nat, q < s.heap.size → (∀ z ∈ locs, z.base ≠ q) → U.heap[q]? = s.heap[q]? := by
  obtain ⟨-, h2, -, -, -, h6⟩ := h
  refine ⟨h2, fun q hq hz => ?_⟩
  obtain ⟨c9, e1, e2, e3, e4⟩ := h6 q _ (Array.getElem?_eq_getElem hq)
  have hs : c9.slots = (s.heap[q]).slots := Array.ext_getElem? fun i => e4 i fun hm => hz _ hm rfl
  have h9 : c9 = s.heap[q] := by
    rw [hs] at e2
    exact e2
  have e5 : U.heap[q]? = some c9 := e1
  rw [e5, h9, Array.getElem?_eq_getElem hq]
/-- the words of a throw but the four that speak of the heap -/
def vx_no (w : Cond) : Bool := decide (w ≠ .isRef (.static Bundle.tN "UNASSIGNED_STACK" Bundle.steD)) && decide (w ≠ .isRef (.static Bundle.tN "SUPPRESSED_SENTINEL" Bundle.listD)) && decide (w ≠ .laysStatic Bundle.tN "UNASSIGNED_STACK" Bundle.steD) && decide (w ≠ .laysStatic Bundle.tN "SUPPRESSED_SENTINEL" Bundle.listD)
def vx_at0 (own : String) (ic : Nat) (X : String) (names : List String) : List Cond := (Bundle.ownAtoms0 own ic X names).filter vx_no
def vx_atS (own : String) (ic : Nat) (X : String) (names : List String) : List Cond := (Bundle.ownAtoms own ic X names).filter vx_no
/-- a word that the tables alone decide, or a good one -/
def vx_ot (w : Cond) : Bool := w.onTables || goodWord w
theorem vx_ot_at {args a' : Array Value} {s U : State} {w : Cond} (hW : s.WarmedH U.vm) (hvm : s.vm = U.vm) (hg : vx_ot w = true) (h : w.before args s = true) : w.before a' U = true := by
  simp only [vx_ot, Bool.or_eq_true] at hg
  rcases hg with hg | hg
  · exact va_tabs hg hvm h
  · exact word_at hW (good_of_word hg) h
/-- a list's words: the good ones out of the method's own list, the others by premises of their own -/
theorem vx_hat {args : Array Value} {s : State} {L B : List Cond} (h1 : ∀ w ∈ L.filter goodWord, w.before args s = true) (h2 : ∀ w ∈ L.filter (fun w => !goodWord w), w ∈ B) (h3 : ∀ w ∈ B, w.before args s = true) : ∀ w ∈ L, w.before args s = true := by
  intro w hw
  by_cases g : goodWord w = true
  · exact h1 w (List.mem_filter.mpr ⟨hw, g⟩)
  · refine h3 w (h2 w (List.mem_filter.mpr ⟨hw, ?_⟩))
    show (!goodWord w) = true
    cases hgw : goodWord w
    · rfl
    · exact absurd hgw g
theorem vx_c {args : Array Value} {s : State} {w : Cond} {B : List Cond} (h : w.before args s = true) (t : ∀ w ∈ B, w.before args s = true) : ∀ w' ∈ w :: B, w'.before args s = true := fun w' h' => (List.mem_cons.mp h').elim (fun e => by rw [e]; exact h) (t w')
theorem vx_n {args : Array Value} {s : State} : ∀ w ∈ ([] : List Cond), w.before args s = true := fun _ h => nomatch h
theorem vx_own {args : Array Value} {s : State} {L : List Cond} (h1 : ∀ w ∈ L.filter vx_no, w.before args s = true)
    (hU : (Cond.isRef (.static Bundle.tN "UNASSIGNED_STACK" Bundle.steD)).before args s = true) (hN : (Cond.isRef (.static Bundle.tN "SUPPRESSED_SENTINEL" Bundle.listD)).before args s = true)
    (lU : (Cond.laysStatic Bundle.tN "UNASSIGNED_STACK" Bundle.steD).before args s = true) (lN : (Cond.laysStatic Bundle.tN "SUPPRESSED_SENTINEL" Bundle.listD).before args s = true) : ∀ w ∈ L, w.before args s = true := by
  intro w hw
  by_cases e1 : w = .isRef (.static Bundle.tN "UNASSIGNED_STACK" Bundle.steD)
  · rw [e1]; exact hU
  · by_cases e2 : w = .isRef (.static Bundle.tN "SUPPRESSED_SENTINEL" Bundle.listD)
    · rw [e2]; exact hN
    · by_cases e3 : w = .laysStatic Bundle.tN "UNASSIGNED_STACK" Bundle.steD
      · rw [e3]; exact lU
      · by_cases e4 : w = .laysStatic Bundle.tN "SUPPRESSED_SENTINEL" Bundle.listD
        · rw [e4]; exact lN
        · exact h1 w (List.mem_filter.mpr ⟨hw, by unfold vx_no; rw [decide_eq_true e1, decide_eq_true e2, decide_eq_true e3, decide_eq_true e4]; rfl⟩)
/-- where a static field lies, its class's statics cell in H -/
def vx_L (C n d : String) (A : Nat → Prop) (U : State) (H : Heap) : Prop := ∃ (c : ClassId) (k : Class) (i : Nat) (f : Field) (a : Nat) (cell : Cell), U.vm.findClass C = some c ∧ U.fieldFound? C n d = some (c, k, i, f) ∧ f.isStatic = true ∧ k.statics = some a ∧ H[a]? = some cell ∧ cell.vm.isStatics = true ∧ cell.cls = c ∧ f.slot < cell.slots.size ∧ k.staticTypes[f.slot]? = some f.type ∧ ¬ A a
theorem vx_L.moved {C n d : String} {A : Nat → Prop} {u U : State} {H : Heap} (hvm : u.vm.Alike U.vm) (h : vx_L C n d A u H) : vx_L C n d A U H := by
  obtain ⟨c, k, i, f, a, cell, h1, h2, h3, h4, h5, h6, h7, h8, h9, h10⟩ := h
  obtain ⟨k', hi', he⟩ := State.fieldFound?_setVm hvm h2
  exact ⟨c, k', i, f, a, cell, by rw [hvm.findClass]; exact h1, hi', h3, by rw [he]; exact h4, h5, h6, h7, h8, by rw [he]; exact h9, h10⟩
theorem vx_L.kept {C n d : String} {A : Nat → Prop} {U : State} {H H1 : Heap} (h : vx_L C n d A U H) (hq : ∀ a : Nat, a < H.size → ¬ A a → H1[a]? = H[a]?) : vx_L C n d A U H1 := by
  obtain ⟨c, k, i, f, a, cell, h1, h2, h3, h4, h5, h6, h7, h8, h9, h10⟩ := h
  exact ⟨c, k, i, f, a, cell, h1, h2, h3, h4, by rw [hq a (Array.getElem?_eq_some_iff.mp h5).1 h10]; exact h5, h6, h7, h8, h9, h10⟩
theorem vx_L.narrow {C n d : String} {A B : Nat → Prop} {U : State} {H : Heap} (h : vx_L C n d A U H) (hAB : ∀ q, B q → A q) : vx_L C n d B U H := by
  obtain ⟨c, k, i, f, a, cell, h1, h2, h3, h4, h5, h6, h7, h8, h9, h10⟩ := h
  exact ⟨c, k, i, f, a, cell, h1, h2, h3, h4, h5, h6, h7, h8, h9, fun z => h10 (hAB _ z)⟩
theorem vx_L.word {C n d : String} {A : Nat → Prop} {s : State} {args : Array Value} (h : vx_L C n d A s s.heap) : (Cond.laysStatic C n d).before args s = true := by
  obtain ⟨c, k, i, f, a, cell, h1, h2, h3, h4, h5, h6, h7, h8, h9, -⟩ := h
  show (Cond.laysStatic C n d).holds args s none s [] = true
  exact Cond.laysStatic_of h1 h2 h3 h4 h5 h6 h7 h8 h9
/-- .. and what it holds: null or some reference -/
def vx_Zq (C n d : String) (A : Nat → Prop) (U : State) (H : Heap) : Prop := va_Zq C n d A U H ∧ vx_L C n d A U H
theorem vx_Zq.moved {C n d : String} {A : Nat → Prop} {u U : State} {H : Heap} (hvm : u.vm.Alike U.vm) (h : vx_Zq C n d A u H) : vx_Zq C n d A U H := ⟨va_Zq.moved hvm h.1, vx_L.moved hvm h.2⟩
theorem vx_Zq.kept {C n d : String} {A : Nat → Prop} {U : State} {H H1 : Heap} (h : vx_Zq C n d A U H) (hq : ∀ a : Nat, a < H.size → ¬ A a → H1[a]? = H[a]?) : vx_Zq C n d A U H1 := ⟨va_Zq.kept h.1 hq, vx_L.kept h.2 hq⟩
theorem vx_Zq.narrow {C n d : String} {A B : Nat → Prop} {U : State} {H : Heap} (h : vx_Zq C n d A U H) (hAB : ∀ q, B q → A q) : vx_Zq C n d B U H := ⟨va_Zq.narrow h.1 hAB, vx_L.narrow h.2 hAB⟩
theorem vx_Zqof {args : Array Value} {s : State} {C n d : String} {A : Nat → Prop} (hl : (Cond.laysStatic C n d).before args s = true) (hini : (Cond.initialized C).before args s = true) (h : (Cond.isRef (.static C n d)).before args s = true) (hA : ∀ a : Nat, a < s.heap.size → ¬ A a) : vx_Zq C n d A s s.heap := by
  refine ⟨va_Zqof hl hini h hA, ?_⟩
  obtain ⟨c, k, i, f, a, cell, h1, h2, h3, h4, h5, h6, h7, h8, h9⟩ := Cond.laysStatic_spec hl
  exact ⟨c, k, i, f, a, cell, h1, h2, h3, h4, h5, h6, h7, h8, h9, hA a (Array.getElem?_eq_some_iff.mp h5).1⟩
theorem vx_isRef {C n d : String} {v : Value} {A : Nat → Prop} {s : State} {args : Array Value} (h : va_Z C n d v A s s.heap) (hv : v.isRef = true) : (Cond.isRef (.static C n d)).before args s = true := by
  obtain ⟨cf, kf, fi, f, a, cell, h1, h2, h3, h4, h5, h6, h7, -⟩ := h
  have he : (Term.static C n d).eval args s none [] s = some v := by
    simp [Term.eval, State.fieldNamed?, h1, h2, h4, h5, h6, h7]
  simp only [Cond.before, Cond.holds, Cond.value, he]
  cases v <;> simp_all [Value.isRef]
theorem vx_isRefq {C n d : String} {A : Nat → Prop} {s : State} {args : Array Value} (h : va_Zq C n d A s s.heap) : (Cond.isRef (.static C n d)).before args s = true := by
  rcases h with h | ⟨t, h⟩
  · exact vx_isRef h rfl
  · exact vx_isRef h rfl
/-- the same frame, seen from here: as if the method were called anew in this heap -/
theorem vx_rebase {T : State} (X : Stand p l e R s m args below meth c T locs cells slots) {R' : Room} (hf : R'.frames ≤ R.frames) (hl : R'.locals ≤ R.locals) (hc : cells + R'.cells ≤ R.cells) (hs : slots + R'.slots ≤ R.slots) :
    Stand p l e R' ((T.setVm s.vm).setFrames (.invoking m args :: below)) m args below meth c T [] 0 0 := by
  have htop : (T.setVm s.vm).topJava?.isSome := X.here.top
  have hF : ((T.setVm s.vm).setFrames (.invoking m args :: below)).frames = .invoking m args :: below := State.frames_setFrames _ (State.cur_lt_of_top htop)
  obtain ⟨g₀, hg0⟩ := Option.isSome_iff_exists.mp htop
  obtain ⟨r, hr⟩ := State.topJava?_eq_some.mp hg0
  have hl9 : e.platform.stackLimits (T.setVm s.vm).me = e.platform.stackLimits s.me := X.limits
  have hb9 : (T.setVm s.vm).me.stackBytes = s.me.stackBytes := X.bytes
  refine ⟨X.admits, X.cas, X.clock, hF, ?_, X.hears, X.method, X.code, X.here, X.tail, X.warmed, ?_, ?_, ?_⟩
  · have h := X.room
    have hU : ((T.setVm s.vm).setFrames (.invoking m args :: below)).localsInUse = s.localsInUse := by
      rw [State.localsInUse_invoking hF (meth := meth) (c := c) X.method X.code, State.localsInUse_invoking X.frames X.method X.code]
    simp only [State.hasRoom, Bool.and_eq_true, decide_eq_true_eq] at h ⊢
    obtain ⟨⟨⟨⟨h1, h2, h3, h4, h5, h6⟩, h7⟩, h8⟩, h9⟩ := h
    rw [X.frames, List.length_cons] at h2 h3
    have q1 := X.heapSize
    have q2 := X.used
    simp only [hF, hU, List.length_cons, State.stackLimits_setFrames, State.stackBytes_setFrames, hl9, hb9]
    refine ⟨⟨⟨⟨by omega, by omega, by omega, by omega, by omega, h6⟩, ?_⟩, ?_⟩, X.book⟩
    · show T.heap.size + R'.cells ≤ e.platform.maxCells
      omega
    · show T.slotsUsed + R'.slots ≤ e.platform.maxSlots
      omega
  · rw [State.stackLimits_setFrames]; rfl
  · rw [State.stackBytes_setFrames]; rfl
  · refine ⟨?_, Nat.le_refl _, Nat.le_refl _, ?_, ?_, fun a c9 h9 => ⟨c9, h9, rfl, rfl, fun _ _ => rfl⟩⟩
    · obtain ⟨t, ht, -⟩ := State.frames_cons hr
      show T.setVm s.vm = { ((T.setVm s.vm).setFrames (.invoking m args :: below)).setFrames (T.setVm s.vm).frames with heap := T.heap, slotsUsed := T.slotsUsed }
      rw [State.setFrames_setFrames, State.setFrames_self ht]
      rfl
    · show T.slotsUsed = T.slotsUsed + ((T.heap.toList.drop T.heap.size).map (·.slots.size)).sum
      rw [List.drop_eq_nil_of_le (Nat.le_of_eq Array.length_toList)]
      rfl
    · show ((T.heap.toList.drop T.heap.size).map (·.slots.size)).sum ≤ 0
      rw [List.drop_eq_nil_of_le (Nat.le_of_eq Array.length_toList)]
      exact Nat.le_refl _
/-- 'throw new E()': new; dup; invokespecial; athrow -/
theorem vx_throw0 {cc : ByteArray} {pc : Nat} (hexec : p.tables.exec = Jvm.exec) (hb : c.code = cc) (hl : l.stackTraces = false) {own cls : String} {names : List String} {ik ic mc ms : Nat} {A : Nat → Prop}
    (hown : s.vm.findClass own = some m.cls) (hcls : Bundle.fit cls = true) (hnames : ∀ n ∈ names, Bundle.fit n = true)
    (hk : (Cond.classLink own ik cls).before args s = true) (hini : (Cond.initialized cls).before args s = true) (hat : ∀ w ∈ vx_at0 own ic cls names, w.before args s = true)
    (hgood : ∀ w ∈ Cond.classLink own ik cls :: Cond.initialized cls :: vx_at0 own ic cls names, vx_ot w = true)
    (hU : vx_Zq Bundle.tN "UNASSIGNED_STACK" Bundle.steD A s s.heap) (hN : vx_Zq Bundle.tN "SUPPRESSED_SENTINEL" Bundle.listD A s s.heap) (hS : va_S A s.heap H locs) (hsize : ls.size = c.maxLocals)
    (d0 : decode cc pc = .ok (.new ik, 3)) (d3 : decode cc (pc + 3) = .ok (.dup, 1)) (d4 : decode cc (pc + 4) = .ok (.invokespecial ic, 3)) (d7 : decode cc (pc + 7) = .ok (.athrow, 1))
    (hout : ∀ x ∈ c.exceptionTable.toList, covers x (pc + 7) = false)
    (hRframes : names.length + 3 < R.frames) (hRlocals : (rest.map fun v => v.category).sum + (13 * (names.length + 1) + 42) ≤ R.locals) (hRcells : cells + 1 ≤ R.cells) (hRslots : slots + 6 ≤ R.slots) (hlocks : meth.locks = false)
    (hx : ∀ t : State, s.vm.Alike t.vm → H.size ≤ t.heap.size → (∀ q : Nat, q < H.size → t.heap[q]? = H[q]?) → XC cls s t)
    (hf : ∀ z ∈ locs, free z.base) (hc : cells + 1 ≤ mc) (hs : slots + 6 ≤ ms) :
    W p l e R s m args below meth c H locs cells slots (vx_MQ below Qc XC args s mc ms free) (F0 m pc ls rest) := by
  intro T hT X
  have htr : e.platform.stackTraces = false := (show e.platform.stackTraces = l.stackTraces by rw [X.admits.platform]).trans hl
  have Y := vx_rebase X (R' := { frames := R.frames, locals := R.locals, cells := 1, slots := 6 }) (Nat.le_refl _) (Nat.le_refl _) hRcells hRslots
  obtain ⟨s', hA⟩ : ∃ z, z = (T.setVm s.vm).setFrames (.invoking m args :: below) := ⟨_, rfl⟩
  rw [← hA] at Y
  have hvm : s'.vm = s.vm := by rw [hA]; rfl
  have hhp : s'.heap = H := by rw [hA]; exact hT
  have hW0 : s.WarmedH s'.vm := by rw [hvm]; exact State.WarmedH.refl s
  have hat' : ∀ w ∈ vx_at0 own ic cls names, w.before args s' = true := fun w hw => vx_ot_at hW0 hvm.symm (hgood w (List.mem_cons_of_mem _ (List.mem_cons_of_mem _ hw))) (hat w hw)
  have hk' : (Cond.classLink own ik cls).before args s' = true := vx_ot_at hW0 hvm.symm (hgood _ List.mem_cons_self) hk
  have hini' : (Cond.initialized cls).before args s' = true := vx_ot_at hW0 hvm.symm (hgood _ (List.mem_cons_of_mem _ List.mem_cons_self)) hini
  have hU' : vx_Zq Bundle.tN "UNASSIGNED_STACK" Bundle.steD A s' s'.heap := by rw [hhp]; exact vx_Zq.moved hW0.alike (hU.kept hS.2.1)
  have hN' : vx_Zq Bundle.tN "SUPPRESSED_SENTINEL" Bundle.listD A s' s'.heap := by rw [hhp]; exact vx_Zq.moved hW0.alike (hN.kept hS.2.1)
  have h : ∀ w ∈ Bundle.ownAtoms0 own ic cls names, w.before args s' = true := vx_own hat' (vx_isRefq hU'.1) (vx_isRefq hN'.1) hU'.2.word hN'.2.word
  have hown' : s'.vm.findClass own = some m.cls := by rw [hvm]; exact hown
  have hins : (Cond.instantiable cls 6).before args s' = true := h _ (by simp [Bundle.ownAtoms0])
  obtain ⟨vm₁, cX, kX, hfX, hkX, -, -, X₁, st1⟩ := Y.newCold hexec (own := own) (C := cls) (index := ik) (n := 6) hown' hk' hins hini'
    (g := F0 m pc ls rest) rfl (by rw [hb]; exact d0) (Nat.le_refl _) (Nat.le_refl _)
  generalize hT1 : (T.setVm vm₁).pushCell { cls := cX, slots := kX.instanceTypes.map defaultValue, vm := .none } = T1 at X₁ st1
  have hcat : (Value.ref T.heap.size).category = 1 := rfl
  have hcellA : T1.heap[T.heap.size]? = some (freshCell cX kX) := by rw [← hT1]; exact State.heap_pushCell_size _ _
  have d3' : decode c.code (pc + 3) = .ok (.dup, 1) := by rw [hb]; exact d3
  obtain ⟨U, hsteps, hrun, hend, hW, hsame, ce, hce, hO⟩ := X₁.ctorThrow0 hexec htr (own := own) (cls := cls) (names := names) (ic := ic) hown' hcls hnames h (fun x hx => nomatch hx) hfX hkX hcellA (by rw [hhp, hT]; exact Nat.le_refl _)
    (g := { method := m, pc := pc + 4, locals := ls, stack := .ref T.heap.size :: .ref T.heap.size :: rest, locked := none }) rfl hsize rfl rfl (rest := rest) rfl
    (by rw [hb]; exact d4) (by rw [hb]; exact d7) hout hRframes (by simp only [List.map_cons, List.sum_cons, hcat]; omega) hlocks
  obtain ⟨f1, f2⟩ := vx_frame hsame
  rw [hhp] at f1 f2
  have hWs : s.WarmedH U.vm := State.WarmedH.trans hW0 hW
  have hcl : s.vm.findClass cls = some ce.cls := by
    have h9 := hO.cls
    rw [hvm] at h9
    exact h9
  have hall : s.sameButNew ({ U with vm := s.vm } : State) locs mc ms := by
    subst hA
    obtain ⟨e1, e2⟩ := hsame
    rw [State.setFrames_setFrames] at e1
    have h2 : (T.setVm s.vm).sameButNew ({ U with vm := s.vm } : State) [] (0 + 1) (0 + 6) := ⟨e1, e2⟩
    have h3 := X.same.trans h2
    rw [List.append_nil] at h3
    exact h3.mono hc hs
  refine ⟨U, ?_, .threw T.heap.size, hrun, hend, Or.inr ⟨T.heap.size, rfl, cls, ce, locs, hx U hWs.alike f1 (fun q hq => f2 q hq (fun z hz => nomatch hz)), hce, hO.vm, hcl, hWs, hall, hf⟩⟩
  refine st1 _ ?_
  show Steps p.tables e below (T1.setTop { method := m, pc := pc + 3, locals := ls, stack := .ref T.heap.size :: rest, locked := none }) _
  jvm_step X₁.here [X₁.here.top, hexec, d3', Value.category]
  exact hsteps
/-- 'throw new E("text")': new; dup; ldc; invokespecial; athrow -/
theorem vx_throwS {cc : ByteArray} {pc : Nat} (hexec : p.tables.exec = Jvm.exec) (hb : c.code = cc) (hl : l.stackTraces = false) {own cls text : String} {names : List String} {ik is ic mc ms sa : Nat} {A : Nat → Prop}
    (hown : s.vm.findClass own = some m.cls) (hcls : Bundle.fit cls = true) (hnames : ∀ n ∈ names, Bundle.fit n = true)
    (hk : (Cond.classLink own ik cls).before args s = true) (hini : (Cond.initialized cls).before args s = true) (hstr : vk_R own is text sa s) (hat : ∀ w ∈ vx_atS own ic cls names, w.before args s = true)
    (hgood : ∀ w ∈ Cond.classLink own ik cls :: Cond.initialized cls :: vx_atS own ic cls names, vx_ot w = true)
    (hU : vx_Zq Bundle.tN "UNASSIGNED_STACK" Bundle.steD A s s.heap) (hN : vx_Zq Bundle.tN "SUPPRESSED_SENTINEL" Bundle.listD A s s.heap) (hS : va_S A s.heap H locs) (hsize : ls.size = c.maxLocals)
    (d0 : decode cc pc = .ok (.new ik, 3)) (d3 : decode cc (pc + 3) = .ok (.dup, 1)) (d4 : decode cc (pc + 4) = .ok (.ldc is, 2)) (d6 : decode cc (pc + 6) = .ok (.invokespecial ic, 3)) (d9 : decode cc (pc + 9) = .ok (.athrow, 1))
    (hout : ∀ x ∈ c.exceptionTable.toList, covers x (pc + 9) = false)
    (hRframes : names.length + 3 < R.frames) (hRlocals : (rest.map fun v => v.category).sum + (13 * (names.length + 1) + 43) ≤ R.locals) (hRcells : cells + 1 ≤ R.cells) (hRslots : slots + 6 ≤ R.slots) (hlocks : meth.locks = false)
    (hx : ∀ t : State, s.vm.Alike t.vm → H.size ≤ t.heap.size → (∀ q : Nat, q < H.size → t.heap[q]? = H[q]?) → XC cls s t)
    (hf : ∀ z ∈ locs, free z.base) (hc : cells + 1 ≤ mc) (hs : slots + 6 ≤ ms) :
    W p l e R s m args below meth c H locs cells slots (vx_MQ below Qc XC args s mc ms free) (F0 m pc ls rest) := by
  intro T hT X
  have htr : e.platform.stackTraces = false := (show e.platform.stackTraces = l.stackTraces by rw [X.admits.platform]).trans hl
  have Y := vx_rebase X (R' := { frames := R.frames, locals := R.locals, cells := 1, slots := 6 }) (Nat.le_refl _) (Nat.le_refl _) hRcells hRslots
  obtain ⟨s', hA⟩ : ∃ z, z = (T.setVm s.vm).setFrames (.invoking m args :: below) := ⟨_, rfl⟩
  rw [← hA] at Y
  have hvm : s'.vm = s.vm := by rw [hA]; rfl
  have hhp : s'.heap = H := by rw [hA]; exact hT
  have hW0 : s.WarmedH s'.vm := by rw [hvm]; exact State.WarmedH.refl s
  have hat' : ∀ w ∈ vx_atS own ic cls names, w.before args s' = true := fun w hw => vx_ot_at hW0 hvm.symm (hgood w (List.mem_cons_of_mem _ (List.mem_cons_of_mem _ hw))) (hat w hw)
  have hk' : (Cond.classLink own ik cls).before args s' = true := vx_ot_at hW0 hvm.symm (hgood _ List.mem_cons_self) hk
  have hini' : (Cond.initialized cls).before args s' = true := vx_ot_at hW0 hvm.symm (hgood _ (List.mem_cons_of_mem _ List.mem_cons_self)) hini
  have hU' : vx_Zq Bundle.tN "UNASSIGNED_STACK" Bundle.steD A s' s'.heap := by rw [hhp]; exact vx_Zq.moved hW0.alike (hU.kept hS.2.1)
  have hN' : vx_Zq Bundle.tN "SUPPRESSED_SENTINEL" Bundle.listD A s' s'.heap := by rw [hhp]; exact vx_Zq.moved hW0.alike (hN.kept hS.2.1)
  have h : ∀ w ∈ Bundle.ownAtoms own ic cls names, w.before args s' = true := vx_own hat' (vx_isRefq hU'.1) (vx_isRefq hN'.1) hU'.2.word hN'.2.word
  have hown' : s'.vm.findClass own = some m.cls := by rw [hvm]; exact hown
  have hins : (Cond.instantiable cls 6).before args s' = true := h _ (by simp [Bundle.ownAtoms])
  obtain ⟨vm₁, cX, kX, hfX, hkX, -, -, X₁, st1⟩ := Y.newCold hexec (own := own) (C := cls) (index := ik) (n := 6) hown' hk' hins hini'
    (g := F0 m pc ls rest) rfl (by rw [hb]; exact d0) (Nat.le_refl _) (Nat.le_refl _)
  generalize hT1 : (T.setVm vm₁).pushCell { cls := cX, slots := kX.instanceTypes.map defaultValue, vm := .none } = T1 at X₁ st1
  have hcat : (Value.ref T.heap.size).category = 1 := rfl
  have hcellA : T1.heap[T.heap.size]? = some (freshCell cX kX) := by rw [← hT1]; exact State.heap_pushCell_size _ _
  have d3' : decode c.code (pc + 3) = .ok (.dup, 1) := by rw [hb]; exact d3
  have d4' : decode c.code (pc + 4) = .ok (.ldc is, 2) := by rw [hb]; exact d4
  have hstr' : vk_R own is text sa s' := vk_R.warm hW0 hstr
  obtain ⟨U, hsteps, hrun, hend, hW, hsame, ce, hce, hO⟩ := X₁.ctorThrowS hexec htr (own := own) (cls := cls) (names := names) (ic := ic) hown' hcls hnames h (fun x hx => nomatch hx) hfX hkX hcellA (by rw [hhp, hT]; exact Nat.le_refl _) (msg := .ref sa) rfl
    (g := { method := m, pc := pc + 6, locals := ls, stack := .ref sa :: .ref T.heap.size :: .ref T.heap.size :: rest, locked := none }) rfl hsize rfl rfl (rest := rest) rfl
    (by rw [hb]; exact d6) (by rw [hb]; exact d9) hout hRframes (by simp only [List.map_cons, List.sum_cons, hcat]; omega) hlocks
  obtain ⟨f1, f2⟩ := vx_frame hsame
  rw [hhp] at f1 f2
  have hWs : s.WarmedH U.vm := State.WarmedH.trans hW0 hW
  have hcl : s.vm.findClass cls = some ce.cls := by
    have h9 := hO.cls
    rw [hvm] at h9
    exact h9
  have hall : s.sameButNew ({ U with vm := s.vm } : State) locs mc ms := by
    subst hA
    obtain ⟨e1, e2⟩ := hsame
    rw [State.setFrames_setFrames] at e1
    have h2 : (T.setVm s.vm).sameButNew ({ U with vm := s.vm } : State) [] (0 + 1) (0 + 6) := ⟨e1, e2⟩
    have h3 := X.same.trans h2
    rw [List.append_nil] at h3
    exact h3.mono hc hs
  refine ⟨U, ?_, .threw T.heap.size, hrun, hend, Or.inr ⟨T.heap.size, rfl, cls, ce, locs, hx U hWs.alike f1 (fun q hq => f2 q hq (fun z hz => nomatch hz)), hce, hO.vm, hcl, hWs, hall, hf⟩⟩
  refine st1 _ ?_
  show Steps p.tables e below (T1.setTop { method := m, pc := pc + 3, locals := ls, stack := .ref T.heap.size :: rest, locked := none }) _
  jvm_step X₁.here [X₁.here.top, hexec, d3', Value.category]
  exact X₁.ldcString hexec (own := own) (text := text) (index := is) (a := sa) hown' hstr'.1 hstr'.2
    (g := { method := m, pc := pc + 4, locals := ls, stack := .ref T.heap.size :: .ref T.heap.size :: rest, locked := none }) rfl d4' _ hsteps
/-- 'throw new E("text")', the text by a wide index -/
theorem vx_throwSW {cc : ByteArray} {pc : Nat} (hexec : p.tables.exec = Jvm.exec) (hb : c.code = cc) (hl : l.stackTraces = false) {own cls text : String} {names : List String} {ik is ic mc ms sa : Nat} {A : Nat → Prop}
    (hown : s.vm.findClass own = some m.cls) (hcls : Bundle.fit cls = true) (hnames : ∀ n ∈ names, Bundle.fit n = true)
    (hk : (Cond.classLink own ik cls).before args s = true) (hini : (Cond.initialized cls).before args s = true) (hstr : vk_R own is text sa s) (hat : ∀ w ∈ vx_atS own ic cls names, w.before args s = true)
    (hgood : ∀ w ∈ Cond.classLink own ik cls :: Cond.initialized cls :: vx_atS own ic cls names, vx_ot w = true)
    (hU : vx_Zq Bundle.tN "UNASSIGNED_STACK" Bundle.steD A s s.heap) (hN : vx_Zq Bundle.tN "SUPPRESSED_SENTINEL" Bundle.listD A s s.heap) (hS : va_S A s.heap H locs) (hsize : ls.size = c.maxLocals)
    (d0 : decode cc pc = .ok (.new ik, 3)) (d3 : decode cc (pc + 3) = .ok (.dup, 1)) (d4 : decode cc (pc + 4) = .ok (.ldc_w is, 3)) (d7 : decode cc (pc + 7) = .ok (.invokespecial ic, 3)) (d10 : decode cc (pc + 10) = .ok (.athrow, 1))
    (hout : ∀ x ∈ c.exceptionTable.toList, covers x (pc + 10) = false)
    (hRframes : names.length + 3 < R.frames) (hRlocals : (rest.map fun v => v.category).sum + (13 * (names.length + 1) + 43) ≤ R.locals) (hRcells : cells + 1 ≤ R.cells) (hRslots : slots + 6 ≤ R.slots) (hlocks : meth.locks = false)
    (hx : ∀ t : State, s.vm.Alike t.vm → H.size ≤ t.heap.size → (∀ q : Nat, q < H.size → t.heap[q]? = H[q]?) → XC cls s t)
    (hf : ∀ z ∈ locs, free z.base) (hc : cells + 1 ≤ mc) (hs : slots + 6 ≤ ms) :
    W p l e R s m args below meth c H locs cells slots (vx_MQ below Qc XC args s mc ms free) (F0 m pc ls rest) := by
  intro T hT X
  have htr : e.platform.stackTraces = false := (show e.platform.stackTraces = l.stackTraces by rw [X.admits.platform]).trans hl
  have Y := vx_rebase X (R' := { frames := R.frames, locals := R.locals, cells := 1, slots := 6 }) (Nat.le_refl _) (Nat.le_refl _) hRcells hRslots
  obtain ⟨s', hA⟩ : ∃ z, z = (T.setVm s.vm).setFrames (.invoking m args :: below) := ⟨_, rfl⟩
  rw [← hA] at Y
  have hvm : s'.vm = s.vm := by rw [hA]; rfl
  have hhp : s'.heap = H := by rw [hA]; exact hT
  have hW0 : s.WarmedH s'.vm := by rw [hvm]; exact State.WarmedH.refl s
  have hat' : ∀ w ∈ vx_atS own ic cls names, w.before args s' = true := fun w hw => vx_ot_at hW0 hvm.symm (hgood w (List.mem_cons_of_mem _ (List.mem_cons_of_mem _ hw))) (hat w hw)
  have hk' : (Cond.classLink own ik cls).before args s' = true := vx_ot_at hW0 hvm.symm (hgood _ List.mem_cons_self) hk
  have hini' : (Cond.initialized cls).before args s' = true := vx_ot_at hW0 hvm.symm (hgood _ (List.mem_cons_of_mem _ List.mem_cons_self)) hini
  have hU' : vx_Zq Bundle.tN "UNASSIGNED_STACK" Bundle.steD A s' s'.heap := by rw [hhp]; exact vx_Zq.moved hW0.alike (hU.kept hS.2.1)
  have hN' : vx_Zq Bundle.tN "SUPPRESSED_SENTINEL" Bundle.listD A s' s'.heap := by rw [hhp]; exact vx_Zq.moved hW0.alike (hN.kept hS.2.1)
  have h : ∀ w ∈ Bundle.ownAtoms own ic cls names, w.before args s' = true := vx_own hat' (vx_isRefq hU'.1) (vx_isRefq hN'.1) hU'.2.word hN'.2.word
  have hown' : s'.vm.findClass own = some m.cls := by rw [hvm]; exact hown
  have hins : (Cond.instantiable cls 6).before args s' = true := h _ (by simp [Bundle.ownAtoms])
  obtain ⟨vm₁, cX, kX, hfX, hkX, -, -, X₁, st1⟩ := Y.newCold hexec (own := own) (C := cls) (index := ik) (n := 6) hown' hk' hins hini'
    (g := F0 m pc ls rest) rfl (by rw [hb]; exact d0) (Nat.le_refl _) (Nat.le_refl _)
  generalize hT1 : (T.setVm vm₁).pushCell { cls := cX, slots := kX.instanceTypes.map defaultValue, vm := .none } = T1 at X₁ st1
  have hcat : (Value.ref T.heap.size).category = 1 := rfl
  have hcellA : T1.heap[T.heap.size]? = some (freshCell cX kX) := by rw [← hT1]; exact State.heap_pushCell_size _ _
  have d3' : decode c.code (pc + 3) = .ok (.dup, 1) := by rw [hb]; exact d3
  have d4' : decode c.code (pc + 4) = .ok (.ldc_w is, 3) := by rw [hb]; exact d4
  have hstr' : vk_R own is text sa s' := vk_R.warm hW0 hstr
  obtain ⟨U, hsteps, hrun, hend, hW, hsame, ce, hce, hO⟩ := X₁.ctorThrowS hexec htr (own := own) (cls := cls) (names := names) (ic := ic) hown' hcls hnames h (fun x hx => nomatch hx) hfX hkX hcellA (by rw [hhp, hT]; exact Nat.le_refl _) (msg := .ref sa) rfl
    (g := { method := m, pc := pc + 7, locals := ls, stack := .ref sa :: .ref T.heap.size :: .ref T.heap.size :: rest, locked := none }) rfl hsize rfl rfl (rest := rest) rfl
    (by rw [hb]; exact d7) (by rw [hb]; exact d10) hout hRframes (by simp only [List.map_cons, List.sum_cons, hcat]; omega) hlocks
  obtain ⟨f1, f2⟩ := vx_frame hsame
  rw [hhp] at f1 f2
  have hWs : s.WarmedH U.vm := State.WarmedH.trans hW0 hW
  have hcl : s.vm.findClass cls = some ce.cls := by
    have h9 := hO.cls
    rw [hvm] at h9
    exact h9
  have hall : s.sameButNew ({ U with vm := s.vm } : State) locs mc ms := by
    subst hA
    obtain ⟨e1, e2⟩ := hsame
    rw [State.setFrames_setFrames] at e1
    have h2 : (T.setVm s.vm).sameButNew ({ U with vm := s.vm } : State) [] (0 + 1) (0 + 6) := ⟨e1, e2⟩
    have h3 := X.same.trans h2
    rw [List.append_nil] at h3
    exact h3.mono hc hs
  refine ⟨U, ?_, .threw T.heap.size, hrun, hend, Or.inr ⟨T.heap.size, rfl, cls, ce, locs, hx U hWs.alike f1 (fun q hq => f2 q hq (fun z hz => nomatch hz)), hce, hO.vm, hcl, hWs, hall, hf⟩⟩
  refine st1 _ ?_
  show Steps p.tables e below (T1.setTop { method := m, pc := pc + 3, locals := ls, stack := .ref T.heap.size :: rest, locked := none }) _
  jvm_step X₁.here [X₁.here.top, hexec, d3', Value.category]
  exact X₁.ldcStringW hexec (own := own) (text := text) (index := is) (a := sa) hown' hstr'.1 hstr'.2
    (g := { method := m, pc := pc + 4, locals := ls, stack := .ref T.heap.size :: .ref T.heap.size :: rest, locked := none }) rfl d4' _ hsteps
end Ends
section Bodies
variable {l : Launch}
theorem vx_ofW {y : MethodName} {ws ws' : List Cond} {rm : Room} {Pc : Array Value → State → Prop} {Qc : Array Value → State → Outcome → State → Prop} {XC : String → State → State → Prop} {mc ms : Nat} {free : Addr → Prop} {cc : ByteArray} {maxL : Nat} {ret : Option FieldType}
    (hy : plainName y.cls = true) (hw : ws = Cond.code y cc maxL ret :: ws')
    (body : ∀ p e s m args below meth c s₁, BodyLoose p l y (headSpec ws rm) cc maxL ret e s m args below meth c s₁ → c.maxLocals = maxL → (∀ x ∈ c.exceptionTable.toList, False) → Pc args s →
      W p l e (headSpec ws rm).room s m args below meth c s.heap [] 0 0 (vx_MQ below Qc XC args s mc ms free) (entryFrame m args maxL)) : vx_Met l y ws rm Pc Qc XC mc ms free := by
  refine MetFree.of_bodyS (code := cc) (maxLocals := maxL) (ret := ret) hy ?_ ?_
  · intro args s m h hn
    obtain ⟨meth, c, h1, h2, h3, h4, h5, h6, -, -⟩ := Cond.code_spec hn (atoms_spec (ws := ws) h _ (by rw [hw]; exact List.mem_cons_self))
    exact ⟨meth, c, h1, h2, h3, h4, h5, h6⟩
  · intro p e s m args below meth c s₁ B hml hP _
    have hh0 : s₁.heap = s.heap := by rw [B.state]; rfl
    have ht : ∀ x ∈ c.exceptionTable.toList, False := by
      obtain ⟨meth9, c9, h1, h2, -, -, -, -, h7, -⟩ := Cond.code_spec B.named (atoms_spec (ws := ws) B.pre _ (by rw [hw]; exact List.mem_cons_self))
      cases Option.some.inj (h1.symm.trans B.method)
      cases Option.some.inj (h2.symm.trans (Stand.of_body B).code)
      intro x hx
      rw [Array.isEmpty_iff.mp h7] at hx
      cases hx
    obtain ⟨t, a1, o, b1, b2, b3⟩ := body p e s m args below meth c s₁ B hml ht hP s₁ hh0 (Stand.of_body B)
    exact ⟨t, o, a1, b1, b2, b3⟩
/-- the table of a body with handlers -/
theorem vx_table {p : Program} {x y : MethodName} {S : Spec} {cc bytes : ByteArray} {maxL maxL' : Nat} {ret ret' : Option FieldType} {e : Env} {s s₁ : State} {m : MethodId} {args : Array Value} {below : List Frame} {meth : Method} {c : Code} {hh : List (Nat × Nat × Nat × Nat)}
    (B : BodyLoose p l y S cc maxL ret e s m args below meth c s₁) (h : (Cond.codeWith y bytes maxL' ret' hh).before args s = true) : c.exceptionTable.toList = tableOf hh := by
  obtain ⟨m9, meth9, c9, hn9, h1, h2, -, -, h6, -⟩ := Cond.codeWith_spec h
  cases Option.some.inj (hn9.symm.trans B.named)
  cases Option.some.inj (h1.symm.trans B.method)
  cases Option.some.inj (h2.symm.trans (Stand.of_body B).code)
  rw [← h6, table_eq]
end Bodies
end VXA
/-! ===== END ===== -/
/-! ===== BEGIN a static call of a method with an exception table ===== -/
section VXS
variable {p : Program} {l : Launch} {e : Env} {R : Room} {s : State} {m : MethodId} {args : Array Value} {below : List Frame} {meth : Method} {c : Code} {T : State} {H : Heap} {locs : List Loc} {cells slots : Nat}
abbrev vx_CSW (R : Room) (s : State) (args : Array Value) (own : String) (index : Nat) (y : MethodName) (bytes : ByteArray) (maxL : Nat) (ret : Option FieldType) (hh : List (Nat × Nat × Nat × Nat)) (ws : List Cond) (rm : Room) (mc ms n : Nat) : Prop :=
  (rm.cells = mc ∧ rm.slots = ms ∧ rm.frames + 1 ≤ R.frames ∧ 8 + (maxL + 11) + rm.locals ≤ R.locals ∧ (∀ w ∈ ws, ∀ (a' : Array Value) (U : State), s.WarmedH U.vm → w.before a' U = true) ∧ Cond.codeWith y bytes maxL ret hh ∈ ws) ∧
  (Cond.codeWith y bytes maxL ret hh).before args s = true ∧ (Cond.initialized y.cls).before args s = true ∧ (y.cls ≠ "java/lang/invoke/MethodHandle" ∧ y.cls ≠ "java/lang/invoke/VarHandle") ∧
  (∀ sig, parseMethodDescriptor y.desc = some sig → n = sig.parameters.length) ∧ (Cond.methodLink own index y).before args s = true ∧ (Cond.static y).before args s = true
theorem vx_cwSW {own : String} {index maxL mc ms : Nat} {y : MethodName} {bytes : ByteArray} {ret : Option FieldType} {hh : List (Nat × Nat × Nat × Nat)} {Ts ws ws' : List Cond} {rm : Room} (n : Nat) (ht : ∀ w ∈ Ts, w.before args s = true) (hT : GoodIn Ts (va_wsS own index y ws)) (hw : ws = Cond.codeWith y bytes maxL ret hh :: ws') (hrc : rm.cells = mc) (hrs : rm.slots = ms)
    (hd : y.cls ≠ "java/lang/invoke/MethodHandle" ∧ y.cls ≠ "java/lang/invoke/VarHandle" ∧ (parseMethodDescriptor y.desc).map (fun d => d.parameters.length) = some n) (hR : rm.frames + 1 ≤ R.frames ∧ 8 + (maxL + 11) + rm.locals ≤ R.locals) :
    vx_CSW R s args own index y bytes maxL ret hh ws rm mc ms n := by
  have ok : ∀ w ∈ va_wsS own index y ws, w.before args s = true := fun w h => ht w (hT w h).1
  have hG : GoodIn Ts ws := fun w h => hT w (by unfold va_wsS; exact List.mem_append_right _ h)
  have hc : Cond.codeWith y bytes maxL ret hh ∈ ws := by rw [hw]; exact List.mem_cons_self
  refine ⟨⟨hrc, hrs, hR.1, hR.2, pay_in ht hG, hc⟩, ht _ (hG _ hc).1, ok _ (by simp [va_wsS]), ⟨hd.1, hd.2.1⟩, fun sig h => ?_, ok _ (by simp [va_wsS]), ok _ (by simp [va_wsS])⟩
  have h2 := hd.2.2
  rw [h] at h2
  exact (Option.some.inj h2).symm
theorem vx_callSW (X : Stand p l e R s m args below meth c T locs cells slots) (hexec : p.tables.exec = Jvm.exec) {own : String} {index : Nat} {y : MethodName} {bytes : ByteArray} {maxL : Nat} {ret : Option FieldType} {hh : List (Nat × Nat × Nat × Nat)}
    (hown : s.vm.findClass own = some m.cls) (hlink : (Cond.methodLink own index y).before args s = true) (hstat : (Cond.static y).before args s = true) (hinit : (Cond.initialized y.cls).before args s = true)
    (hcode : (Cond.codeWith y bytes maxL ret hh).before args s = true) (hy : y.cls ≠ "java/lang/invoke/MethodHandle" ∧ y.cls ≠ "java/lang/invoke/VarHandle")
    {W9 : Nat} {Pre : Pt → Array Value → Prop} {Post : Pt → Array Value → Option Value → Pt → Prop} (hK : Back l R p e below s args y 3 W9 Pre Post)
    {g : JFrame} (hg : g.method = m) (hsize : g.locals.size = c.maxLocals) {argsL rest : List Value} (hlen : ∀ sig, parseMethodDescriptor y.desc = some sig → argsL.length = sig.parameters.length)
    (hstack : g.stack = argsL.reverse ++ rest) (hW : 2 * g.monitorRoom + (rest.map fun v => v.category).sum ≤ W9) (hdg : decode c.code g.pc = .ok (.invokestatic index, 3))
    (hpre : ∀ vm₁, s.WarmedH vm₁ → Pre ⟨T.setVm vm₁, locs, cells, slots⟩ argsL.toArray) :
    ∃ (v : Option Value) (vm₁ : Vm) (B : Pt), s.WarmedH vm₁ ∧ Stand p l e R s m args below meth c B.U B.locs B.cells B.slots ∧ Post ⟨T.setVm vm₁, locs, cells, slots⟩ argsL.toArray v B ∧
      ∀ target, Steps p.tables e below (B.U.setTop { g with pc := g.pc + 3, stack := v.toList ++ rest }) target → Steps p.tables e below (T.setTop g) target := by
  obtain ⟨mk, methM, cM, hnamed, hmethM, -, -, -, -, -, -, hsigM⟩ := Cond.codeWith_spec hcode
  have hstatic : methM.isStatic = true := Cond.static_spec hnamed hmethM hstat
  obtain ⟨kP, hkP, -⟩ := className_of_methodNamed hnamed
  have hinitP : kP.init = .initialized := Cond.initialized_spec (findClass_of_methodNamed hnamed) hkP hinit
  obtain ⟨vm₁, X₁, hstep₁⟩ := X.invokestatic hexec hown hlink hnamed hmethM hstatic hkP hinitP hy (g := g) hg (argsL := argsL) (rest := rest) (hlen _ hsigM) hstack hdg
  obtain ⟨v, B, X', hpost, hsteps⟩ := hK m meth c ⟨T.setVm vm₁, locs, cells, slots⟩ { g with stack := rest } (.invokestatic index) mk argsL.toArray X₁ hg hsize hdg hW (X₁.named hnamed) (hpre vm₁ X₁.warmed)
  exact ⟨v, vm₁, B, X₁.warmed, X', hpost, fun target h => hstep₁ _ fun acts => by rw [doInvoke_state]; exact hsteps.trans h⟩
theorem vx_runSW {y : MethodName} {bytes cc : ByteArray} {maxL nL mc ms n index : Nat} {ret : Option FieldType} {hh : List (Nat × Nat × Nat × Nat)} {ws : List Cond} {rm : Room} {Pc : Array Value → State → Prop} {Qc : Array Value → State → Outcome → State → Prop} {free : Addr → Prop} {Ts : List Cond} {own : String} {As rest : List Value} {g : JFrame}
    (S : CallFix p m c cc nL s args Ts own) (hM : Met l y ws rm Pc Qc mc ms free) (cw : vx_CSW R s args own index y bytes maxL ret hh ws rm mc ms n) (hp : PreS s H Pc As)
    (hg : g.method = m) (hn : As.length = n) (hsize : g.locals.size = nL) (hstack : g.stack = As.reverse ++ rest) (hW : 2 * g.monitorRoom + (rest.map fun v => v.category).sum ≤ 8) (hdg : decode cc g.pc = .ok (.invokestatic index, 3)) (hf : cells + mc ≤ R.cells ∧ slots + ms ≤ R.slots) :
    va_Run p l e R s m args below meth c H locs cells slots mc ms g rest (Qc As.toArray) (free) := by
  obtain ⟨⟨hrc, hrs, hfr, hlo, hws, hcw⟩, hcode, hini, hy, hlen, hl, hstt⟩ := cw
  have hK : Back l R p e below s args y 3 8 (PreOf R mc ms Pc) (PostOf Qc mc ms free) := va_backW (hh := hh) (bytes := bytes) (maxL := maxL) (ret := ret) hM hp.1 hrc hrs hfr hlo hws hcw (fun a' U hW => word_at hW (Or.inl (by first | rfl | simp [Cond.onTables, Cond.keeps, Cond.steady])) hini)
  obtain ⟨hx, hb, hml, ho, -⟩ := S
  intro T hT X
  obtain ⟨v, vm₁, ⟨U', l2, c2, s2⟩, hW₁, X', ⟨g', mk, t, L, e1, e2, hq, h1, hL, h2, h3⟩, st⟩ := vx_callSW X hx (hh := hh) (bytes := bytes) (maxL := maxL) (ret := ret) ho hl hstt hini hcode hy hK hg (hsize.trans hml.symm) (argsL := As) (rest := rest) (fun sig h => hn.trans (hlen sig h)) hstack hW (by rw [hb]; exact hdg)
    (fun vm₁ hW₁ => ⟨hf.1, hf.2, hp.2 (T.setVm vm₁) hT hW₁⟩)
  dsimp only [Pt.U, Pt.locs, Pt.cells, Pt.slots] at X' e1 e2 h1 h2 h3 st
  subst h1; subst h2; subst h3
  exact ⟨v, (T.setVm vm₁).calling g' mk As.toArray, t, U', L, hT, X', hL, e1, e2, hq, st⟩
/-- not caught here, past rows that name other classes: it goes on to the caller -/
theorem vx_outP {p : Program} {l : Launch} {e : Env} {R : Room} {s : State} {m : MethodId} {args : Array Value} {below : List Frame} {meth : Method} {c : Code} {H : Heap} {locs : List Loc} {cells slots : Nat} {free : Addr → Prop} {ls : Array Slot} {rest : List Value} {Qc : Array Value → State → Outcome → State → Prop} {XC : String → State → State → Prop}
    {pc : Nat} {own E : String} {ce : Cell} {q : Addr} {mc ms : Nat} (hown : s.vm.findClass own = some m.cls) (hlocks : meth.locks = false)
    (hpass : ∀ z ∈ c.exceptionTable.toList, covers z pc = false ∨ (z.catchType ≠ 0 ∧ ∃ nm : String, (Cond.classLink own z.catchType nm).before args s = true ∧ va_Nc E nm s)) (hcell : H[q]? = some ce) (hv : ce.vm = .none) (hcl : s.vm.findClass E = some ce.cls)
    (hx : ∀ t : State, t.heap = H → s.vm.Alike t.vm → XC E s t) (hf : ∀ z ∈ locs, free z.base) (hc : cells ≤ mc) (hs : slots ≤ ms) :
    vx_W p l e R s m args below meth c H locs cells slots (vx_MQ below Qc XC args s mc ms free) (F0 m pc ls rest) q := by
  intro T hT X
  have hpl : e.platform.magicAccessors = ({} : Platform).magicAccessors := by rw [X.admits.platform]
  obtain ⟨vm', hW', X', st⟩ := X.outThrough hlocks q (g := F0 m pc ls rest) rfl rfl rfl (cell := ce) (by rw [hT]; exact hcell) (by rw [hv]; rfl)
    (by obtain ⟨k9, h9, -⟩ := Vm.findClass_spec hcl; exact ⟨k9, h9⟩) (fun z hz => by
      rcases hpass z hz with h | ⟨hz0, nm, hl1, hn1⟩
      · exact Or.inl h
      · obtain ⟨c6, hc6, hcl6⟩ := Cond.classLink_spec hown hl1 e.platform hpl
        obtain ⟨a8, b8, h1, h2, h3⟩ := hn1
        cases Option.some.inj (h1.symm.trans hcl)
        cases Option.some.inj (h2.symm.trans hc6)
        exact Or.inr ⟨hz0, _, hcl6, h3⟩)
  obtain ⟨g₀, hfr⟩ := X'.frames_eq
  have hcell9 : ((T.setVm vm').setFrames (.throwing q :: below)).heap[q]? = some ce := by
    show T.heap[q]? = some ce
    rw [hT]; exact hcell
  have hend : Ended ((T.setVm vm').setFrames (.throwing q :: below)) below (.threw q) := State.frames_setFrames _ (State.cur_lt_of_frames hfr)
  refine ⟨(T.setVm vm').setFrames (.throwing q :: below), ?_, .threw q, X'.here.running, hend, Or.inr ⟨q, rfl, E, ce, locs, hx _ hT (X'.ends _).1.alike, hcell9, hv, hcl, (X'.ends _).1, (X'.ends _).2.mono hc hs, hf⟩⟩
  rw [X.pushThrowing_eq]
  exact st
/-- a thing of a world lies in the heap -/
theorem vx_lt {D : va_G} {cl : List vw_C} {ws : va_W} {H1 : Heap} (h : va_P D cl ws H1) {k : Nat} {q : Nat × va_E} (hk : ws[k]? = some q) : q.1 < H1.size := (h k q hk).lt
end VXS
/-! ===== END ===== -/
/-! ===== BEGIN methods with a table of their own: called by a name, returning or throwing ===== -/
section VXH
/-! vx_backW, vx_callVX, vx_callSX, vx_callVW, vx_runVW, vx_runVX, vx_runSX, vx_ofWH follow the same proofs as their sisters above (Free/Laws.lean, Shelf42/LK1.lean); vx_outP calls Shelf42/NT130.lean (outThrough). -/
section
variable {l : Launch} {R : Room} {p : Program} {e : Env} {below : List Frame} {s : State} {sargs : Array Value} {y : MethodName} {len W9 : Nat}
theorem vx_backW {ws : List Cond} {rm : Room} {Pc : Array Value → State → Prop} {Qc : Array Value → State → Outcome → State → Prop} {XC : String → State → State → Prop} {mc ms : Nat} {free : Addr → Prop} {bytes : ByteArray} {maxL : Nat} {ret : Option FieldType} {hh : List (Nat × Nat × Nat × Nat)}
    (hM : vx_Met l y ws rm Pc Qc XC mc ms free) (hblind : FrameBlind Pc) (hrc : rm.cells = mc) (hrs : rm.slots = ms)
    (hframes : rm.frames + 1 ≤ R.frames) (hlocals : W9 + (maxL + 11) + rm.locals ≤ R.locals)
    (hws : ∀ w ∈ ws, ∀ a' U, s.WarmedH U.vm → w.before a' U = true) (hcode : Cond.codeWith y bytes maxL ret hh ∈ ws) (hinit : ∀ a' U, s.WarmedH U.vm → (Cond.initialized y.cls).before a' U = true) :
    vx_Back l R p e below s sargs y len W9 (PreOf R mc ms Pc) (PostOf Qc mc ms free) (vx_Post XC mc ms free) := by
  intro m meth c A g ig mk a X hg hsize hdg hW hn hp
  have h1 : (headSpec ws rm).pre.before a A.U = true := atoms_intro fun w hw => hws w hw _ _ X.warmed
  have h2 : (Cond.codeWith y bytes maxL ret hh).before a A.U = true := hws _ hcode _ _ X.warmed
  have h3 : (Cond.initialized y.cls).before a A.U = true := hinit _ _ X.warmed
  have h4 : A.cells + (headSpec ws rm).room.cells ≤ R.cells := by rw [show (headSpec ws rm).room.cells = mc from hrc]; exact hp.1
  have h5 : A.slots + (headSpec ws rm).room.slots ≤ R.slots := by rw [show (headSpec ws rm).room.slots = ms from hrs]; exact hp.2.1
  have hPc : Pc a (A.U.calling g mk a) := hblind _ _ _ _ hp.2.2
  obtain ⟨U, Ls, c0, s0⟩ := A
  dsimp only [Pt.U, Pt.locs, Pt.cells, Pt.slots] at h1 h2 h3 h4 h5 X hn hPc ⊢
  obtain ⟨m9, methY, cY, hn9, hmY, hcY, -, hlY, -⟩ := Cond.codeWith_spec h2
  cases Option.some.inj (hn9.symm.trans hn)
  obtain ⟨kY, hkY, -⟩ := className_of_methodNamed hn
  have hinitY : kY.init = .initialized := Cond.initialized_spec (findClass_of_methodNamed hn) hkY h3
  have h : At U g.method c below := by rw [hg]; exact X.here
  have hlocals9 : W9 + (maxL + 11) + (headSpec ws rm).room.locals ≤ R.locals := hlocals
  have happ : (headSpec ws rm).appliesLoose y e.platform (U.calling g mk a) = true :=
    Spec.appliesLoose_calling (g := g) h hdg hn hkY hinitY
      (X.room_calling (g := g) (R' := (headSpec ws rm).room) hsize hmY hcY hframes (by rw [hlY]; omega) h4 h5) h1
  obtain ⟨mid, hmid⟩ := h.above
  have hfr : (U.setTop g).frames = (.java g :: mid) ++ below := by rw [State.frames_setTop' g h.top, hmid]; rfl
  obtain ⟨o, s₂, hsteps, -, hend, hq⟩ := Steps.callFree hM p X.admits X.cas X.clock (acts := []) hfr happ hPc trivial
  have hq' : vx_Q Qc XC mc ms free a (U.calling g mk a) o s₂ := hq
  rw [State.frames_setTop' g h.top] at hend
  obtain ⟨g₀, hg0⟩ := Option.isSome_iff_exists.mp h.top
  obtain ⟨r, hr⟩ := State.topJava?_eq_some.mp hg0
  have hr' : (({ U with heap := s₂.heap, slotsUsed := s₂.slotsUsed } : State).setVm s₂.vm).frames = .java g₀ :: r := hr
  rcases hq' with ⟨hqc, L, hfe, hL⟩ | ⟨q, rfl, E, ce, L, hx, hce, hcv, hcl, hW₂, hsm, hL⟩
  · obtain ⟨⟨v, rfl⟩, hW₂, e2, q2, q3, q4, q5, q6⟩ := id hfe
    have e3 : s₂ = ({ (U.calling g mk a).setFrames s₂.frames with heap := s₂.heap, slotsUsed := s₂.slotsUsed } : State).setVm s₂.vm := by
      have : s₂ = ({ s₂ with vm := (U.calling g mk a).vm } : State).setVm s₂.vm := rfl
      rw [e2] at this
      exact this
    obtain ⟨c₂, i₂, len₂, hc₂, hd₂, hf₂⟩ := hend
    have hW' : U.WarmedH s₂.vm := hW₂
    have hcc : c₂ = c := by
      have h1 : s₂.code? g.method = U.code? g.method := by
        rw [State.code?_eq, State.code?_eq, hW'.alike.method?]
      exact Option.some.inj (hc₂.symm.trans (h1.trans h.code))
    subst hcc
    have hlen : len₂ = len := by rw [hdg] at hd₂; cases hd₂; rfl
    subst hlen
    have hs₂ : s₂ = (({ U with heap := s₂.heap, slotsUsed := s₂.slotsUsed } : State).setVm s₂.vm).setTop { g with pc := g.pc + len₂, stack := v.toList ++ g.stack } := by
      refine e3.trans ?_
      rw [hf₂, State.calling_eq h.top, State.setFrames_setFrames, State.setTop_of_frames _ hr', hr]
      rfl
    have hsame : U.sameButNew ({ U with heap := s₂.heap, slotsUsed := s₂.slotsUsed } : State) L mc ms := by
      refine ⟨?_, q2, q3, q4, q5, q6⟩
      obtain ⟨t, ht, -⟩ := State.frames_cons hr
      show ({ U with heap := s₂.heap, slotsUsed := s₂.slotsUsed } : State) = { U.setFrames U.frames with heap := s₂.heap, slotsUsed := s₂.slotsUsed }
      rw [State.setFrames_self ht]
    subst hg
    refine Or.inl ⟨v, ⟨(({ U with heap := s₂.heap, slotsUsed := s₂.slotsUsed } : State).setVm s₂.vm), Ls ++ L, c0 + mc, s0 + ms⟩,
      ⟨X.admits, X.cas, X.clock, X.frames, X.room, X.hears, X.method, X.code, (X.here.setHeapUsed s₂.heap s₂.slotsUsed).setVm hW'.alike, X.tail, State.WarmedH.trans X.warmed hW', X.limits, X.bytes, X.same.trans (hsame.setVm s.vm)⟩,
      ⟨g, mk, s₂, L, rfl, rfl, hqc, rfl, hL, rfl, rfl⟩, ?_⟩
    show Steps p.tables e below _ ((({ U with heap := s₂.heap, slotsUsed := s₂.slotsUsed } : State).setVm s₂.vm).setTop { g with pc := g.pc + len₂, stack := v.toList ++ g.stack })
    rw [← hs₂]
    exact hsteps
  · obtain ⟨e2, q2, q3, q4, q5, q6⟩ := id hsm
    have e3 : s₂ = ({ (U.calling g mk a).setFrames s₂.frames with heap := s₂.heap, slotsUsed := s₂.slotsUsed } : State).setVm s₂.vm := by
      have : s₂ = ({ s₂ with vm := (U.calling g mk a).vm } : State).setVm s₂.vm := rfl
      rw [e2] at this
      exact this
    have hf₂ : s₂.frames = .throwing q :: .java g :: U.frames.tail := hend
    have hW' : U.WarmedH s₂.vm := hW₂
    have hs₂ : s₂ = ((({ U with heap := s₂.heap, slotsUsed := s₂.slotsUsed } : State).setVm s₂.vm).setTop g).pushFrame (.throwing q) := by
      refine e3.trans ?_
      rw [hf₂, State.calling_eq h.top, State.setFrames_setFrames, State.pushFrame, State.frames_setTop _ hr', State.setTop_of_frames _ hr', State.setFrames_setFrames, hr]
      rfl
    have hsame : U.sameButNew ({ U with heap := s₂.heap, slotsUsed := s₂.slotsUsed } : State) L mc ms := by
      refine ⟨?_, q2, q3, q4, q5, q6⟩
      obtain ⟨t, ht, -⟩ := State.frames_cons hr
      show ({ U with heap := s₂.heap, slotsUsed := s₂.slotsUsed } : State) = { U.setFrames U.frames with heap := s₂.heap, slotsUsed := s₂.slotsUsed }
      rw [State.setFrames_self ht]
    subst hg
    refine Or.inr ⟨q, ⟨(({ U with heap := s₂.heap, slotsUsed := s₂.slotsUsed } : State).setVm s₂.vm), Ls ++ L, c0 + mc, s0 + ms⟩,
      ⟨X.admits, X.cas, X.clock, X.frames, X.room, X.hears, X.method, X.code, (X.here.setHeapUsed s₂.heap s₂.slotsUsed).setVm hW'.alike, X.tail, State.WarmedH.trans X.warmed hW', X.limits, X.bytes, X.same.trans (hsame.setVm s.vm)⟩,
      ⟨g, mk, s₂, L, E, ce, rfl, rfl, hx, hce, hcv, hcl, rfl, hL, rfl, rfl⟩, ?_⟩
    show Steps p.tables e below _ (((({ U with heap := s₂.heap, slotsUsed := s₂.slotsUsed } : State).setVm s₂.vm).setTop g).pushFrame (.throwing q))
    rw [← hs₂]
    exact hsteps
end
variable {p : Program} {l : Launch} {e : Env} {R : Room} {s : State} {m : MethodId} {args : Array Value} {below : List Frame} {meth : Method} {c : Code} {T : State} {H : Heap} {locs : List Loc} {cells slots : Nat}
theorem vx_callVX (X : Stand p l e R s m args below meth c T locs cells slots) (hexec : p.tables.exec = Jvm.exec) {own C : String} {index : Nat} {y : MethodName} {bytes : ByteArray} {maxL : Nat} {ret : Option FieldType} {hh : List (Nat × Nat × Nat × Nat)}
    (hown : s.vm.findClass own = some m.cls) (hlink : (Cond.methodLink own index y).before args s = true) (hinst : (Cond.instanceMethod y).before args s = true) (hsel : (Cond.selects C y y).before args s = true)
    (hcode : (Cond.codeWith y bytes maxL ret hh).before args s = true) (hy : y.cls ≠ "java/lang/invoke/MethodHandle" ∧ y.cls ≠ "java/lang/invoke/VarHandle")
    {W9 : Nat} {Pre : Pt → Array Value → Prop} {Post : Pt → Array Value → Option Value → Pt → Prop} {PostX : Pt → Array Value → Addr → Pt → Prop} (hK : vx_Back l R p e below s args y 3 W9 Pre Post PostX)
    {b : Addr} {cellB : Cell} (hcell : T.heap[b]? = some cellB) (hobj : cellB.vm.isStatics = false) (hcls : s.vm.findClass C = some cellB.cls)
    {g : JFrame} (hg : g.method = m) (hsize : g.locals.size = c.maxLocals) {argsL rest : List Value} (hlen : ∀ sig, parseMethodDescriptor y.desc = some sig → argsL.length = sig.parameters.length)
    (hstack : g.stack = argsL.reverse ++ .ref b :: rest) (hW : 2 * g.monitorRoom + (rest.map fun v => v.category).sum ≤ W9) (hdg : decode c.code g.pc = .ok (.invokevirtual index, 3))
    (hpre : ∀ vm₁, s.WarmedH vm₁ → Pre ⟨T.setVm vm₁, locs, cells, slots⟩ (Value.ref b :: argsL).toArray) :
    (∃ (v : Option Value) (vm₁ : Vm) (B : Pt), s.WarmedH vm₁ ∧ Stand p l e R s m args below meth c B.U B.locs B.cells B.slots ∧ Post ⟨T.setVm vm₁, locs, cells, slots⟩ (Value.ref b :: argsL).toArray v B ∧
      ∀ target, Steps p.tables e below (B.U.setTop { g with pc := g.pc + 3, stack := v.toList ++ rest }) target → Steps p.tables e below (T.setTop g) target) ∨
    (∃ (q : Addr) (vm₁ : Vm) (B : Pt), s.WarmedH vm₁ ∧ Stand p l e R s m args below meth c B.U B.locs B.cells B.slots ∧ PostX ⟨T.setVm vm₁, locs, cells, slots⟩ (Value.ref b :: argsL).toArray q B ∧
      Steps p.tables e below (T.setTop g) ((B.U.setTop { g with stack := rest }).pushFrame (.throwing q))) := by
  obtain ⟨mk, methM, hnamed, hmethM, hstM, habM⟩ := Cond.instanceMethod_spec hinst
  obtain ⟨m8, methM', cM, hn8, hmethM', -, -, -, -, -, -, hsigM⟩ := Cond.codeWith_spec hcode
  cases Option.some.inj (hn8.symm.trans hnamed)
  cases hmethM.symm.trans hmethM'
  obtain ⟨c2, r2, m2, q1, q2, q3, q4, kP, hkP, hkPi⟩ := Cond.selects_spec hsel
  cases hcls.symm.trans q1
  cases (State.methodFound?_of_named hnamed hy).symm.trans q2
  cases hnamed.symm.trans q3
  have hselP : selectMethod e.platform s.vm cellB.cls mk = .method mk := by rw [Launch.admits_selectMethod X.admits]; exact q4
  obtain ⟨vm₁, X₁, hstep₁⟩ := X.invokevirtual hexec hown hlink hnamed hmethM hstM hkP hkPi hy (a := b) (cell := cellB) hcell
    (fun z h => by rw [h] at hobj; cases hobj) hselP hmethM habM hkP hkPi (g := g) hg (argsL := argsL) (rest := rest) (hlen _ hsigM) hstack hdg
  rcases hK m meth c ⟨T.setVm vm₁, locs, cells, slots⟩ { g with stack := rest } (.invokevirtual index) mk (Value.ref b :: argsL).toArray X₁ hg hsize hdg hW (X₁.named hnamed) (hpre vm₁ X₁.warmed) with ⟨v, B, X', hpost, hsteps⟩ | ⟨q, B, X', hpost, hsteps⟩
  · exact Or.inl ⟨v, vm₁, B, X₁.warmed, X', hpost, fun target h => hstep₁ _ fun acts => by rw [doInvoke_state]; exact hsteps.trans h⟩
  · exact Or.inr ⟨q, vm₁, B, X₁.warmed, X', hpost, hstep₁ _ fun acts => by rw [doInvoke_state]; exact hsteps⟩
theorem vx_callSX (X : Stand p l e R s m args below meth c T locs cells slots) (hexec : p.tables.exec = Jvm.exec) {own : String} {index : Nat} {y : MethodName} {bytes : ByteArray} {maxL : Nat} {ret : Option FieldType} {hh : List (Nat × Nat × Nat × Nat)}
    (hown : s.vm.findClass own = some m.cls) (hlink : (Cond.methodLink own index y).before args s = true) (hstat : (Cond.static y).before args s = true) (hinit : (Cond.initialized y.cls).before args s = true)
    (hcode : (Cond.codeWith y bytes maxL ret hh).before args s = true) (hy : y.cls ≠ "java/lang/invoke/MethodHandle" ∧ y.cls ≠ "java/lang/invoke/VarHandle")
    {W9 : Nat} {Pre : Pt → Array Value → Prop} {Post : Pt → Array Value → Option Value → Pt → Prop} {PostX : Pt → Array Value → Addr → Pt → Prop} (hK : vx_Back l R p e below s args y 3 W9 Pre Post PostX)
    {g : JFrame} (hg : g.method = m) (hsize : g.locals.size = c.maxLocals) {argsL rest : List Value} (hlen : ∀ sig, parseMethodDescriptor y.desc = some sig → argsL.length = sig.parameters.length)
    (hstack : g.stack = argsL.reverse ++ rest) (hW : 2 * g.monitorRoom + (rest.map fun v => v.category).sum ≤ W9) (hdg : decode c.code g.pc = .ok (.invokestatic index, 3))
    (hpre : ∀ vm₁, s.WarmedH vm₁ → Pre ⟨T.setVm vm₁, locs, cells, slots⟩ argsL.toArray) :
    (∃ (v : Option Value) (vm₁ : Vm) (B : Pt), s.WarmedH vm₁ ∧ Stand p l e R s m args below meth c B.U B.locs B.cells B.slots ∧ Post ⟨T.setVm vm₁, locs, cells, slots⟩ argsL.toArray v B ∧
      ∀ target, Steps p.tables e below (B.U.setTop { g with pc := g.pc + 3, stack := v.toList ++ rest }) target → Steps p.tables e below (T.setTop g) target) ∨
    (∃ (q : Addr) (vm₁ : Vm) (B : Pt), s.WarmedH vm₁ ∧ Stand p l e R s m args below meth c B.U B.locs B.cells B.slots ∧ PostX ⟨T.setVm vm₁, locs, cells, slots⟩ argsL.toArray q B ∧
      Steps p.tables e below (T.setTop g) ((B.U.setTop { g with stack := rest }).pushFrame (.throwing q))) := by
  obtain ⟨mk, methM, cM, hnamed, hmethM, -, -, -, -, -, -, hsigM⟩ := Cond.codeWith_spec hcode
  have hstatic : methM.isStatic = true := Cond.static_spec hnamed hmethM hstat
  obtain ⟨kP, hkP, -⟩ := className_of_methodNamed hnamed
  have hinitP : kP.init = .initialized := Cond.initialized_spec (findClass_of_methodNamed hnamed) hkP hinit
  obtain ⟨vm₁, X₁, hstep₁⟩ := X.invokestatic hexec hown hlink hnamed hmethM hstatic hkP hinitP hy (g := g) hg (argsL := argsL) (rest := rest) (hlen _ hsigM) hstack hdg
  rcases hK m meth c ⟨T.setVm vm₁, locs, cells, slots⟩ { g with stack := rest } (.invokestatic index) mk argsL.toArray X₁ hg hsize hdg hW (X₁.named hnamed) (hpre vm₁ X₁.warmed) with ⟨v, B, X', hpost, hsteps⟩ | ⟨q, B, X', hpost, hsteps⟩
  · exact Or.inl ⟨v, vm₁, B, X₁.warmed, X', hpost, fun target h => hstep₁ _ fun acts => by rw [doInvoke_state]; exact hsteps.trans h⟩
  · exact Or.inr ⟨q, vm₁, B, X₁.warmed, X', hpost, hstep₁ _ fun acts => by rw [doInvoke_state]; exact hsteps⟩
theorem vx_callVW (X : Stand p l e R s m args below meth c T locs cells slots) (hexec : p.tables.exec = Jvm.exec) {own C : String} {index : Nat} {y : MethodName} {bytes : ByteArray} {maxL : Nat} {ret : Option FieldType} {hh : List (Nat × Nat × Nat × Nat)}
    (hown : s.vm.findClass own = some m.cls) (hlink : (Cond.methodLink own index y).before args s = true) (hinst : (Cond.instanceMethod y).before args s = true) (hsel : (Cond.selects C y y).before args s = true)
    (hcode : (Cond.codeWith y bytes maxL ret hh).before args s = true) (hy : y.cls ≠ "java/lang/invoke/MethodHandle" ∧ y.cls ≠ "java/lang/invoke/VarHandle")
    {W9 : Nat} {Pre : Pt → Array Value → Prop} {Post : Pt → Array Value → Option Value → Pt → Prop} (hK : Back l R p e below s args y 3 W9 Pre Post)
    {b : Addr} {cellB : Cell} (hcell : T.heap[b]? = some cellB) (hobj : cellB.vm.isStatics = false) (hcls : s.vm.findClass C = some cellB.cls)
    {g : JFrame} (hg : g.method = m) (hsize : g.locals.size = c.maxLocals) {argsL rest : List Value} (hlen : ∀ sig, parseMethodDescriptor y.desc = some sig → argsL.length = sig.parameters.length)
    (hstack : g.stack = argsL.reverse ++ .ref b :: rest) (hW : 2 * g.monitorRoom + (rest.map fun v => v.category).sum ≤ W9) (hdg : decode c.code g.pc = .ok (.invokevirtual index, 3))
    (hpre : ∀ vm₁, s.WarmedH vm₁ → Pre ⟨T.setVm vm₁, locs, cells, slots⟩ (Value.ref b :: argsL).toArray) :
    ∃ (v : Option Value) (vm₁ : Vm) (B : Pt), s.WarmedH vm₁ ∧ Stand p l e R s m args below meth c B.U B.locs B.cells B.slots ∧ Post ⟨T.setVm vm₁, locs, cells, slots⟩ (Value.ref b :: argsL).toArray v B ∧
      ∀ target, Steps p.tables e below (B.U.setTop { g with pc := g.pc + 3, stack := v.toList ++ rest }) target → Steps p.tables e below (T.setTop g) target := by
  obtain ⟨mk, methM, hnamed, hmethM, hstM, habM⟩ := Cond.instanceMethod_spec hinst
  obtain ⟨m8, methM', cM, hn8, hmethM', -, -, -, -, -, -, hsigM⟩ := Cond.codeWith_spec hcode
  cases Option.some.inj (hn8.symm.trans hnamed)
  cases hmethM.symm.trans hmethM'
  obtain ⟨c2, r2, m2, q1, q2, q3, q4, kP, hkP, hkPi⟩ := Cond.selects_spec hsel
  cases hcls.symm.trans q1
  cases (State.methodFound?_of_named hnamed hy).symm.trans q2
  cases hnamed.symm.trans q3
  have hselP : selectMethod e.platform s.vm cellB.cls mk = .method mk := by rw [Launch.admits_selectMethod X.admits]; exact q4
  obtain ⟨vm₁, X₁, hstep₁⟩ := X.invokevirtual hexec hown hlink hnamed hmethM hstM hkP hkPi hy (a := b) (cell := cellB) hcell
    (fun z h => by rw [h] at hobj; cases hobj) hselP hmethM habM hkP hkPi (g := g) hg (argsL := argsL) (rest := rest) (hlen _ hsigM) hstack hdg
  obtain ⟨v, B, X', hpost, hsteps⟩ := hK m meth c ⟨T.setVm vm₁, locs, cells, slots⟩ { g with stack := rest } (.invokevirtual index) mk (Value.ref b :: argsL).toArray X₁ hg hsize hdg hW (X₁.named hnamed) (hpre vm₁ X₁.warmed)
  exact ⟨v, vm₁, B, X₁.warmed, X', hpost, fun target h => hstep₁ _ fun acts => by rw [doInvoke_state]; exact hsteps.trans h⟩
abbrev vx_CVW (R : Room) (s : State) (args : Array Value) (own C : String) (index : Nat) (y : MethodName) (bytes : ByteArray) (maxL : Nat) (ret : Option FieldType) (hh : List (Nat × Nat × Nat × Nat)) (ws : List Cond) (rm : Room) (mc ms n : Nat) : Prop :=
  (rm.cells = mc ∧ rm.slots = ms ∧ rm.frames + 1 ≤ R.frames ∧ 8 + (maxL + 11) + rm.locals ≤ R.locals ∧ (∀ w ∈ ws, ∀ (a' : Array Value) (U : State), s.WarmedH U.vm → w.before a' U = true) ∧ Cond.codeWith y bytes maxL ret hh ∈ ws) ∧
  (Cond.codeWith y bytes maxL ret hh).before args s = true ∧ (Cond.initialized y.cls).before args s = true ∧ (y.cls ≠ "java/lang/invoke/MethodHandle" ∧ y.cls ≠ "java/lang/invoke/VarHandle") ∧
  (∀ sig, parseMethodDescriptor y.desc = some sig → n = sig.parameters.length) ∧ (Cond.methodLink own index y).before args s = true ∧ (Cond.instanceMethod y).before args s = true ∧ (Cond.selects C y y).before args s = true
theorem vx_cwVW {own C : String} {index maxL mc ms : Nat} {y : MethodName} {bytes : ByteArray} {ret : Option FieldType} {hh : List (Nat × Nat × Nat × Nat)} {Ts ws ws' : List Cond} {rm : Room} (n : Nat) (ht : ∀ w ∈ Ts, w.before args s = true) (hT : GoodIn Ts (wsV own index C y ws)) (hw : ws = Cond.codeWith y bytes maxL ret hh :: ws') (hrc : rm.cells = mc) (hrs : rm.slots = ms)
    (hd : y.cls = C ∧ y.cls ≠ "java/lang/invoke/MethodHandle" ∧ y.cls ≠ "java/lang/invoke/VarHandle" ∧ (parseMethodDescriptor y.desc).map (fun d => d.parameters.length) = some n) (hR : rm.frames + 1 ≤ R.frames ∧ 8 + (maxL + 11) + rm.locals ≤ R.locals) :
    vx_CVW R s args own C index y bytes maxL ret hh ws rm mc ms n := by
  obtain ⟨hC, hd⟩ := hd
  subst hC
  have ok : ∀ w ∈ wsV own index y.cls y ws, w.before args s = true := fun w h => ht w (hT w h).1
  have hG : GoodIn Ts ws := fun w h => hT w (by unfold wsV; exact List.mem_append_right _ h)
  have hc : Cond.codeWith y bytes maxL ret hh ∈ ws := by rw [hw]; exact List.mem_cons_self
  refine ⟨⟨hrc, hrs, hR.1, hR.2, pay_in ht hG, hc⟩, ht _ (hG _ hc).1, ok _ (by simp [wsV]), ⟨hd.1, hd.2.1⟩, fun sig h => ?_, ok _ (by simp [wsV]), ok _ (by simp [wsV]), ok _ (by simp [wsV])⟩
  have h2 := hd.2.2
  rw [h] at h2
  exact (Option.some.inj h2).symm
theorem vx_runVW {y : MethodName} {bytes cc : ByteArray} {maxL nL mc ms n index : Nat} {ret : Option FieldType} {hh : List (Nat × Nat × Nat × Nat)} {ws : List Cond} {rm : Room} {Pc : Array Value → State → Prop} {Qc : Array Value → State → Outcome → State → Prop} {free : Addr → Prop} {Ts : List Cond} {own C : String} {b : Addr} {As rest : List Value} {g : JFrame}
    (S : CallFix p m c cc nL s args Ts own) (hM : Met l y ws rm Pc Qc mc ms free) (cw : vx_CVW R s args own C index y bytes maxL ret hh ws rm mc ms n) (hp : PreV s H C b Pc As)
    (hg : g.method = m) (hn : As.length = n) (hsize : g.locals.size = nL) (hstack : g.stack = As.reverse ++ .ref b :: rest) (hW : 2 * g.monitorRoom + (rest.map fun v => v.category).sum ≤ 8) (hdg : decode cc g.pc = .ok (.invokevirtual index, 3)) (hf : cells + mc ≤ R.cells ∧ slots + ms ≤ R.slots) :
    va_Run p l e R s m args below meth c H locs cells slots mc ms g rest (Qc (Value.ref b :: As).toArray) free := by
  obtain ⟨⟨hrc, hrs, hfr, hlo, hws, hcw⟩, hcode, hini, hy, hlen, hl, hin, hse⟩ := cw
  have hK : Back l R p e below s args y 3 8 (PreOf R mc ms Pc) (PostOf Qc mc ms free) := va_backW (hh := hh) (bytes := bytes) (maxL := maxL) (ret := ret) hM hp.1 hrc hrs hfr hlo hws hcw (fun a' U hW => word_at hW (Or.inl (by first | rfl | simp [Cond.onTables, Cond.keeps, Cond.steady])) hini)
  obtain ⟨hx, hb, hml, ho, -⟩ := S
  obtain ⟨-, ⟨cellB, hcB, hoB, hclB⟩, hPc⟩ := hp
  intro T hT X
  obtain ⟨v, vm₁, ⟨U', l2, c2, s2⟩, hW₁, X', ⟨g', mk, t, L, e1, e2, hq, h1, hL, h2, h3⟩, st⟩ := vx_callVW X hx (C := C) (hh := hh) (bytes := bytes) (maxL := maxL) (ret := ret) ho hl hin hse hcode hy hK (by rw [hT]; exact hcB) hoB hclB hg (hsize.trans hml.symm) (argsL := As) (rest := rest) (fun sig h => hn.trans (hlen sig h)) hstack hW (by rw [hb]; exact hdg)
    (fun vm₁ hW₁ => ⟨hf.1, hf.2, hPc (T.setVm vm₁) hT hW₁⟩)
  dsimp only [Pt.U, Pt.locs, Pt.cells, Pt.slots] at X' e1 e2 h1 h2 h3 st
  subst h1; subst h2; subst h3
  exact ⟨v, (T.setVm vm₁).calling g' mk (Value.ref b :: As).toArray, t, U', L, hT, X', hL, e1, e2, hq, st⟩
section
variable {y : MethodName} {bytes cc : ByteArray} {maxL nL mc ms n index : Nat} {ret : Option FieldType} {ws : List Cond} {rm : Room} {Pc : Array Value → State → Prop} {Qc : Array Value → State → Outcome → State → Prop} {XC : String → State → State → Prop} {free : Addr → Prop} {Ts : List Cond} {own C : String} {b : Addr} {As rest : List Value} {g : JFrame}
theorem vx_runVX {hh : List (Nat × Nat × Nat × Nat)} (S : CallFix p m c cc nL s args Ts own) (hM : vx_Met l y ws rm Pc Qc XC mc ms free) (cw : vx_CVW R s args own C index y bytes maxL ret hh ws rm mc ms n) (hp : PreV s H C b Pc As)
    (hg : g.method = m) (hn : As.length = n) (hsize : g.locals.size = nL) (hstack : g.stack = As.reverse ++ .ref b :: rest) (hW : 2 * g.monitorRoom + (rest.map fun v => v.category).sum ≤ 8) (hdg : decode cc g.pc = .ok (.invokevirtual index, 3)) (hf : cells + mc ≤ R.cells ∧ slots + ms ≤ R.slots) :
    vx_Run p l e R s m args below meth c H locs cells slots mc ms g rest (Qc (Value.ref b :: As).toArray) XC free := by
  obtain ⟨⟨hrc, hrs, hfr, hlo, hws, hcw⟩, hcode, hini, hy, hlen, hl, hin, hse⟩ := cw
  have hK : vx_Back l R p e below s args y 3 8 (PreOf R mc ms Pc) (PostOf Qc mc ms free) (vx_Post XC mc ms free) := vx_backW (hh := hh) (bytes := bytes) (maxL := maxL) (ret := ret) hM hp.1 hrc hrs hfr hlo hws hcw (fun a' U hW => word_at hW (Or.inl (by first | rfl | simp [Cond.onTables, Cond.keeps, Cond.steady])) hini)
  obtain ⟨hx, hb, hml, ho, -⟩ := S
  obtain ⟨-, ⟨cellB, hcB, hoB, hclB⟩, hPc⟩ := hp
  intro T hT X
  rcases vx_callVX X hx (C := C) (hh := hh) (bytes := bytes) (maxL := maxL) (ret := ret) ho hl hin hse hcode hy hK (by rw [hT]; exact hcB) hoB hclB hg (hsize.trans hml.symm) (argsL := As) (rest := rest) (fun sig h => hn.trans (hlen sig h)) hstack hW (by rw [hb]; exact hdg)
    (fun vm₁ hW₁ => ⟨hf.1, hf.2, hPc (T.setVm vm₁) hT hW₁⟩) with ⟨v, vm₁, ⟨U', l2, c2, s2⟩, hW₁, X', ⟨g', mk, t, L, e1, e2, hq, h1, hL, h2, h3⟩, st⟩ | ⟨q, vm₁, ⟨U', l2, c2, s2⟩, hW₁, X', ⟨g', mk, t, L, E, ce, e1, e2, hq, hce, hcv, hcl, h1, hL, h2, h3⟩, st⟩
  · dsimp only [Pt.U, Pt.locs, Pt.cells, Pt.slots] at X' e1 e2 h1 h2 h3 st
    subst h1; subst h2; subst h3
    exact Or.inl ⟨v, (T.setVm vm₁).calling g' mk (Value.ref b :: As).toArray, t, U', L, hT, X', hL, e1, e2, hq, st⟩
  · dsimp only [Pt.U, Pt.locs, Pt.cells, Pt.slots] at X' e1 e2 h1 h2 h3 st hcl
    subst h1; subst h2; subst h3
    exact Or.inr ⟨q, (T.setVm vm₁).calling g' mk (Value.ref b :: As).toArray, t, U', L, E, ce, hT, X', hL, e1, e2, hq, hce, hcv, vx_cls hW₁ hcl, st⟩
theorem vx_runSX {hh : List (Nat × Nat × Nat × Nat)} (S : CallFix p m c cc nL s args Ts own) (hM : vx_Met l y ws rm Pc Qc XC mc ms free) (cw : vx_CSW R s args own index y bytes maxL ret hh ws rm mc ms n) (hp : PreS s H Pc As)
    (hg : g.method = m) (hn : As.length = n) (hsize : g.locals.size = nL) (hstack : g.stack = As.reverse ++ rest) (hW : 2 * g.monitorRoom + (rest.map fun v => v.category).sum ≤ 8) (hdg : decode cc g.pc = .ok (.invokestatic index, 3)) (hf : cells + mc ≤ R.cells ∧ slots + ms ≤ R.slots) :
    vx_Run p l e R s m args below meth c H locs cells slots mc ms g rest (Qc As.toArray) XC free := by
  obtain ⟨⟨hrc, hrs, hfr, hlo, hws, hcw⟩, hcode, hini, hy, hlen, hl, hstt⟩ := cw
  have hK : vx_Back l R p e below s args y 3 8 (PreOf R mc ms Pc) (PostOf Qc mc ms free) (vx_Post XC mc ms free) := vx_backW (hh := hh) (bytes := bytes) (maxL := maxL) (ret := ret) hM hp.1 hrc hrs hfr hlo hws hcw (fun a' U hW => word_at hW (Or.inl (by first | rfl | simp [Cond.onTables, Cond.keeps, Cond.steady])) hini)
  obtain ⟨hx, hb, hml, ho, -⟩ := S
  intro T hT X
  rcases vx_callSX X hx (hh := hh) (bytes := bytes) (maxL := maxL) (ret := ret) ho hl hstt hini hcode hy hK hg (hsize.trans hml.symm) (argsL := As) (rest := rest) (fun sig h => hn.trans (hlen sig h)) hstack hW (by rw [hb]; exact hdg)
    (fun vm₁ hW₁ => ⟨hf.1, hf.2, hp.2 (T.setVm vm₁) hT hW₁⟩) with ⟨v, vm₁, ⟨U', l2, c2, s2⟩, hW₁, X', ⟨g', mk, t, L, e1, e2, hq, h1, hL, h2, h3⟩, st⟩ | ⟨q, vm₁, ⟨U', l2, c2, s2⟩, hW₁, X', ⟨g', mk, t, L, E, ce, e1, e2, hq, hce, hcv, hcl, h1, hL, h2, h3⟩, st⟩
  · dsimp only [Pt.U, Pt.locs, Pt.cells, Pt.slots] at X' e1 e2 h1 h2 h3 st
    subst h1; subst h2; subst h3
    exact Or.inl ⟨v, (T.setVm vm₁).calling g' mk As.toArray, t, U', L, hT, X', hL, e1, e2, hq, st⟩
  · dsimp only [Pt.U, Pt.locs, Pt.cells, Pt.slots] at X' e1 e2 h1 h2 h3 st hcl
    subst h1; subst h2; subst h3
    exact Or.inr ⟨q, (T.setVm vm₁).calling g' mk As.toArray, t, U', L, E, ce, hT, X', hL, e1, e2, hq, hce, hcv, vx_cls hW₁ hcl, st⟩
end
end VXH
theorem vx_ofWH {l : Launch} {y : MethodName} {ws ws' : List Cond} {rm : Room} {Pc : Array Value → State → Prop} {Qc : Array Value → State → Outcome → State → Prop} {XC : String → State → State → Prop} {mc ms : Nat} {free : Addr → Prop} {cc : ByteArray} {maxL : Nat} {ret : Option FieldType} {hh : List (Nat × Nat × Nat × Nat)}
    (hy : plainName y.cls = true) (hw : ws = Cond.codeWith y cc maxL ret hh :: ws')
    (body : ∀ p e s m args below meth c s₁, BodyLoose p l y (headSpec ws rm) cc maxL ret e s m args below meth c s₁ → c.maxLocals = maxL → Pc args s →
      W p l e (headSpec ws rm).room s m args below meth c s.heap [] 0 0 (vx_MQ below Qc XC args s mc ms free) (entryFrame m args maxL)) : vx_Met l y ws rm Pc Qc XC mc ms free := by
  refine MetFree.of_bodyS (code := cc) (maxLocals := maxL) (ret := ret) hy ?_ ?_
  · intro args s m h hn
    obtain ⟨m9, meth, c, hn9, h1, h2, h3, h4, -, h5, h6, -⟩ := Cond.codeWith_spec (atoms_spec (ws := ws) h _ (by rw [hw]; exact List.mem_cons_self))
    cases hn.symm.trans hn9
    exact ⟨meth, c, h1, h2, h3, h4, h5, h6⟩
  · intro p e s m args below meth c s₁ B hml hP _
    have hh0 : s₁.heap = s.heap := by rw [B.state]; rfl
    obtain ⟨t, a1, o, b1, b2, b3⟩ := body p e s m args below meth c s₁ B hml hP s₁ hh0 (Stand.of_body B)
    exact ⟨t, o, a1, b1, b2, b3⟩
/-! ===== END ===== -/
end
section
/-! ===== BEGIN printed: names, fields, word lists, decode rows ===== -/
def RX0 : String := "LaneCrowds$Crowd"
def TX0 : u_T := fun k => match k with
  | 0 => ("LaneCrowds$Crowd", "place", "I", false)
  | 1 => ("LaneCrowds$Crowd", "people", "I", false)
  | 2 => ("LaneCrowds$Crowd", "burns", "Z", false)
  | 3 => ("LaneCrowds$Crowd", "orders", "[I", true)
  | 4 => ("LaneCrowds$Crowd", "orderCount", "I", false)
  | _ => ("LaneCrowds$Crowd", "missed", "I", false)
def tyX0 : Nat → FieldType := fun k => match k with
  | 0 => .int
  | 1 => .int
  | 2 => .boolean
  | 3 => .array .int
  | 4 => .int
  | _ => .int
abbrev wsX00 : List Cond := u_ws RX0 TX0 6
theorem nmX0 : ∀ a, a < 6 → ∀ b, b < 6 → a ≠ b → (TX0 a).2.1 ≠ (TX0 b).2.1 := by decide +kernel
theorem tyX0_ok : ∀ k, k < 6 → parseFieldDescriptor (TX0 k).2.2.1 = some (tyX0 k) := by decide +kernel
abbrev cX0_init : ByteArray := prog_2_method_1_code
def yX0_init : MethodName := ⟨RX0, "<init>", "()V"⟩
abbrev cX0_isScattered : ByteArray := prog_2_method_2_code
def yX0_isScattered : MethodName := ⟨RX0, "isScattered", "()Z"⟩
abbrev cX0_addOrder : ByteArray := prog_2_method_3_code
def yX0_addOrder : MethodName := ⟨RX0, "addOrder", "(I)V"⟩
abbrev cX0_firstOrder : ByteArray := prog_2_method_4_code
def yX0_firstOrder : MethodName := ⟨RX0, "firstOrder", "()I"⟩
abbrev cX0_dropFirstOrder : ByteArray := prog_2_method_5_code
def yX0_dropFirstOrder : MethodName := ⟨RX0, "dropFirstOrder", "()V"⟩
abbrev cX0_addOrdersTo : ByteArray := prog_2_method_6_code
def yX0_addOrdersTo : MethodName := ⟨RX0, "addOrdersTo", "(J)J"⟩
abbrev cX0_become : ByteArray := prog_2_method_7_code
def yX0_become : MethodName := ⟨RX0, "become", "(LLaneCrowds$Crowd;)V"⟩
def RX1 : String := "LaneCrowds$Night"
def TX1 : u_T := fun k => match k with
  | 0 => ("LaneCrowds$Night", "quarter", "LLaneCrowds$Quarter;", true)
  | 1 => ("LaneCrowds$Night", "crowds", "[LLaneCrowds$Crowd;", true)
  | 2 => ("LaneCrowds$Night", "crowdCount", "I", false)
  | 3 => ("LaneCrowds$Night", "patrols", "[LLaneCrowds$Patrol;", true)
  | 4 => ("LaneCrowds$Night", "patrolCount", "I", false)
  | _ => ("LaneCrowds$Night", "step", "I", false)
def tyX1 : Nat → FieldType := fun k => match k with
  | 0 => .object "LaneCrowds$Quarter"
  | 1 => .array (.object "LaneCrowds$Crowd")
  | 2 => .int
  | 3 => .array (.object "LaneCrowds$Patrol")
  | 4 => .int
  | _ => .int
abbrev wsX10 : List Cond := u_ws RX1 TX1 6
theorem nmX1 : ∀ a, a < 6 → ∀ b, b < 6 → a ≠ b → (TX1 a).2.1 ≠ (TX1 b).2.1 := by decide +kernel
theorem tyX1_ok : ∀ k, k < 6 → parseFieldDescriptor (TX1 k).2.2.1 = some (tyX1 k) := by decide +kernel
abbrev cX1_init : ByteArray := prog_3_method_1_code
def yX1_init : MethodName := ⟨RX1, "<init>", "()V"⟩
abbrev cX1_addCrowd : ByteArray := prog_3_method_2_code
def yX1_addCrowd : MethodName := ⟨RX1, "addCrowd", "(II)I"⟩
abbrev cX1_addPatrol : ByteArray := prog_3_method_3_code
def yX1_addPatrol : MethodName := ⟨RX1, "addPatrol", "(III)I"⟩
abbrev cX1_isTaken : ByteArray := prog_3_method_4_code
def yX1_isTaken : MethodName := ⟨RX1, "isTaken", "(I)Z"⟩
abbrev cX1_goOn : ByteArray := prog_3_method_5_code
def yX1_goOn : MethodName := ⟨RX1, "goOn", "(I)V"⟩
abbrev cX1_obeyOrders : ByteArray := prog_3_method_6_code
def yX1_obeyOrders : MethodName := ⟨RX1, "obeyOrders", "()V"⟩
abbrev cX1_tryOrder : ByteArray := prog_3_method_7_code
def yX1_tryOrder : MethodName := ⟨RX1, "tryOrder", "(LLaneCrowds$Crowd;II)Z"⟩
abbrev cX1_tryGo : ByteArray := prog_3_method_8_code
def yX1_tryGo : MethodName := ⟨RX1, "tryGo", "(LLaneCrowds$Crowd;II)Z"⟩
abbrev cX1_tryRaise : ByteArray := prog_3_method_9_code
def yX1_tryRaise : MethodName := ⟨RX1, "tryRaise", "(LLaneCrowds$Crowd;I)Z"⟩
abbrev cX1_tryPullDown : ByteArray := prog_3_method_10_code
def yX1_tryPullDown : MethodName := ⟨RX1, "tryPullDown", "(I)Z"⟩
abbrev cX1_scatter : ByteArray := prog_3_method_11_code
def yX1_scatter : MethodName := ⟨RX1, "scatter", "()V"⟩
abbrev cX1_isSeen : ByteArray := prog_3_method_12_code
def yX1_isSeen : MethodName := ⟨RX1, "isSeen", "(LLaneCrowds$Patrol;LLaneCrowds$Crowd;)Z"⟩
abbrev cX1_patrolsThatSee : ByteArray := prog_3_method_13_code
def yX1_patrolsThatSee : MethodName := ⟨RX1, "patrolsThatSee", "(LLaneCrowds$Crowd;)I"⟩
abbrev cX1_crowdsSeenBy : ByteArray := prog_3_method_14_code
def yX1_crowdsSeenBy : MethodName := ⟨RX1, "crowdsSeenBy", "(LLaneCrowds$Patrol;)I"⟩
abbrev cX1_crowdsLeft : ByteArray := prog_3_method_15_code
def yX1_crowdsLeft : MethodName := ⟨RX1, "crowdsLeft", "()I"⟩
abbrev cX1_peopleLeft : ByteArray := prog_3_method_16_code
def yX1_peopleLeft : MethodName := ⟨RX1, "peopleLeft", "()I"⟩
abbrev cX1_ordersMissed : ByteArray := prog_3_method_17_code
def yX1_ordersMissed : MethodName := ⟨RX1, "ordersMissed", "()I"⟩
abbrev cX1_crowdNumber : ByteArray := prog_3_method_18_code
def yX1_crowdNumber : MethodName := ⟨RX1, "crowdNumber", "(LLaneCrowds$Crowd;I)I"⟩
abbrev cX1_guardNumber : ByteArray := prog_3_method_19_code
def yX1_guardNumber : MethodName := ⟨RX1, "guardNumber", "(LLaneCrowds$Patrol;I)I"⟩
abbrev cX1_total : ByteArray := prog_3_method_20_code
def yX1_total : MethodName := ⟨RX1, "total", "(I)I"⟩
abbrev cX1_addCrowdTo : ByteArray := prog_3_method_21_code
def yX1_addCrowdTo : MethodName := ⟨RX1, "addCrowdTo", "(JLLaneCrowds$Crowd;)J"⟩
abbrev cX1_addPatrolTo : ByteArray := prog_3_method_22_code
def yX1_addPatrolTo : MethodName := ⟨RX1, "addPatrolTo", "(JLLaneCrowds$Patrol;)J"⟩
abbrev cX1_become : ByteArray := prog_3_method_23_code
def yX1_become : MethodName := ⟨RX1, "become", "(LLaneCrowds$Night;)V"⟩
def RX2 : String := "LaneCrowds$Patrol"
def TX2 : u_T := fun k => match k with
  | 0 => ("LaneCrowds$Patrol", "place", "I", false)
  | 1 => ("LaneCrowds$Patrol", "length", "I", false)
  | 2 => ("LaneCrowds$Patrol", "round", "I", false)
  | _ => ("LaneCrowds$Patrol", "directionsDone", "I", false)
def tyX2 : Nat → FieldType := fun k => match k with
  | 0 => .int
  | 1 => .int
  | 2 => .int
  | _ => .int
abbrev wsX20 : List Cond := u_ws RX2 TX2 4
theorem nmX2 : ∀ a, a < 4 → ∀ b, b < 4 → a ≠ b → (TX2 a).2.1 ≠ (TX2 b).2.1 := by decide +kernel
theorem tyX2_ok : ∀ k, k < 4 → parseFieldDescriptor (TX2 k).2.2.1 = some (tyX2 k) := by decide +kernel
abbrev cX2_init : ByteArray := prog_4_method_1_code
def yX2_init : MethodName := ⟨RX2, "<init>", "()V"⟩
abbrev cX2_nextDirection : ByteArray := prog_4_method_2_code
def yX2_nextDirection : MethodName := ⟨RX2, "nextDirection", "()I"⟩
abbrev cX2_moveOn : ByteArray := prog_4_method_3_code
def yX2_moveOn : MethodName := ⟨RX2, "moveOn", "(LLaneCrowds$Quarter;)V"⟩
abbrev cX2_become : ByteArray := prog_4_method_4_code
def yX2_become : MethodName := ⟨RX2, "become", "(LLaneCrowds$Patrol;)V"⟩
def RX3 : String := "LaneCrowds$Quarter"
def TX3 : u_T := fun k => match k with
  | _ => ("LaneCrowds$Quarter", "cells", "[I", true)
def tyX3 : Nat → FieldType := fun k => match k with
  | _ => .array .int
abbrev wsX30 : List Cond := u_ws RX3 TX3 1
theorem nmX3 : ∀ a, a < 1 → ∀ b, b < 1 → a ≠ b → (TX3 a).2.1 ≠ (TX3 b).2.1 := by decide +kernel
theorem tyX3_ok : ∀ k, k < 1 → parseFieldDescriptor (TX3 k).2.2.1 = some (tyX3 k) := by decide +kernel
abbrev cX3_init : ByteArray := prog_5_method_1_code
def yX3_init : MethodName := ⟨RX3, "<init>", "()V"⟩
abbrev cX3_next : ByteArray := prog_5_method_2_code
def yX3_next : MethodName := ⟨RX3, "next", "(II)I"⟩
abbrev cX3_at : ByteArray := prog_5_method_3_code
def yX3_at : MethodName := ⟨RX3, "at", "(I)I"⟩
abbrev cX3_put : ByteArray := prog_5_method_4_code
def yX3_put : MethodName := ⟨RX3, "put", "(II)V"⟩
abbrev cX3_isFree : ByteArray := prog_5_method_5_code
def yX3_isFree : MethodName := ⟨RX3, "isFree", "(I)Z"⟩
abbrev cX3_cellsWith : ByteArray := prog_5_method_6_code
def yX3_cellsWith : MethodName := ⟨RX3, "cellsWith", "(I)I"⟩
abbrev cX3_barricades : ByteArray := prog_5_method_7_code
def yX3_barricades : MethodName := ⟨RX3, "barricades", "()I"⟩
abbrev cX3_addCellsTo : ByteArray := prog_5_method_8_code
def yX3_addCellsTo : MethodName := ⟨RX3, "addCellsTo", "(J)J"⟩
abbrev cX3_become : ByteArray := prog_5_method_9_code
def yX3_become : MethodName := ⟨RX3, "become", "(LLaneCrowds$Quarter;)V"⟩
def RX4 : String := "LaneCrowds$Ways"
def TX4 : u_T := fun k => match k with
  | 0 => ("LaneCrowds$Ways", "far", "[I", true)
  | 1 => ("LaneCrowds$Ways", "line", "[I", true)
  | 2 => ("LaneCrowds$Ways", "head", "I", false)
  | _ => ("LaneCrowds$Ways", "tail", "I", false)
def tyX4 : Nat → FieldType := fun k => match k with
  | 0 => .array .int
  | 1 => .array .int
  | 2 => .int
  | _ => .int
abbrev wsX40 : List Cond := u_ws RX4 TX4 4
theorem nmX4 : ∀ a, a < 4 → ∀ b, b < 4 → a ≠ b → (TX4 a).2.1 ≠ (TX4 b).2.1 := by decide +kernel
theorem tyX4_ok : ∀ k, k < 4 → parseFieldDescriptor (TX4 k).2.2.1 = some (tyX4 k) := by decide +kernel
abbrev cX4_init : ByteArray := prog_6_method_1_code
def yX4_init : MethodName := ⟨RX4, "<init>", "()V"⟩
abbrev cX4_startAnew : ByteArray := prog_6_method_2_code
def yX4_startAnew : MethodName := ⟨RX4, "startAnew", "()V"⟩
abbrev cX4_fewestSteps : ByteArray := prog_6_method_3_code
def yX4_fewestSteps : MethodName := ⟨RX4, "fewestSteps", "(LLaneCrowds$Quarter;II)I"⟩
abbrev cX4_fewestToShut : ByteArray := prog_6_method_4_code
def yX4_fewestToShut : MethodName := ⟨RX4, "fewestToShut", "(LLaneCrowds$Quarter;)I"⟩
abbrev cX4_leadAround : ByteArray := prog_6_method_5_code
def yX4_leadAround : MethodName := ⟨RX4, "leadAround", "(LLaneCrowds$Quarter;I)V"⟩
abbrev cX4_lead : ByteArray := prog_6_method_6_code
def yX4_lead : MethodName := ⟨RX4, "lead", "(LLaneCrowds$Quarter;II)V"⟩
abbrev cX4_putLast : ByteArray := prog_6_method_7_code
def yX4_putLast : MethodName := ⟨RX4, "putLast", "(II)V"⟩
abbrev cX4_putFirst : ByteArray := prog_6_method_8_code
def yX4_putFirst : MethodName := ⟨RX4, "putFirst", "(II)V"⟩
def RX5 : String := "LaneCrowds"
def TX5 : u_T := fun k => match k with
  | 0 => ("LaneCrowds", "now", "LLaneCrowds$Night;", true)
  | 1 => ("LaneCrowds", "trial", "LLaneCrowds$Night;", true)
  | _ => ("LaneCrowds", "ways", "LLaneCrowds$Ways;", true)
def tyX5 : Nat → FieldType := fun k => match k with
  | 0 => .object "LaneCrowds$Night"
  | 1 => .object "LaneCrowds$Night"
  | _ => .object "LaneCrowds$Ways"
abbrev wsX50 : List Cond := u_ws RX5 TX5 3
theorem nmX5 : ∀ a, a < 3 → ∀ b, b < 3 → a ≠ b → (TX5 a).2.1 ≠ (TX5 b).2.1 := by decide +kernel
theorem tyX5_ok : ∀ k, k < 3 → parseFieldDescriptor (TX5 k).2.2.1 = some (tyX5 k) := by decide +kernel
abbrev cX5_init : ByteArray := prog_1_method_1_code
def yX5_init : MethodName := ⟨RX5, "<init>", "()V"⟩
abbrev cX5_house : ByteArray := prog_1_method_2_code
def yX5_house : MethodName := ⟨RX5, "house", "(II)Z"⟩
abbrev cX5_block : ByteArray := prog_1_method_3_code
def yX5_block : MethodName := ⟨RX5, "block", "(III)I"⟩
abbrev cX5_cell : ByteArray := prog_1_method_4_code
def yX5_cell : MethodName := ⟨RX5, "cell", "(II)I"⟩
abbrev cX5_gather : ByteArray := prog_1_method_5_code
def yX5_gather : MethodName := ⟨RX5, "gather", "(III)I"⟩
abbrev cX5_order : ByteArray := prog_1_method_6_code
def yX5_order : MethodName := ⟨RX5, "order", "(II)I"⟩
abbrev cX5_torch : ByteArray := prog_1_method_7_code
def yX5_torch : MethodName := ⟨RX5, "torch", "(I)Z"⟩
abbrev cX5_patrol : ByteArray := prog_1_method_8_code
def yX5_patrol : MethodName := ⟨RX5, "patrol", "(IIII)I"⟩
abbrev cX5_crowd : ByteArray := prog_1_method_9_code
def yX5_crowd : MethodName := ⟨RX5, "crowd", "(II)I"⟩
abbrev cX5_guard : ByteArray := prog_1_method_10_code
def yX5_guard : MethodName := ⟨RX5, "guard", "(II)I"⟩
abbrev cX5_sees : ByteArray := prog_1_method_11_code
def yX5_sees : MethodName := ⟨RX5, "sees", "(II)Z"⟩
abbrev cX5_count : ByteArray := prog_1_method_12_code
def yX5_count : MethodName := ⟨RX5, "count", "(I)I"⟩
abbrev cX5_way : ByteArray := prog_1_method_13_code
def yX5_way : MethodName := ⟨RX5, "way", "(IIII)I"⟩
abbrev cX5_shuts : ByteArray := prog_1_method_14_code
def yX5_shuts : MethodName := ⟨RX5, "shuts", "()I"⟩
abbrev cX5_pass : ByteArray := prog_1_method_15_code
def yX5_pass : MethodName := ⟨RX5, "pass", "(I)I"⟩
abbrev cX5_foresee : ByteArray := prog_1_method_16_code
def yX5_foresee : MethodName := ⟨RX5, "foresee", "(II)I"⟩
abbrev cX5_advise : ByteArray := prog_1_method_17_code
def yX5_advise : MethodName := ⟨RX5, "advise", "(I)I"⟩
abbrev cX5_mean : ByteArray := prog_1_method_18_code
def yX5_mean : MethodName := ⟨RX5, "mean", "()D"⟩
abbrev cX5_digest : ByteArray := prog_1_method_19_code
def yX5_digest : MethodName := ⟨RX5, "digest", "()J"⟩
abbrev cX5_shutsBehind : ByteArray := prog_1_method_20_code
def yX5_shutsBehind : MethodName := ⟨RX5, "shutsBehind", "(II)I"⟩
abbrev cX5_placeOf : ByteArray := prog_1_method_21_code
def yX5_placeOf : MethodName := ⟨RX5, "placeOf", "(II)I"⟩
abbrev cX5_needCrowd : ByteArray := prog_1_method_22_code
def yX5_needCrowd : MethodName := ⟨RX5, "needCrowd", "(I)V"⟩
abbrev cX5_needPatrol : ByteArray := prog_1_method_23_code
def yX5_needPatrol : MethodName := ⟨RX5, "needPatrol", "(I)V"⟩
abbrev cX5_needWhat : ByteArray := prog_1_method_24_code
def yX5_needWhat : MethodName := ⟨RX5, "needWhat", "(II)V"⟩
abbrev cX5_needSteps : ByteArray := prog_1_method_25_code
def yX5_needSteps : MethodName := ⟨RX5, "needSteps", "(I)V"⟩
def RX6 : String := "LaneCrowdsModel$State"
def TX6 : u_T := fun k => match k with
  | 0 => ("LaneCrowdsModel$State", "step", "I", false)
  | 1 => ("LaneCrowdsModel$State", "cells", "[I", true)
  | 2 => ("LaneCrowdsModel$State", "at", "[I", true)
  | 3 => ("LaneCrowdsModel$State", "people", "[I", true)
  | 4 => ("LaneCrowdsModel$State", "torch", "[I", true)
  | 5 => ("LaneCrowdsModel$State", "many", "[I", true)
  | 6 => ("LaneCrowdsModel$State", "orders", "[I", true)
  | 7 => ("LaneCrowdsModel$State", "missed", "[I", true)
  | 8 => ("LaneCrowdsModel$State", "post", "[I", true)
  | 9 => ("LaneCrowdsModel$State", "next", "[I", true)
  | _ => ("LaneCrowdsModel$State", "this$0", "LLaneCrowdsModel;", true)
def tyX6 : Nat → FieldType := fun k => match k with
  | 0 => .int
  | 1 => .array .int
  | 2 => .array .int
  | 3 => .array .int
  | 4 => .array .int
  | 5 => .array .int
  | 6 => .array .int
  | 7 => .array .int
  | 8 => .array .int
  | 9 => .array .int
  | _ => .object "LaneCrowdsModel"
abbrev wsX60 : List Cond := u_ws RX6 TX6 11
theorem nmX6 : ∀ a, a < 11 → ∀ b, b < 11 → a ≠ b → (TX6 a).2.1 ≠ (TX6 b).2.1 := by decide +kernel
theorem tyX6_ok : ∀ k, k < 11 → parseFieldDescriptor (TX6 k).2.2.1 = some (tyX6 k) := by decide +kernel
abbrev cX6_init : ByteArray := prog_9_method_1_code
def yX6_init : MethodName := ⟨RX6, "<init>", "(LLaneCrowdsModel;)V"⟩
abbrev cX6_copy : ByteArray := prog_9_method_2_code
def yX6_copy : MethodName := ⟨RX6, "copy", "([I[I)V"⟩
abbrev cX6_become : ByteArray := prog_9_method_3_code
def yX6_become : MethodName := ⟨RX6, "become", "(LLaneCrowdsModel$State;)V"⟩
abbrev cX6_isBusy : ByteArray := prog_9_method_4_code
def yX6_isBusy : MethodName := ⟨RX6, "isBusy", "(I)Z"⟩
abbrev cX6_isLane : ByteArray := prog_9_method_5_code
def yX6_isLane : MethodName := ⟨RX6, "isLane", "(I)Z"⟩
abbrev cX6_goes : ByteArray := prog_9_method_6_code
def yX6_goes : MethodName := ⟨RX6, "goes", "(III)Z"⟩
abbrev cX6_raises : ByteArray := prog_9_method_7_code
def yX6_raises : MethodName := ⟨RX6, "raises", "(II)Z"⟩
abbrev cX6_pulls : ByteArray := prog_9_method_8_code
def yX6_pulls : MethodName := ⟨RX6, "pulls", "(I)Z"⟩
abbrev cX6_carriesOut : ByteArray := prog_9_method_9_code
def yX6_carriesOut : MethodName := ⟨RX6, "carriesOut", "(II)Z"⟩
abbrev cX6_act : ByteArray := prog_9_method_10_code
def yX6_act : MethodName := ⟨RX6, "act", "(I)V"⟩
abbrev cX6_patrol : ByteArray := prog_9_method_11_code
def yX6_patrol : MethodName := ⟨RX6, "patrol", "(I)V"⟩
abbrev cX6_sees : ByteArray := prog_9_method_12_code
def yX6_sees : MethodName := ⟨RX6, "sees", "(II)Z"⟩
abbrev cX6_seenBy : ByteArray := prog_9_method_13_code
def yX6_seenBy : MethodName := ⟨RX6, "seenBy", "(I)I"⟩
abbrev cX6_pass : ByteArray := prog_9_method_14_code
def yX6_pass : MethodName := ⟨RX6, "pass", "()V"⟩
abbrev cX6_allPeople : ByteArray := prog_9_method_15_code
def yX6_allPeople : MethodName := ⟨RX6, "allPeople", "()I"⟩
abbrev cX6_barricades : ByteArray := prog_9_method_16_code
def yX6_barricades : MethodName := ⟨RX6, "barricades", "()I"⟩
abbrev cX6_shuts : ByteArray := prog_9_method_17_code
def yX6_shuts : MethodName := ⟨RX6, "shuts", "()I"⟩
abbrev cX6_cost : ByteArray := prog_9_method_18_code
def yX6_cost : MethodName := ⟨RX6, "cost", "(I)I"⟩
abbrev cX6_leastBeside : ByteArray := prog_9_method_19_code
def yX6_leastBeside : MethodName := ⟨RX6, "leastBeside", "(I)I"⟩
def RX7 : String := "LaneCrowdsModel"
def TX7 : u_T := fun k => match k with
  | 0 => ("LaneCrowdsModel", "thrown", "I", false)
  | 1 => ("LaneCrowdsModel", "crowds", "I", false)
  | 2 => ("LaneCrowdsModel", "patrols", "I", false)
  | 3 => ("LaneCrowdsModel", "length", "[I", true)
  | 4 => ("LaneCrowdsModel", "round", "[I", true)
  | 5 => ("LaneCrowdsModel", "few", "[I", true)
  | 6 => ("LaneCrowdsModel", "row", "[I", true)
  | 7 => ("LaneCrowdsModel", "s", "LLaneCrowdsModel$State;", true)
  | _ => ("LaneCrowdsModel", "ahead", "LLaneCrowdsModel$State;", true)
def tyX7 : Nat → FieldType := fun k => match k with
  | 0 => .int
  | 1 => .int
  | 2 => .int
  | 3 => .array .int
  | 4 => .array .int
  | 5 => .array .int
  | 6 => .array .int
  | 7 => .object "LaneCrowdsModel$State"
  | _ => .object "LaneCrowdsModel$State"
abbrev wsX70 : List Cond := u_ws RX7 TX7 9
theorem nmX7 : ∀ a, a < 9 → ∀ b, b < 9 → a ≠ b → (TX7 a).2.1 ≠ (TX7 b).2.1 := by decide +kernel
theorem tyX7_ok : ∀ k, k < 9 → parseFieldDescriptor (TX7 k).2.2.1 = some (tyX7 k) := by decide +kernel
abbrev cX7_init : ByteArray := prog_8_method_1_code
def yX7_init : MethodName := ⟨RX7, "<init>", "()V"⟩
abbrev cX7_thrown : ByteArray := prog_8_method_2_code
def yX7_thrown : MethodName := ⟨RX7, "thrown", "()I"⟩
abbrev cX7_no : ByteArray := prog_8_method_3_code
def yX7_no : MethodName := ⟨RX7, "no", "(I)I"⟩
abbrev cX7_isIn : ByteArray := prog_8_method_4_code
def yX7_isIn : MethodName := ⟨RX7, "isIn", "(III)Z"⟩
abbrev cX7_isCell : ByteArray := prog_8_method_5_code
def yX7_isCell : MethodName := ⟨RX7, "isCell", "(II)Z"⟩
abbrev cX7_isCrowd : ByteArray := prog_8_method_6_code
def yX7_isCrowd : MethodName := ⟨RX7, "isCrowd", "(I)Z"⟩
abbrev cX7_isPatrol : ByteArray := prog_8_method_7_code
def yX7_isPatrol : MethodName := ⟨RX7, "isPatrol", "(I)Z"⟩
abbrev cX7_beside : ByteArray := prog_8_method_8_code
def yX7_beside : MethodName := ⟨RX7, "beside", "(II)I"⟩
abbrev cX7_house : ByteArray := prog_8_method_9_code
def yX7_house : MethodName := ⟨RX7, "house", "(II)Z"⟩
abbrev cX7_block : ByteArray := prog_8_method_10_code
def yX7_block : MethodName := ⟨RX7, "block", "(III)I"⟩
abbrev cX7_cell : ByteArray := prog_8_method_11_code
def yX7_cell : MethodName := ⟨RX7, "cell", "(II)I"⟩
abbrev cX7_gather : ByteArray := prog_8_method_12_code
def yX7_gather : MethodName := ⟨RX7, "gather", "(III)I"⟩
abbrev cX7_order : ByteArray := prog_8_method_13_code
def yX7_order : MethodName := ⟨RX7, "order", "(II)I"⟩
abbrev cX7_torch : ByteArray := prog_8_method_14_code
def yX7_torch : MethodName := ⟨RX7, "torch", "(I)Z"⟩
abbrev cX7_patrol : ByteArray := prog_8_method_15_code
def yX7_patrol : MethodName := ⟨RX7, "patrol", "(IIII)I"⟩
abbrev cX7_crowdTold : ByteArray := prog_8_method_16_code
def yX7_crowdTold : MethodName := ⟨RX7, "crowdTold", "(II)I"⟩
abbrev cX7_crowd : ByteArray := prog_8_method_17_code
def yX7_crowd : MethodName := ⟨RX7, "crowd", "(II)I"⟩
abbrev cX7_guardTold : ByteArray := prog_8_method_18_code
def yX7_guardTold : MethodName := ⟨RX7, "guardTold", "(II)I"⟩
abbrev cX7_guard : ByteArray := prog_8_method_19_code
def yX7_guard : MethodName := ⟨RX7, "guard", "(II)I"⟩
abbrev cX7_sees : ByteArray := prog_8_method_20_code
def yX7_sees : MethodName := ⟨RX7, "sees", "(II)Z"⟩
abbrev cX7_left : ByteArray := prog_8_method_21_code
def yX7_left : MethodName := ⟨RX7, "left", "()I"⟩
abbrev cX7_counted : ByteArray := prog_8_method_22_code
def yX7_counted : MethodName := ⟨RX7, "counted", "(I)I"⟩
abbrev cX7_count : ByteArray := prog_8_method_23_code
def yX7_count : MethodName := ⟨RX7, "count", "(I)I"⟩
abbrev cX7_way : ByteArray := prog_8_method_24_code
def yX7_way : MethodName := ⟨RX7, "way", "(IIII)I"⟩
abbrev cX7_shuts : ByteArray := prog_8_method_25_code
def yX7_shuts : MethodName := ⟨RX7, "shuts", "()I"⟩
abbrev cX7_pass : ByteArray := prog_8_method_26_code
def yX7_pass : MethodName := ⟨RX7, "pass", "(I)I"⟩
abbrev cX7_foresee : ByteArray := prog_8_method_27_code
def yX7_foresee : MethodName := ⟨RX7, "foresee", "(II)I"⟩
abbrev cX7_advise : ByteArray := prog_8_method_28_code
def yX7_advise : MethodName := ⟨RX7, "advise", "(I)I"⟩
abbrev cX7_mean : ByteArray := prog_8_method_29_code
def yX7_mean : MethodName := ⟨RX7, "mean", "()D"⟩
abbrev cX7_digest : ByteArray := prog_8_method_30_code
def yX7_digest : MethodName := ⟨RX7, "digest", "()J"⟩
def RJx145de : String := "java/io/Serializable"
def TJx145de : u_T := fun k => match k with
  | _ => ("", "", "", false)
def tyJx145de : Nat → FieldType := fun k => match k with
  | _ => .int
abbrev wsJx145de0 : List Cond := u_ws RJx145de TJx145de 0
theorem nmJx145de : ∀ a, a < 0 → ∀ b, b < 0 → a ≠ b → (TJx145de a).2.1 ≠ (TJx145de b).2.1 := by decide +kernel
theorem tyJx145de_ok : ∀ k, k < 0 → parseFieldDescriptor (TJx145de k).2.2.1 = some (tyJx145de k) := by decide +kernel
def RJ6 : String := "java/lang/Integer"
def TJ6 : u_T := fun k => match k with
  | _ => ("", "", "", false)
def tyJ6 : Nat → FieldType := fun k => match k with
  | _ => .int
abbrev wsJ60 : List Cond := u_ws RJ6 TJ6 0
theorem nmJ6 : ∀ a, a < 0 → ∀ b, b < 0 → a ≠ b → (TJ6 a).2.1 ≠ (TJ6 b).2.1 := by decide +kernel
theorem tyJ6_ok : ∀ k, k < 0 → parseFieldDescriptor (TJ6 k).2.2.1 = some (tyJ6 k) := by decide +kernel
abbrev cJ6_signum_0f7a4 : ByteArray := prog_14_method_56_code
def yJ6_signum_0f7a4 : MethodName := ⟨RJ6, "signum", "(I)I"⟩
def RJ9 : String := "java/lang/Math"
def TJ9 : u_T := fun k => match k with
  | _ => ("", "", "", false)
def tyJ9 : Nat → FieldType := fun k => match k with
  | _ => .int
abbrev wsJ90 : List Cond := u_ws RJ9 TJ9 0
theorem nmJ9 : ∀ a, a < 0 → ∀ b, b < 0 → a ≠ b → (TJ9 a).2.1 ≠ (TJ9 b).2.1 := by decide +kernel
theorem tyJ9_ok : ∀ k, k < 0 → parseFieldDescriptor (TJ9 k).2.2.1 = some (tyJ9 k) := by decide +kernel
abbrev cJ9_abs_0f7a4 : ByteArray := prog_15_method_59_code
def yJ9_abs_0f7a4 : MethodName := ⟨RJ9, "abs", "(I)I"⟩
abbrev cJ9_max_7cf53 : ByteArray := prog_15_method_65_code
def yJ9_max_7cf53 : MethodName := ⟨RJ9, "max", "(II)I"⟩
abbrev cJ9_min_7cf53 : ByteArray := prog_15_method_69_code
def yJ9_min_7cf53 : MethodName := ⟨RJ9, "min", "(II)I"⟩
def RJ0 : String := "java/lang/String"
def TJ0 : u_T := fun k => match k with
  | _ => ("", "", "", false)
def tyJ0 : Nat → FieldType := fun k => match k with
  | _ => .int
abbrev wsJ00 : List Cond := u_ws RJ0 TJ0 0
theorem nmJ0 : ∀ a, a < 0 → ∀ b, b < 0 → a ≠ b → (TJ0 a).2.1 ≠ (TJ0 b).2.1 := by decide +kernel
theorem tyJ0_ok : ∀ k, k < 0 → parseFieldDescriptor (TJ0 k).2.2.1 = some (tyJ0 k) := by decide +kernel
def RJ10 : String := "java/lang/System"
def TJ10 : u_T := fun k => match k with
  | _ => ("", "", "", false)
def tyJ10 : Nat → FieldType := fun k => match k with
  | _ => .int
abbrev wsJ100 : List Cond := u_ws RJ10 TJ10 0
theorem nmJ10 : ∀ a, a < 0 → ∀ b, b < 0 → a ≠ b → (TJ10 a).2.1 ≠ (TJ10 b).2.1 := by decide +kernel
theorem tyJ10_ok : ∀ k, k < 0 → parseFieldDescriptor (TJ10 k).2.2.1 = some (tyJ10 k) := by decide +kernel
def RJ7 : String := "java/util/Arrays"
def TJ7 : u_T := fun k => match k with
  | _ => ("", "", "", false)
def tyJ7 : Nat → FieldType := fun k => match k with
  | _ => .int
abbrev wsJ70 : List Cond := u_ws RJ7 TJ7 0
theorem nmJ7 : ∀ a, a < 0 → ∀ b, b < 0 → a ≠ b → (TJ7 a).2.1 ≠ (TJ7 b).2.1 := by decide +kernel
theorem tyJ7_ok : ∀ k, k < 0 → parseFieldDescriptor (TJ7 k).2.2.1 = some (tyJ7 k) := by decide +kernel
abbrev cJ7_fill_53178 : ByteArray := prog_20_method_103_code
def yJ7_fill_53178 : MethodName := ⟨RJ7, "fill", "([II)V"⟩
def RL : String := "LaneCrowdsLaw"
abbrev cL_house : ByteArray := method_3_code
def yL_house : MethodName := ⟨RL, "house", "(LLaneCrowds;II[J)I"⟩
abbrev cL_block : ByteArray := method_4_code
def yL_block : MethodName := ⟨RL, "block", "(LLaneCrowds;III[J)I"⟩
abbrev cL_cell : ByteArray := method_5_code
def yL_cell : MethodName := ⟨RL, "cell", "(LLaneCrowds;II[J)I"⟩
abbrev cL_gather : ByteArray := method_6_code
def yL_gather : MethodName := ⟨RL, "gather", "(LLaneCrowds;III[J)I"⟩
abbrev cL_order : ByteArray := method_7_code
def yL_order : MethodName := ⟨RL, "order", "(LLaneCrowds;II[J)I"⟩
abbrev cL_torch : ByteArray := method_8_code
def yL_torch : MethodName := ⟨RL, "torch", "(LLaneCrowds;I[J)I"⟩
abbrev cL_patrol : ByteArray := method_9_code
def yL_patrol : MethodName := ⟨RL, "patrol", "(LLaneCrowds;IIII[J)I"⟩
abbrev cL_crowd : ByteArray := method_10_code
def yL_crowd : MethodName := ⟨RL, "crowd", "(LLaneCrowds;II[J)I"⟩
abbrev cL_guard : ByteArray := method_11_code
def yL_guard : MethodName := ⟨RL, "guard", "(LLaneCrowds;II[J)I"⟩
abbrev cL_sees : ByteArray := method_12_code
def yL_sees : MethodName := ⟨RL, "sees", "(LLaneCrowds;II[J)I"⟩
abbrev cL_count : ByteArray := method_13_code
def yL_count : MethodName := ⟨RL, "count", "(LLaneCrowds;I[J)I"⟩
abbrev cL_way : ByteArray := method_14_code
def yL_way : MethodName := ⟨RL, "way", "(LLaneCrowds;IIII[J)I"⟩
abbrev cL_pass : ByteArray := method_15_code
def yL_pass : MethodName := ⟨RL, "pass", "(LLaneCrowds;I[J)I"⟩
abbrev cL_foresee : ByteArray := method_16_code
def yL_foresee : MethodName := ⟨RL, "foresee", "(LLaneCrowds;II[J)I"⟩
abbrev cL_advise : ByteArray := method_17_code
def yL_advise : MethodName := ⟨RL, "advise", "(LLaneCrowds;I[J)I"⟩
abbrev cL_law : ByteArray := code
def yL_law : MethodName := ⟨RL, "law", "([I)Z"⟩
set_option maxRecDepth 20000 in
abbrev vwCl : List vw_C := [(RX0, TX0, 6), (RX1, TX1, 6), (RX2, TX2, 4), (RX3, TX3, 1), (RX4, TX4, 4), (RX5, TX5, 3), (RX6, TX6, 11), (RX7, TX7, 9)]
end
section
theorem dX0_init_0 : decode cX0_init 0 = .ok (.aload_n 0, 1) := by decide +kernel
theorem dX0_init_1 : decode cX0_init 1 = .ok (.invokespecial 3, 3) := by decide +kernel
theorem dX0_init_4 : decode cX0_init 4 = .ok (.aload_n 0, 1) := by decide +kernel
theorem dX0_init_5 : decode cX0_init 5 = .ok (.bipush 24, 2) := by decide +kernel
theorem dX0_init_7 : decode cX0_init 7 = .ok (.newarray .int, 2) := by decide +kernel
theorem dX0_init_9 : decode cX0_init 9 = .ok (.putfield 9, 3) := by decide +kernel
theorem dX0_init_12 : decode cX0_init 12 = .ok (.return_, 1) := by decide +kernel
theorem dX0_isScattered_0 : decode cX0_isScattered 0 = .ok (.aload_n 0, 1) := by decide +kernel
theorem dX0_isScattered_1 : decode cX0_isScattered 1 = .ok (.getfield 15, 3) := by decide +kernel
theorem dX0_isScattered_4 : decode cX0_isScattered 4 = .ok (.ifCond .ne 7, 3) := by decide +kernel
theorem dX0_isScattered_7 : decode cX0_isScattered 7 = .ok (.iconst 1, 1) := by decide +kernel
theorem dX0_isScattered_8 : decode cX0_isScattered 8 = .ok (.goto 4, 3) := by decide +kernel
theorem dX0_isScattered_11 : decode cX0_isScattered 11 = .ok (.iconst 0, 1) := by decide +kernel
theorem dX0_isScattered_12 : decode cX0_isScattered 12 = .ok (.ireturn, 1) := by decide +kernel
theorem dX0_addOrder_0 : decode cX0_addOrder 0 = .ok (.aload_n 0, 1) := by decide +kernel
theorem dX0_addOrder_1 : decode cX0_addOrder 1 = .ok (.getfield 19, 3) := by decide +kernel
theorem dX0_addOrder_4 : decode cX0_addOrder 4 = .ok (.ifCond .lt 32, 3) := by decide +kernel
theorem dX0_addOrder_7 : decode cX0_addOrder 7 = .ok (.aload_n 0, 1) := by decide +kernel
theorem dX0_addOrder_8 : decode cX0_addOrder 8 = .ok (.getfield 19, 3) := by decide +kernel
theorem dX0_addOrder_11 : decode cX0_addOrder 11 = .ok (.bipush 24, 2) := by decide +kernel
theorem dX0_addOrder_13 : decode cX0_addOrder 13 = .ok (.if_icmp .ge 23, 3) := by decide +kernel
theorem dX0_addOrder_16 : decode cX0_addOrder 16 = .ok (.aload_n 0, 1) := by decide +kernel
theorem dX0_addOrder_17 : decode cX0_addOrder 17 = .ok (.getfield 9, 3) := by decide +kernel
theorem dX0_addOrder_20 : decode cX0_addOrder 20 = .ok (.aload_n 0, 1) := by decide +kernel
theorem dX0_addOrder_21 : decode cX0_addOrder 21 = .ok (.getfield 19, 3) := by decide +kernel
theorem dX0_addOrder_24 : decode cX0_addOrder 24 = .ok (.iload_n 1, 1) := by decide +kernel
theorem dX0_addOrder_25 : decode cX0_addOrder 25 = .ok (.iastore, 1) := by decide +kernel
theorem dX0_addOrder_26 : decode cX0_addOrder 26 = .ok (.aload_n 0, 1) := by decide +kernel
theorem dX0_addOrder_27 : decode cX0_addOrder 27 = .ok (.dup, 1) := by decide +kernel
theorem dX0_addOrder_28 : decode cX0_addOrder 28 = .ok (.getfield 19, 3) := by decide +kernel
theorem dX0_addOrder_31 : decode cX0_addOrder 31 = .ok (.iconst 1, 1) := by decide +kernel
theorem dX0_addOrder_32 : decode cX0_addOrder 32 = .ok (.iadd, 1) := by decide +kernel
theorem dX0_addOrder_33 : decode cX0_addOrder 33 = .ok (.putfield 19, 3) := by decide +kernel
theorem dX0_addOrder_36 : decode cX0_addOrder 36 = .ok (.return_, 1) := by decide +kernel
theorem dX0_firstOrder_0 : decode cX0_firstOrder 0 = .ok (.aload_n 0, 1) := by decide +kernel
theorem dX0_firstOrder_1 : decode cX0_firstOrder 1 = .ok (.getfield 19, 3) := by decide +kernel
theorem dX0_firstOrder_4 : decode cX0_firstOrder 4 = .ok (.ifCond .le 12, 3) := by decide +kernel
theorem dX0_firstOrder_7 : decode cX0_firstOrder 7 = .ok (.aload_n 0, 1) := by decide +kernel
theorem dX0_firstOrder_8 : decode cX0_firstOrder 8 = .ok (.getfield 9, 3) := by decide +kernel
theorem dX0_firstOrder_11 : decode cX0_firstOrder 11 = .ok (.iconst 0, 1) := by decide +kernel
theorem dX0_firstOrder_12 : decode cX0_firstOrder 12 = .ok (.iaload, 1) := by decide +kernel
theorem dX0_firstOrder_13 : decode cX0_firstOrder 13 = .ok (.goto 4, 3) := by decide +kernel
theorem dX0_firstOrder_16 : decode cX0_firstOrder 16 = .ok (.iconst (-1), 1) := by decide +kernel
theorem dX0_firstOrder_17 : decode cX0_firstOrder 17 = .ok (.ireturn, 1) := by decide +kernel
theorem dX0_dropFirstOrder_0 : decode cX0_dropFirstOrder 0 = .ok (.aload_n 0, 1) := by decide +kernel
theorem dX0_dropFirstOrder_1 : decode cX0_dropFirstOrder 1 = .ok (.getfield 19, 3) := by decide +kernel
theorem dX0_dropFirstOrder_4 : decode cX0_dropFirstOrder 4 = .ok (.ifCond .le 39, 3) := by decide +kernel
theorem dX0_dropFirstOrder_7 : decode cX0_dropFirstOrder 7 = .ok (.aload_n 0, 1) := by decide +kernel
theorem dX0_dropFirstOrder_8 : decode cX0_dropFirstOrder 8 = .ok (.getfield 19, 3) := by decide +kernel
theorem dX0_dropFirstOrder_11 : decode cX0_dropFirstOrder 11 = .ok (.bipush 24, 2) := by decide +kernel
theorem dX0_dropFirstOrder_13 : decode cX0_dropFirstOrder 13 = .ok (.if_icmp .gt 30, 3) := by decide +kernel
theorem dX0_dropFirstOrder_16 : decode cX0_dropFirstOrder 16 = .ok (.aload_n 0, 1) := by decide +kernel
theorem dX0_dropFirstOrder_17 : decode cX0_dropFirstOrder 17 = .ok (.dup, 1) := by decide +kernel
theorem dX0_dropFirstOrder_18 : decode cX0_dropFirstOrder 18 = .ok (.getfield 19, 3) := by decide +kernel
theorem dX0_dropFirstOrder_21 : decode cX0_dropFirstOrder 21 = .ok (.iconst 1, 1) := by decide +kernel
theorem dX0_dropFirstOrder_22 : decode cX0_dropFirstOrder 22 = .ok (.isub, 1) := by decide +kernel
theorem dX0_dropFirstOrder_23 : decode cX0_dropFirstOrder 23 = .ok (.putfield 19, 3) := by decide +kernel
theorem dX0_dropFirstOrder_26 : decode cX0_dropFirstOrder 26 = .ok (.aload_n 0, 1) := by decide +kernel
theorem dX0_dropFirstOrder_27 : decode cX0_dropFirstOrder 27 = .ok (.getfield 9, 3) := by decide +kernel
theorem dX0_dropFirstOrder_30 : decode cX0_dropFirstOrder 30 = .ok (.iconst 1, 1) := by decide +kernel
theorem dX0_dropFirstOrder_31 : decode cX0_dropFirstOrder 31 = .ok (.aload_n 0, 1) := by decide +kernel
theorem dX0_dropFirstOrder_32 : decode cX0_dropFirstOrder 32 = .ok (.getfield 9, 3) := by decide +kernel
theorem dX0_dropFirstOrder_35 : decode cX0_dropFirstOrder 35 = .ok (.iconst 0, 1) := by decide +kernel
theorem dX0_dropFirstOrder_36 : decode cX0_dropFirstOrder 36 = .ok (.aload_n 0, 1) := by decide +kernel
theorem dX0_dropFirstOrder_37 : decode cX0_dropFirstOrder 37 = .ok (.getfield 19, 3) := by decide +kernel
theorem dX0_dropFirstOrder_40 : decode cX0_dropFirstOrder 40 = .ok (.invokestatic 22, 3) := by decide +kernel
theorem dX0_dropFirstOrder_43 : decode cX0_dropFirstOrder 43 = .ok (.return_, 1) := by decide +kernel
theorem dX0_addOrdersTo_0 : decode cX0_addOrdersTo 0 = .ok (.lload_n 1, 1) := by decide +kernel
theorem dX0_addOrdersTo_1 : decode cX0_addOrdersTo 1 = .ok (.lstore_n 3, 1) := by decide +kernel
theorem dX0_addOrdersTo_2 : decode cX0_addOrdersTo 2 = .ok (.iconst 0, 1) := by decide +kernel
theorem dX0_addOrdersTo_3 : decode cX0_addOrdersTo 3 = .ok (.istore 5, 2) := by decide +kernel
theorem dX0_addOrdersTo_5 : decode cX0_addOrdersTo 5 = .ok (.iload 5, 2) := by decide +kernel
theorem dX0_addOrdersTo_7 : decode cX0_addOrdersTo 7 = .ok (.aload_n 0, 1) := by decide +kernel
theorem dX0_addOrdersTo_8 : decode cX0_addOrdersTo 8 = .ok (.getfield 19, 3) := by decide +kernel
theorem dX0_addOrdersTo_11 : decode cX0_addOrdersTo 11 = .ok (.if_icmp .ge 31, 3) := by decide +kernel
theorem dX0_addOrdersTo_14 : decode cX0_addOrdersTo 14 = .ok (.iload 5, 2) := by decide +kernel
theorem dX0_addOrdersTo_16 : decode cX0_addOrdersTo 16 = .ok (.bipush 24, 2) := by decide +kernel
theorem dX0_addOrdersTo_18 : decode cX0_addOrdersTo 18 = .ok (.if_icmp .ge 24, 3) := by decide +kernel
theorem dX0_addOrdersTo_21 : decode cX0_addOrdersTo 21 = .ok (.lload_n 3, 1) := by decide +kernel
theorem dX0_addOrdersTo_22 : decode cX0_addOrdersTo 22 = .ok (.ldc2_w 28, 3) := by decide +kernel
theorem dX0_addOrdersTo_25 : decode cX0_addOrdersTo 25 = .ok (.lmul, 1) := by decide +kernel
theorem dX0_addOrdersTo_26 : decode cX0_addOrdersTo 26 = .ok (.aload_n 0, 1) := by decide +kernel
theorem dX0_addOrdersTo_27 : decode cX0_addOrdersTo 27 = .ok (.getfield 9, 3) := by decide +kernel
theorem dX0_addOrdersTo_30 : decode cX0_addOrdersTo 30 = .ok (.iload 5, 2) := by decide +kernel
theorem dX0_addOrdersTo_32 : decode cX0_addOrdersTo 32 = .ok (.iaload, 1) := by decide +kernel
theorem dX0_addOrdersTo_33 : decode cX0_addOrdersTo 33 = .ok (.i2l, 1) := by decide +kernel
theorem dX0_addOrdersTo_34 : decode cX0_addOrdersTo 34 = .ok (.ladd, 1) := by decide +kernel
theorem dX0_addOrdersTo_35 : decode cX0_addOrdersTo 35 = .ok (.lstore_n 3, 1) := by decide +kernel
theorem dX0_addOrdersTo_36 : decode cX0_addOrdersTo 36 = .ok (.iinc 5 1, 3) := by decide +kernel
theorem dX0_addOrdersTo_39 : decode cX0_addOrdersTo 39 = .ok (.goto (-34), 3) := by decide +kernel
theorem dX0_addOrdersTo_42 : decode cX0_addOrdersTo 42 = .ok (.lload_n 3, 1) := by decide +kernel
theorem dX0_addOrdersTo_43 : decode cX0_addOrdersTo 43 = .ok (.lreturn, 1) := by decide +kernel
theorem dX0_become_0 : decode cX0_become 0 = .ok (.aload_n 0, 1) := by decide +kernel
theorem dX0_become_1 : decode cX0_become 1 = .ok (.aload_n 1, 1) := by decide +kernel
theorem dX0_become_2 : decode cX0_become 2 = .ok (.getfield 30, 3) := by decide +kernel
theorem dX0_become_5 : decode cX0_become 5 = .ok (.putfield 30, 3) := by decide +kernel
theorem dX0_become_8 : decode cX0_become 8 = .ok (.aload_n 0, 1) := by decide +kernel
theorem dX0_become_9 : decode cX0_become 9 = .ok (.aload_n 1, 1) := by decide +kernel
theorem dX0_become_10 : decode cX0_become 10 = .ok (.getfield 15, 3) := by decide +kernel
theorem dX0_become_13 : decode cX0_become 13 = .ok (.putfield 15, 3) := by decide +kernel
theorem dX0_become_16 : decode cX0_become 16 = .ok (.aload_n 0, 1) := by decide +kernel
theorem dX0_become_17 : decode cX0_become 17 = .ok (.aload_n 1, 1) := by decide +kernel
theorem dX0_become_18 : decode cX0_become 18 = .ok (.getfield 33, 3) := by decide +kernel
theorem dX0_become_21 : decode cX0_become 21 = .ok (.putfield 33, 3) := by decide +kernel
theorem dX0_become_24 : decode cX0_become 24 = .ok (.aload_n 1, 1) := by decide +kernel
theorem dX0_become_25 : decode cX0_become 25 = .ok (.getfield 9, 3) := by decide +kernel
theorem dX0_become_28 : decode cX0_become 28 = .ok (.iconst 0, 1) := by decide +kernel
theorem dX0_become_29 : decode cX0_become 29 = .ok (.aload_n 0, 1) := by decide +kernel
theorem dX0_become_30 : decode cX0_become 30 = .ok (.getfield 9, 3) := by decide +kernel
theorem dX0_become_33 : decode cX0_become 33 = .ok (.iconst 0, 1) := by decide +kernel
theorem dX0_become_34 : decode cX0_become 34 = .ok (.bipush 24, 2) := by decide +kernel
theorem dX0_become_36 : decode cX0_become 36 = .ok (.invokestatic 22, 3) := by decide +kernel
theorem dX0_become_39 : decode cX0_become 39 = .ok (.aload_n 0, 1) := by decide +kernel
theorem dX0_become_40 : decode cX0_become 40 = .ok (.aload_n 1, 1) := by decide +kernel
theorem dX0_become_41 : decode cX0_become 41 = .ok (.getfield 19, 3) := by decide +kernel
theorem dX0_become_44 : decode cX0_become 44 = .ok (.putfield 19, 3) := by decide +kernel
theorem dX0_become_47 : decode cX0_become 47 = .ok (.aload_n 0, 1) := by decide +kernel
theorem dX0_become_48 : decode cX0_become 48 = .ok (.aload_n 1, 1) := by decide +kernel
theorem dX0_become_49 : decode cX0_become 49 = .ok (.getfield 37, 3) := by decide +kernel
theorem dX0_become_52 : decode cX0_become 52 = .ok (.putfield 37, 3) := by decide +kernel
theorem dX0_become_55 : decode cX0_become 55 = .ok (.return_, 1) := by decide +kernel
theorem dX1_init_0 : decode cX1_init 0 = .ok (.aload_n 0, 1) := by decide +kernel
theorem dX1_init_1 : decode cX1_init 1 = .ok (.invokespecial 3, 3) := by decide +kernel
theorem dX1_init_4 : decode cX1_init 4 = .ok (.aload_n 0, 1) := by decide +kernel
theorem dX1_init_5 : decode cX1_init 5 = .ok (.new 9, 3) := by decide +kernel
theorem dX1_init_8 : decode cX1_init 8 = .ok (.dup, 1) := by decide +kernel
theorem dX1_init_9 : decode cX1_init 9 = .ok (.invokespecial 11, 3) := by decide +kernel
theorem dX1_init_12 : decode cX1_init 12 = .ok (.putfield 12, 3) := by decide +kernel
theorem dX1_init_15 : decode cX1_init 15 = .ok (.aload_n 0, 1) := by decide +kernel
theorem dX1_init_16 : decode cX1_init 16 = .ok (.bipush 6, 2) := by decide +kernel
theorem dX1_init_18 : decode cX1_init 18 = .ok (.anewarray 18, 3) := by decide +kernel
theorem dX1_init_21 : decode cX1_init 21 = .ok (.putfield 20, 3) := by decide +kernel
theorem dX1_init_24 : decode cX1_init 24 = .ok (.iconst 0, 1) := by decide +kernel
theorem dX1_init_25 : decode cX1_init 25 = .ok (.istore_n 1, 1) := by decide +kernel
theorem dX1_init_26 : decode cX1_init 26 = .ok (.iload_n 1, 1) := by decide +kernel
theorem dX1_init_27 : decode cX1_init 27 = .ok (.bipush 6, 2) := by decide +kernel
theorem dX1_init_29 : decode cX1_init 29 = .ok (.if_icmp .ge 22, 3) := by decide +kernel
theorem dX1_init_32 : decode cX1_init 32 = .ok (.aload_n 0, 1) := by decide +kernel
theorem dX1_init_33 : decode cX1_init 33 = .ok (.getfield 20, 3) := by decide +kernel
theorem dX1_init_36 : decode cX1_init 36 = .ok (.iload_n 1, 1) := by decide +kernel
theorem dX1_init_37 : decode cX1_init 37 = .ok (.new 18, 3) := by decide +kernel
theorem dX1_init_40 : decode cX1_init 40 = .ok (.dup, 1) := by decide +kernel
theorem dX1_init_41 : decode cX1_init 41 = .ok (.invokespecial 24, 3) := by decide +kernel
theorem dX1_init_44 : decode cX1_init 44 = .ok (.aastore, 1) := by decide +kernel
theorem dX1_init_45 : decode cX1_init 45 = .ok (.iinc 1 1, 3) := by decide +kernel
theorem dX1_init_48 : decode cX1_init 48 = .ok (.goto (-22), 3) := by decide +kernel
theorem dX1_init_51 : decode cX1_init 51 = .ok (.aload_n 0, 1) := by decide +kernel
theorem dX1_init_52 : decode cX1_init 52 = .ok (.iconst 3, 1) := by decide +kernel
theorem dX1_init_53 : decode cX1_init 53 = .ok (.anewarray 25, 3) := by decide +kernel
theorem dX1_init_56 : decode cX1_init 56 = .ok (.putfield 27, 3) := by decide +kernel
theorem dX1_init_59 : decode cX1_init 59 = .ok (.iconst 0, 1) := by decide +kernel
theorem dX1_init_60 : decode cX1_init 60 = .ok (.istore_n 1, 1) := by decide +kernel
theorem dX1_init_61 : decode cX1_init 61 = .ok (.iload_n 1, 1) := by decide +kernel
theorem dX1_init_62 : decode cX1_init 62 = .ok (.iconst 3, 1) := by decide +kernel
theorem dX1_init_63 : decode cX1_init 63 = .ok (.if_icmp .ge 22, 3) := by decide +kernel
theorem dX1_init_66 : decode cX1_init 66 = .ok (.aload_n 0, 1) := by decide +kernel
theorem dX1_init_67 : decode cX1_init 67 = .ok (.getfield 27, 3) := by decide +kernel
theorem dX1_init_70 : decode cX1_init 70 = .ok (.iload_n 1, 1) := by decide +kernel
theorem dX1_init_71 : decode cX1_init 71 = .ok (.new 25, 3) := by decide +kernel
theorem dX1_init_74 : decode cX1_init 74 = .ok (.dup, 1) := by decide +kernel
theorem dX1_init_75 : decode cX1_init 75 = .ok (.invokespecial 31, 3) := by decide +kernel
theorem dX1_init_78 : decode cX1_init 78 = .ok (.aastore, 1) := by decide +kernel
theorem dX1_init_79 : decode cX1_init 79 = .ok (.iinc 1 1, 3) := by decide +kernel
theorem dX1_init_82 : decode cX1_init 82 = .ok (.goto (-21), 3) := by decide +kernel
theorem dX1_init_85 : decode cX1_init 85 = .ok (.return_, 1) := by decide +kernel
theorem dX1_addCrowd_0 : decode cX1_addCrowd 0 = .ok (.aload_n 0, 1) := by decide +kernel
theorem dX1_addCrowd_1 : decode cX1_addCrowd 1 = .ok (.getfield 32, 3) := by decide +kernel
theorem dX1_addCrowd_4 : decode cX1_addCrowd 4 = .ok (.istore_n 3, 1) := by decide +kernel
theorem dX1_addCrowd_5 : decode cX1_addCrowd 5 = .ok (.iload_n 3, 1) := by decide +kernel
theorem dX1_addCrowd_6 : decode cX1_addCrowd 6 = .ok (.bipush 6, 2) := by decide +kernel
theorem dX1_addCrowd_8 : decode cX1_addCrowd 8 = .ok (.if_icmp .ge 43, 3) := by decide +kernel
theorem dX1_addCrowd_11 : decode cX1_addCrowd 11 = .ok (.aload_n 0, 1) := by decide +kernel
theorem dX1_addCrowd_12 : decode cX1_addCrowd 12 = .ok (.getfield 20, 3) := by decide +kernel
theorem dX1_addCrowd_15 : decode cX1_addCrowd 15 = .ok (.iload_n 3, 1) := by decide +kernel
theorem dX1_addCrowd_16 : decode cX1_addCrowd 16 = .ok (.aaload, 1) := by decide +kernel
theorem dX1_addCrowd_17 : decode cX1_addCrowd 17 = .ok (.iload_n 1, 1) := by decide +kernel
theorem dX1_addCrowd_18 : decode cX1_addCrowd 18 = .ok (.putfield 36, 3) := by decide +kernel
theorem dX1_addCrowd_21 : decode cX1_addCrowd 21 = .ok (.aload_n 0, 1) := by decide +kernel
theorem dX1_addCrowd_22 : decode cX1_addCrowd 22 = .ok (.getfield 20, 3) := by decide +kernel
theorem dX1_addCrowd_25 : decode cX1_addCrowd 25 = .ok (.iload_n 3, 1) := by decide +kernel
theorem dX1_addCrowd_26 : decode cX1_addCrowd 26 = .ok (.aaload, 1) := by decide +kernel
theorem dX1_addCrowd_27 : decode cX1_addCrowd 27 = .ok (.iload_n 2, 1) := by decide +kernel
theorem dX1_addCrowd_28 : decode cX1_addCrowd 28 = .ok (.putfield 39, 3) := by decide +kernel
theorem dX1_addCrowd_31 : decode cX1_addCrowd 31 = .ok (.aload_n 0, 1) := by decide +kernel
theorem dX1_addCrowd_32 : decode cX1_addCrowd 32 = .ok (.getfield 20, 3) := by decide +kernel
theorem dX1_addCrowd_35 : decode cX1_addCrowd 35 = .ok (.iload_n 3, 1) := by decide +kernel
theorem dX1_addCrowd_36 : decode cX1_addCrowd 36 = .ok (.aaload, 1) := by decide +kernel
theorem dX1_addCrowd_37 : decode cX1_addCrowd 37 = .ok (.iconst 1, 1) := by decide +kernel
theorem dX1_addCrowd_38 : decode cX1_addCrowd 38 = .ok (.putfield 42, 3) := by decide +kernel
theorem dX1_addCrowd_41 : decode cX1_addCrowd 41 = .ok (.aload_n 0, 1) := by decide +kernel
theorem dX1_addCrowd_42 : decode cX1_addCrowd 42 = .ok (.dup, 1) := by decide +kernel
theorem dX1_addCrowd_43 : decode cX1_addCrowd 43 = .ok (.getfield 32, 3) := by decide +kernel
theorem dX1_addCrowd_46 : decode cX1_addCrowd 46 = .ok (.iconst 1, 1) := by decide +kernel
theorem dX1_addCrowd_47 : decode cX1_addCrowd 47 = .ok (.iadd, 1) := by decide +kernel
theorem dX1_addCrowd_48 : decode cX1_addCrowd 48 = .ok (.putfield 32, 3) := by decide +kernel
theorem dX1_addCrowd_51 : decode cX1_addCrowd 51 = .ok (.iload_n 3, 1) := by decide +kernel
theorem dX1_addCrowd_52 : decode cX1_addCrowd 52 = .ok (.ireturn, 1) := by decide +kernel
theorem dX1_addPatrol_0 : decode cX1_addPatrol 0 = .ok (.aload_n 0, 1) := by decide +kernel
theorem dX1_addPatrol_1 : decode cX1_addPatrol 1 = .ok (.getfield 46, 3) := by decide +kernel
theorem dX1_addPatrol_4 : decode cX1_addPatrol 4 = .ok (.istore 4, 2) := by decide +kernel
theorem dX1_addPatrol_6 : decode cX1_addPatrol 6 = .ok (.iload 4, 2) := by decide +kernel
theorem dX1_addPatrol_8 : decode cX1_addPatrol 8 = .ok (.iconst 3, 1) := by decide +kernel
theorem dX1_addPatrol_9 : decode cX1_addPatrol 9 = .ok (.if_icmp .ge 46, 3) := by decide +kernel
theorem dX1_addPatrol_12 : decode cX1_addPatrol 12 = .ok (.aload_n 0, 1) := by decide +kernel
theorem dX1_addPatrol_13 : decode cX1_addPatrol 13 = .ok (.getfield 27, 3) := by decide +kernel
theorem dX1_addPatrol_16 : decode cX1_addPatrol 16 = .ok (.iload 4, 2) := by decide +kernel
theorem dX1_addPatrol_18 : decode cX1_addPatrol 18 = .ok (.aaload, 1) := by decide +kernel
theorem dX1_addPatrol_19 : decode cX1_addPatrol 19 = .ok (.iload_n 1, 1) := by decide +kernel
theorem dX1_addPatrol_20 : decode cX1_addPatrol 20 = .ok (.putfield 49, 3) := by decide +kernel
theorem dX1_addPatrol_23 : decode cX1_addPatrol 23 = .ok (.aload_n 0, 1) := by decide +kernel
theorem dX1_addPatrol_24 : decode cX1_addPatrol 24 = .ok (.getfield 27, 3) := by decide +kernel
theorem dX1_addPatrol_27 : decode cX1_addPatrol 27 = .ok (.iload 4, 2) := by decide +kernel
theorem dX1_addPatrol_29 : decode cX1_addPatrol 29 = .ok (.aaload, 1) := by decide +kernel
theorem dX1_addPatrol_30 : decode cX1_addPatrol 30 = .ok (.iload_n 2, 1) := by decide +kernel
theorem dX1_addPatrol_31 : decode cX1_addPatrol 31 = .ok (.putfield 50, 3) := by decide +kernel
theorem dX1_addPatrol_34 : decode cX1_addPatrol 34 = .ok (.aload_n 0, 1) := by decide +kernel
theorem dX1_addPatrol_35 : decode cX1_addPatrol 35 = .ok (.getfield 27, 3) := by decide +kernel
theorem dX1_addPatrol_38 : decode cX1_addPatrol 38 = .ok (.iload 4, 2) := by decide +kernel
theorem dX1_addPatrol_40 : decode cX1_addPatrol 40 = .ok (.aaload, 1) := by decide +kernel
theorem dX1_addPatrol_41 : decode cX1_addPatrol 41 = .ok (.iload_n 3, 1) := by decide +kernel
theorem dX1_addPatrol_42 : decode cX1_addPatrol 42 = .ok (.putfield 53, 3) := by decide +kernel
theorem dX1_addPatrol_45 : decode cX1_addPatrol 45 = .ok (.aload_n 0, 1) := by decide +kernel
theorem dX1_addPatrol_46 : decode cX1_addPatrol 46 = .ok (.dup, 1) := by decide +kernel
theorem dX1_addPatrol_47 : decode cX1_addPatrol 47 = .ok (.getfield 46, 3) := by decide +kernel
theorem dX1_addPatrol_50 : decode cX1_addPatrol 50 = .ok (.iconst 1, 1) := by decide +kernel
theorem dX1_addPatrol_51 : decode cX1_addPatrol 51 = .ok (.iadd, 1) := by decide +kernel
theorem dX1_addPatrol_52 : decode cX1_addPatrol 52 = .ok (.putfield 46, 3) := by decide +kernel
theorem dX1_addPatrol_55 : decode cX1_addPatrol 55 = .ok (.iload 4, 2) := by decide +kernel
theorem dX1_addPatrol_57 : decode cX1_addPatrol 57 = .ok (.ireturn, 1) := by decide +kernel
theorem dX1_isTaken_0 : decode cX1_isTaken 0 = .ok (.iconst 0, 1) := by decide +kernel
theorem dX1_isTaken_1 : decode cX1_isTaken 1 = .ok (.istore_n 2, 1) := by decide +kernel
theorem dX1_isTaken_2 : decode cX1_isTaken 2 = .ok (.iload_n 2, 1) := by decide +kernel
theorem dX1_isTaken_3 : decode cX1_isTaken 3 = .ok (.aload_n 0, 1) := by decide +kernel
theorem dX1_isTaken_4 : decode cX1_isTaken 4 = .ok (.getfield 32, 3) := by decide +kernel
theorem dX1_isTaken_7 : decode cX1_isTaken 7 = .ok (.if_icmp .ge 36, 3) := by decide +kernel
theorem dX1_isTaken_10 : decode cX1_isTaken 10 = .ok (.aload_n 0, 1) := by decide +kernel
theorem dX1_isTaken_11 : decode cX1_isTaken 11 = .ok (.getfield 20, 3) := by decide +kernel
theorem dX1_isTaken_14 : decode cX1_isTaken 14 = .ok (.iload_n 2, 1) := by decide +kernel
theorem dX1_isTaken_15 : decode cX1_isTaken 15 = .ok (.aaload, 1) := by decide +kernel
theorem dX1_isTaken_16 : decode cX1_isTaken 16 = .ok (.getfield 39, 3) := by decide +kernel
theorem dX1_isTaken_19 : decode cX1_isTaken 19 = .ok (.ifCond .le 18, 3) := by decide +kernel
theorem dX1_isTaken_22 : decode cX1_isTaken 22 = .ok (.aload_n 0, 1) := by decide +kernel
theorem dX1_isTaken_23 : decode cX1_isTaken 23 = .ok (.getfield 20, 3) := by decide +kernel
theorem dX1_isTaken_26 : decode cX1_isTaken 26 = .ok (.iload_n 2, 1) := by decide +kernel
theorem dX1_isTaken_27 : decode cX1_isTaken 27 = .ok (.aaload, 1) := by decide +kernel
theorem dX1_isTaken_28 : decode cX1_isTaken 28 = .ok (.getfield 36, 3) := by decide +kernel
theorem dX1_isTaken_31 : decode cX1_isTaken 31 = .ok (.iload_n 1, 1) := by decide +kernel
theorem dX1_isTaken_32 : decode cX1_isTaken 32 = .ok (.if_icmp .ne 5, 3) := by decide +kernel
theorem dX1_isTaken_35 : decode cX1_isTaken 35 = .ok (.iconst 1, 1) := by decide +kernel
theorem dX1_isTaken_36 : decode cX1_isTaken 36 = .ok (.ireturn, 1) := by decide +kernel
theorem dX1_isTaken_37 : decode cX1_isTaken 37 = .ok (.iinc 2 1, 3) := by decide +kernel
theorem dX1_isTaken_40 : decode cX1_isTaken 40 = .ok (.goto (-38), 3) := by decide +kernel
theorem dX1_isTaken_43 : decode cX1_isTaken 43 = .ok (.iconst 0, 1) := by decide +kernel
theorem dX1_isTaken_44 : decode cX1_isTaken 44 = .ok (.istore_n 2, 1) := by decide +kernel
theorem dX1_isTaken_45 : decode cX1_isTaken 45 = .ok (.iload_n 2, 1) := by decide +kernel
theorem dX1_isTaken_46 : decode cX1_isTaken 46 = .ok (.aload_n 0, 1) := by decide +kernel
theorem dX1_isTaken_47 : decode cX1_isTaken 47 = .ok (.getfield 46, 3) := by decide +kernel
theorem dX1_isTaken_50 : decode cX1_isTaken 50 = .ok (.if_icmp .ge 24, 3) := by decide +kernel
theorem dX1_isTaken_53 : decode cX1_isTaken 53 = .ok (.aload_n 0, 1) := by decide +kernel
theorem dX1_isTaken_54 : decode cX1_isTaken 54 = .ok (.getfield 27, 3) := by decide +kernel
theorem dX1_isTaken_57 : decode cX1_isTaken 57 = .ok (.iload_n 2, 1) := by decide +kernel
theorem dX1_isTaken_58 : decode cX1_isTaken 58 = .ok (.aaload, 1) := by decide +kernel
theorem dX1_isTaken_59 : decode cX1_isTaken 59 = .ok (.getfield 49, 3) := by decide +kernel
theorem dX1_isTaken_62 : decode cX1_isTaken 62 = .ok (.iload_n 1, 1) := by decide +kernel
theorem dX1_isTaken_63 : decode cX1_isTaken 63 = .ok (.if_icmp .ne 5, 3) := by decide +kernel
theorem dX1_isTaken_66 : decode cX1_isTaken 66 = .ok (.iconst 1, 1) := by decide +kernel
theorem dX1_isTaken_67 : decode cX1_isTaken 67 = .ok (.ireturn, 1) := by decide +kernel
theorem dX1_isTaken_68 : decode cX1_isTaken 68 = .ok (.iinc 2 1, 3) := by decide +kernel
theorem dX1_isTaken_71 : decode cX1_isTaken 71 = .ok (.goto (-26), 3) := by decide +kernel
theorem dX1_isTaken_74 : decode cX1_isTaken 74 = .ok (.iconst 0, 1) := by decide +kernel
theorem dX1_isTaken_75 : decode cX1_isTaken 75 = .ok (.ireturn, 1) := by decide +kernel
theorem dX1_goOn_0 : decode cX1_goOn 0 = .ok (.iconst 0, 1) := by decide +kernel
theorem dX1_goOn_1 : decode cX1_goOn 1 = .ok (.istore_n 2, 1) := by decide +kernel
theorem dX1_goOn_2 : decode cX1_goOn 2 = .ok (.iload_n 2, 1) := by decide +kernel
theorem dX1_goOn_3 : decode cX1_goOn 3 = .ok (.iload_n 1, 1) := by decide +kernel
theorem dX1_goOn_4 : decode cX1_goOn 4 = .ok (.if_icmp .ge 56, 3) := by decide +kernel
theorem dX1_goOn_7 : decode cX1_goOn 7 = .ok (.aload_n 0, 1) := by decide +kernel
theorem dX1_goOn_8 : decode cX1_goOn 8 = .ok (.invokevirtual 56, 3) := by decide +kernel
theorem dX1_goOn_11 : decode cX1_goOn 11 = .ok (.iconst 0, 1) := by decide +kernel
theorem dX1_goOn_12 : decode cX1_goOn 12 = .ok (.istore_n 3, 1) := by decide +kernel
theorem dX1_goOn_13 : decode cX1_goOn 13 = .ok (.iload_n 3, 1) := by decide +kernel
theorem dX1_goOn_14 : decode cX1_goOn 14 = .ok (.aload_n 0, 1) := by decide +kernel
theorem dX1_goOn_15 : decode cX1_goOn 15 = .ok (.getfield 46, 3) := by decide +kernel
theorem dX1_goOn_18 : decode cX1_goOn 18 = .ok (.if_icmp .ge 22, 3) := by decide +kernel
theorem dX1_goOn_21 : decode cX1_goOn 21 = .ok (.aload_n 0, 1) := by decide +kernel
theorem dX1_goOn_22 : decode cX1_goOn 22 = .ok (.getfield 27, 3) := by decide +kernel
theorem dX1_goOn_25 : decode cX1_goOn 25 = .ok (.iload_n 3, 1) := by decide +kernel
theorem dX1_goOn_26 : decode cX1_goOn 26 = .ok (.aaload, 1) := by decide +kernel
theorem dX1_goOn_27 : decode cX1_goOn 27 = .ok (.aload_n 0, 1) := by decide +kernel
theorem dX1_goOn_28 : decode cX1_goOn 28 = .ok (.getfield 12, 3) := by decide +kernel
theorem dX1_goOn_31 : decode cX1_goOn 31 = .ok (.invokevirtual 59, 3) := by decide +kernel
theorem dX1_goOn_34 : decode cX1_goOn 34 = .ok (.iinc 3 1, 3) := by decide +kernel
theorem dX1_goOn_37 : decode cX1_goOn 37 = .ok (.goto (-24), 3) := by decide +kernel
theorem dX1_goOn_40 : decode cX1_goOn 40 = .ok (.aload_n 0, 1) := by decide +kernel
theorem dX1_goOn_41 : decode cX1_goOn 41 = .ok (.invokevirtual 63, 3) := by decide +kernel
theorem dX1_goOn_44 : decode cX1_goOn 44 = .ok (.aload_n 0, 1) := by decide +kernel
theorem dX1_goOn_45 : decode cX1_goOn 45 = .ok (.dup, 1) := by decide +kernel
theorem dX1_goOn_46 : decode cX1_goOn 46 = .ok (.getfield 66, 3) := by decide +kernel
theorem dX1_goOn_49 : decode cX1_goOn 49 = .ok (.iconst 1, 1) := by decide +kernel
theorem dX1_goOn_50 : decode cX1_goOn 50 = .ok (.iadd, 1) := by decide +kernel
theorem dX1_goOn_51 : decode cX1_goOn 51 = .ok (.putfield 66, 3) := by decide +kernel
theorem dX1_goOn_54 : decode cX1_goOn 54 = .ok (.iinc 2 1, 3) := by decide +kernel
theorem dX1_goOn_57 : decode cX1_goOn 57 = .ok (.goto (-55), 3) := by decide +kernel
theorem dX1_goOn_60 : decode cX1_goOn 60 = .ok (.return_, 1) := by decide +kernel
theorem dX1_obeyOrders_0 : decode cX1_obeyOrders 0 = .ok (.iconst 0, 1) := by decide +kernel
theorem dX1_obeyOrders_1 : decode cX1_obeyOrders 1 = .ok (.istore_n 1, 1) := by decide +kernel
theorem dX1_obeyOrders_2 : decode cX1_obeyOrders 2 = .ok (.iload_n 1, 1) := by decide +kernel
theorem dX1_obeyOrders_3 : decode cX1_obeyOrders 3 = .ok (.aload_n 0, 1) := by decide +kernel
theorem dX1_obeyOrders_4 : decode cX1_obeyOrders 4 = .ok (.getfield 32, 3) := by decide +kernel
theorem dX1_obeyOrders_7 : decode cX1_obeyOrders 7 = .ok (.if_icmp .ge 64, 3) := by decide +kernel
theorem dX1_obeyOrders_10 : decode cX1_obeyOrders 10 = .ok (.aload_n 0, 1) := by decide +kernel
theorem dX1_obeyOrders_11 : decode cX1_obeyOrders 11 = .ok (.getfield 20, 3) := by decide +kernel
theorem dX1_obeyOrders_14 : decode cX1_obeyOrders 14 = .ok (.iload_n 1, 1) := by decide +kernel
theorem dX1_obeyOrders_15 : decode cX1_obeyOrders 15 = .ok (.aaload, 1) := by decide +kernel
theorem dX1_obeyOrders_16 : decode cX1_obeyOrders 16 = .ok (.astore_n 2, 1) := by decide +kernel
theorem dX1_obeyOrders_17 : decode cX1_obeyOrders 17 = .ok (.aload_n 2, 1) := by decide +kernel
theorem dX1_obeyOrders_18 : decode cX1_obeyOrders 18 = .ok (.invokevirtual 69, 3) := by decide +kernel
theorem dX1_obeyOrders_21 : decode cX1_obeyOrders 21 = .ok (.istore_n 3, 1) := by decide +kernel
theorem dX1_obeyOrders_22 : decode cX1_obeyOrders 22 = .ok (.aload_n 2, 1) := by decide +kernel
theorem dX1_obeyOrders_23 : decode cX1_obeyOrders 23 = .ok (.invokevirtual 73, 3) := by decide +kernel
theorem dX1_obeyOrders_26 : decode cX1_obeyOrders 26 = .ok (.ifCond .ne 39, 3) := by decide +kernel
theorem dX1_obeyOrders_29 : decode cX1_obeyOrders 29 = .ok (.iload_n 3, 1) := by decide +kernel
theorem dX1_obeyOrders_30 : decode cX1_obeyOrders 30 = .ok (.iconst (-1), 1) := by decide +kernel
theorem dX1_obeyOrders_31 : decode cX1_obeyOrders 31 = .ok (.if_icmp .ne 6, 3) := by decide +kernel
theorem dX1_obeyOrders_34 : decode cX1_obeyOrders 34 = .ok (.goto 31, 3) := by decide +kernel
theorem dX1_obeyOrders_37 : decode cX1_obeyOrders 37 = .ok (.aload_n 2, 1) := by decide +kernel
theorem dX1_obeyOrders_38 : decode cX1_obeyOrders 38 = .ok (.invokevirtual 77, 3) := by decide +kernel
theorem dX1_obeyOrders_41 : decode cX1_obeyOrders 41 = .ok (.aload_n 0, 1) := by decide +kernel
theorem dX1_obeyOrders_42 : decode cX1_obeyOrders 42 = .ok (.aload_n 2, 1) := by decide +kernel
theorem dX1_obeyOrders_43 : decode cX1_obeyOrders 43 = .ok (.iload_n 3, 1) := by decide +kernel
theorem dX1_obeyOrders_44 : decode cX1_obeyOrders 44 = .ok (.iconst 2, 1) := by decide +kernel
theorem dX1_obeyOrders_45 : decode cX1_obeyOrders 45 = .ok (.ishr, 1) := by decide +kernel
theorem dX1_obeyOrders_46 : decode cX1_obeyOrders 46 = .ok (.iload_n 3, 1) := by decide +kernel
theorem dX1_obeyOrders_47 : decode cX1_obeyOrders 47 = .ok (.iconst 3, 1) := by decide +kernel
theorem dX1_obeyOrders_48 : decode cX1_obeyOrders 48 = .ok (.iand, 1) := by decide +kernel
theorem dX1_obeyOrders_49 : decode cX1_obeyOrders 49 = .ok (.invokevirtual 80, 3) := by decide +kernel
theorem dX1_obeyOrders_52 : decode cX1_obeyOrders 52 = .ok (.ifCond .ne 13, 3) := by decide +kernel
theorem dX1_obeyOrders_55 : decode cX1_obeyOrders 55 = .ok (.aload_n 2, 1) := by decide +kernel
theorem dX1_obeyOrders_56 : decode cX1_obeyOrders 56 = .ok (.dup, 1) := by decide +kernel
theorem dX1_obeyOrders_57 : decode cX1_obeyOrders 57 = .ok (.getfield 84, 3) := by decide +kernel
theorem dX1_obeyOrders_60 : decode cX1_obeyOrders 60 = .ok (.iconst 1, 1) := by decide +kernel
theorem dX1_obeyOrders_61 : decode cX1_obeyOrders 61 = .ok (.iadd, 1) := by decide +kernel
theorem dX1_obeyOrders_62 : decode cX1_obeyOrders 62 = .ok (.putfield 84, 3) := by decide +kernel
theorem dX1_obeyOrders_65 : decode cX1_obeyOrders 65 = .ok (.iinc 1 1, 3) := by decide +kernel
theorem dX1_obeyOrders_68 : decode cX1_obeyOrders 68 = .ok (.goto (-66), 3) := by decide +kernel
theorem dX1_obeyOrders_71 : decode cX1_obeyOrders 71 = .ok (.return_, 1) := by decide +kernel
theorem dX1_tryOrder_0 : decode cX1_tryOrder 0 = .ok (.aload_n 1, 1) := by decide +kernel
theorem dX1_tryOrder_1 : decode cX1_tryOrder 1 = .ok (.getfield 36, 3) := by decide +kernel
theorem dX1_tryOrder_4 : decode cX1_tryOrder 4 = .ok (.iload_n 3, 1) := by decide +kernel
theorem dX1_tryOrder_5 : decode cX1_tryOrder 5 = .ok (.invokestatic 87, 3) := by decide +kernel
theorem dX1_tryOrder_8 : decode cX1_tryOrder 8 = .ok (.istore 4, 2) := by decide +kernel
theorem dX1_tryOrder_10 : decode cX1_tryOrder 10 = .ok (.iload_n 2, 1) := by decide +kernel
theorem dX1_tryOrder_11 : decode cX1_tryOrder 11 = .ok (.lookupswitch 47 #[(0, 25), (1, 39)], 25) := by decide +kernel
theorem dX1_tryOrder_36 : decode cX1_tryOrder 36 = .ok (.aload_n 0, 1) := by decide +kernel
theorem dX1_tryOrder_37 : decode cX1_tryOrder 37 = .ok (.aload_n 1, 1) := by decide +kernel
theorem dX1_tryOrder_38 : decode cX1_tryOrder 38 = .ok (.iload 4, 2) := by decide +kernel
theorem dX1_tryOrder_40 : decode cX1_tryOrder 40 = .ok (.iload 4, 2) := by decide +kernel
theorem dX1_tryOrder_42 : decode cX1_tryOrder 42 = .ok (.iload_n 3, 1) := by decide +kernel
theorem dX1_tryOrder_43 : decode cX1_tryOrder 43 = .ok (.invokestatic 87, 3) := by decide +kernel
theorem dX1_tryOrder_46 : decode cX1_tryOrder 46 = .ok (.invokevirtual 91, 3) := by decide +kernel
theorem dX1_tryOrder_49 : decode cX1_tryOrder 49 = .ok (.ireturn, 1) := by decide +kernel
theorem dX1_tryOrder_50 : decode cX1_tryOrder 50 = .ok (.aload_n 0, 1) := by decide +kernel
theorem dX1_tryOrder_51 : decode cX1_tryOrder 51 = .ok (.aload_n 1, 1) := by decide +kernel
theorem dX1_tryOrder_52 : decode cX1_tryOrder 52 = .ok (.iload 4, 2) := by decide +kernel
theorem dX1_tryOrder_54 : decode cX1_tryOrder 54 = .ok (.invokevirtual 94, 3) := by decide +kernel
theorem dX1_tryOrder_57 : decode cX1_tryOrder 57 = .ok (.ireturn, 1) := by decide +kernel
theorem dX1_tryOrder_58 : decode cX1_tryOrder 58 = .ok (.aload_n 0, 1) := by decide +kernel
theorem dX1_tryOrder_59 : decode cX1_tryOrder 59 = .ok (.iload 4, 2) := by decide +kernel
theorem dX1_tryOrder_61 : decode cX1_tryOrder 61 = .ok (.invokevirtual 98, 3) := by decide +kernel
theorem dX1_tryOrder_64 : decode cX1_tryOrder 64 = .ok (.ireturn, 1) := by decide +kernel
theorem dX1_tryGo_0 : decode cX1_tryGo 0 = .ok (.aload_n 0, 1) := by decide +kernel
theorem dX1_tryGo_1 : decode cX1_tryGo 1 = .ok (.getfield 12, 3) := by decide +kernel
theorem dX1_tryGo_4 : decode cX1_tryGo 4 = .ok (.iload_n 2, 1) := by decide +kernel
theorem dX1_tryGo_5 : decode cX1_tryGo 5 = .ok (.invokevirtual 102, 3) := by decide +kernel
theorem dX1_tryGo_8 : decode cX1_tryGo 8 = .ok (.istore 4, 2) := by decide +kernel
theorem dX1_tryGo_10 : decode cX1_tryGo 10 = .ok (.aload_n 0, 1) := by decide +kernel
theorem dX1_tryGo_11 : decode cX1_tryGo 11 = .ok (.getfield 12, 3) := by decide +kernel
theorem dX1_tryGo_14 : decode cX1_tryGo 14 = .ok (.iload_n 3, 1) := by decide +kernel
theorem dX1_tryGo_15 : decode cX1_tryGo 15 = .ok (.invokevirtual 102, 3) := by decide +kernel
theorem dX1_tryGo_18 : decode cX1_tryGo 18 = .ok (.istore 5, 2) := by decide +kernel
theorem dX1_tryGo_20 : decode cX1_tryGo 20 = .ok (.iload 4, 2) := by decide +kernel
theorem dX1_tryGo_22 : decode cX1_tryGo 22 = .ok (.ifCond .le 41, 3) := by decide +kernel
theorem dX1_tryGo_25 : decode cX1_tryGo 25 = .ok (.aload_n 1, 1) := by decide +kernel
theorem dX1_tryGo_26 : decode cX1_tryGo 26 = .ok (.getfield 39, 3) := by decide +kernel
theorem dX1_tryGo_29 : decode cX1_tryGo 29 = .ok (.iconst 2, 1) := by decide +kernel
theorem dX1_tryGo_30 : decode cX1_tryGo 30 = .ok (.iload 4, 2) := by decide +kernel
theorem dX1_tryGo_32 : decode cX1_tryGo 32 = .ok (.imul, 1) := by decide +kernel
theorem dX1_tryGo_33 : decode cX1_tryGo 33 = .ok (.if_icmp .lt 30, 3) := by decide +kernel
theorem dX1_tryGo_36 : decode cX1_tryGo 36 = .ok (.iload 5, 2) := by decide +kernel
theorem dX1_tryGo_38 : decode cX1_tryGo 38 = .ok (.iconst (-1), 1) := by decide +kernel
theorem dX1_tryGo_39 : decode cX1_tryGo 39 = .ok (.if_icmp .eq 24, 3) := by decide +kernel
theorem dX1_tryGo_42 : decode cX1_tryGo 42 = .ok (.iload 5, 2) := by decide +kernel
theorem dX1_tryGo_44 : decode cX1_tryGo 44 = .ok (.iconst 3, 1) := by decide +kernel
theorem dX1_tryGo_45 : decode cX1_tryGo 45 = .ok (.iload 4, 2) := by decide +kernel
theorem dX1_tryGo_47 : decode cX1_tryGo 47 = .ok (.isub, 1) := by decide +kernel
theorem dX1_tryGo_48 : decode cX1_tryGo 48 = .ok (.if_icmp .gt 15, 3) := by decide +kernel
theorem dX1_tryGo_51 : decode cX1_tryGo 51 = .ok (.aload_n 0, 1) := by decide +kernel
theorem dX1_tryGo_52 : decode cX1_tryGo 52 = .ok (.iload_n 3, 1) := by decide +kernel
theorem dX1_tryGo_53 : decode cX1_tryGo 53 = .ok (.invokevirtual 106, 3) := by decide +kernel
theorem dX1_tryGo_56 : decode cX1_tryGo 56 = .ok (.ifCond .ne 7, 3) := by decide +kernel
theorem dX1_tryGo_59 : decode cX1_tryGo 59 = .ok (.iconst 1, 1) := by decide +kernel
theorem dX1_tryGo_60 : decode cX1_tryGo 60 = .ok (.goto 4, 3) := by decide +kernel
theorem dX1_tryGo_63 : decode cX1_tryGo 63 = .ok (.iconst 0, 1) := by decide +kernel
theorem dX1_tryGo_64 : decode cX1_tryGo 64 = .ok (.istore 6, 2) := by decide +kernel
theorem dX1_tryGo_66 : decode cX1_tryGo 66 = .ok (.iload 4, 2) := by decide +kernel
theorem dX1_tryGo_68 : decode cX1_tryGo 68 = .ok (.ifCond .eq 10, 3) := by decide +kernel
theorem dX1_tryGo_71 : decode cX1_tryGo 71 = .ok (.iload 6, 2) := by decide +kernel
theorem dX1_tryGo_73 : decode cX1_tryGo 73 = .ok (.ifCond .ne 5, 3) := by decide +kernel
theorem dX1_tryGo_76 : decode cX1_tryGo 76 = .ok (.iconst 0, 1) := by decide +kernel
theorem dX1_tryGo_77 : decode cX1_tryGo 77 = .ok (.ireturn, 1) := by decide +kernel
theorem dX1_tryGo_78 : decode cX1_tryGo 78 = .ok (.iload 6, 2) := by decide +kernel
theorem dX1_tryGo_80 : decode cX1_tryGo 80 = .ok (.ifCond .eq 25, 3) := by decide +kernel
theorem dX1_tryGo_83 : decode cX1_tryGo 83 = .ok (.aload_n 0, 1) := by decide +kernel
theorem dX1_tryGo_84 : decode cX1_tryGo 84 = .ok (.getfield 12, 3) := by decide +kernel
theorem dX1_tryGo_87 : decode cX1_tryGo 87 = .ok (.iload_n 2, 1) := by decide +kernel
theorem dX1_tryGo_88 : decode cX1_tryGo 88 = .ok (.iconst 0, 1) := by decide +kernel
theorem dX1_tryGo_89 : decode cX1_tryGo 89 = .ok (.invokevirtual 109, 3) := by decide +kernel
theorem dX1_tryGo_92 : decode cX1_tryGo 92 = .ok (.aload_n 0, 1) := by decide +kernel
theorem dX1_tryGo_93 : decode cX1_tryGo 93 = .ok (.getfield 12, 3) := by decide +kernel
theorem dX1_tryGo_96 : decode cX1_tryGo 96 = .ok (.iload_n 3, 1) := by decide +kernel
theorem dX1_tryGo_97 : decode cX1_tryGo 97 = .ok (.iload 5, 2) := by decide +kernel
theorem dX1_tryGo_99 : decode cX1_tryGo 99 = .ok (.iload 4, 2) := by decide +kernel
theorem dX1_tryGo_101 : decode cX1_tryGo 101 = .ok (.iadd, 1) := by decide +kernel
theorem dX1_tryGo_102 : decode cX1_tryGo 102 = .ok (.invokevirtual 109, 3) := by decide +kernel
theorem dX1_tryGo_105 : decode cX1_tryGo 105 = .ok (.aload_n 1, 1) := by decide +kernel
theorem dX1_tryGo_106 : decode cX1_tryGo 106 = .ok (.iload_n 2, 1) := by decide +kernel
theorem dX1_tryGo_107 : decode cX1_tryGo 107 = .ok (.putfield 36, 3) := by decide +kernel
theorem dX1_tryGo_110 : decode cX1_tryGo 110 = .ok (.iconst 1, 1) := by decide +kernel
theorem dX1_tryGo_111 : decode cX1_tryGo 111 = .ok (.ireturn, 1) := by decide +kernel
theorem dX1_tryRaise_0 : decode cX1_tryRaise 0 = .ok (.aload_n 0, 1) := by decide +kernel
theorem dX1_tryRaise_1 : decode cX1_tryRaise 1 = .ok (.getfield 12, 3) := by decide +kernel
theorem dX1_tryRaise_4 : decode cX1_tryRaise 4 = .ok (.iload_n 2, 1) := by decide +kernel
theorem dX1_tryRaise_5 : decode cX1_tryRaise 5 = .ok (.invokevirtual 102, 3) := by decide +kernel
theorem dX1_tryRaise_8 : decode cX1_tryRaise 8 = .ok (.istore_n 3, 1) := by decide +kernel
theorem dX1_tryRaise_9 : decode cX1_tryRaise 9 = .ok (.aload_n 1, 1) := by decide +kernel
theorem dX1_tryRaise_10 : decode cX1_tryRaise 10 = .ok (.getfield 39, 3) := by decide +kernel
theorem dX1_tryRaise_13 : decode cX1_tryRaise 13 = .ok (.iconst 3, 1) := by decide +kernel
theorem dX1_tryRaise_14 : decode cX1_tryRaise 14 = .ok (.if_icmp .lt 21, 3) := by decide +kernel
theorem dX1_tryRaise_17 : decode cX1_tryRaise 17 = .ok (.iload_n 3, 1) := by decide +kernel
theorem dX1_tryRaise_18 : decode cX1_tryRaise 18 = .ok (.iconst (-1), 1) := by decide +kernel
theorem dX1_tryRaise_19 : decode cX1_tryRaise 19 = .ok (.if_icmp .eq 16, 3) := by decide +kernel
theorem dX1_tryRaise_22 : decode cX1_tryRaise 22 = .ok (.iload_n 3, 1) := by decide +kernel
theorem dX1_tryRaise_23 : decode cX1_tryRaise 23 = .ok (.iconst 3, 1) := by decide +kernel
theorem dX1_tryRaise_24 : decode cX1_tryRaise 24 = .ok (.if_icmp .ge 11, 3) := by decide +kernel
theorem dX1_tryRaise_27 : decode cX1_tryRaise 27 = .ok (.aload_n 0, 1) := by decide +kernel
theorem dX1_tryRaise_28 : decode cX1_tryRaise 28 = .ok (.iload_n 2, 1) := by decide +kernel
theorem dX1_tryRaise_29 : decode cX1_tryRaise 29 = .ok (.invokevirtual 106, 3) := by decide +kernel
theorem dX1_tryRaise_32 : decode cX1_tryRaise 32 = .ok (.ifCond .eq 5, 3) := by decide +kernel
theorem dX1_tryRaise_35 : decode cX1_tryRaise 35 = .ok (.iconst 0, 1) := by decide +kernel
theorem dX1_tryRaise_36 : decode cX1_tryRaise 36 = .ok (.ireturn, 1) := by decide +kernel
theorem dX1_tryRaise_37 : decode cX1_tryRaise 37 = .ok (.aload_n 0, 1) := by decide +kernel
theorem dX1_tryRaise_38 : decode cX1_tryRaise 38 = .ok (.getfield 12, 3) := by decide +kernel
theorem dX1_tryRaise_41 : decode cX1_tryRaise 41 = .ok (.iload_n 2, 1) := by decide +kernel
theorem dX1_tryRaise_42 : decode cX1_tryRaise 42 = .ok (.iload_n 3, 1) := by decide +kernel
theorem dX1_tryRaise_43 : decode cX1_tryRaise 43 = .ok (.iconst 1, 1) := by decide +kernel
theorem dX1_tryRaise_44 : decode cX1_tryRaise 44 = .ok (.iadd, 1) := by decide +kernel
theorem dX1_tryRaise_45 : decode cX1_tryRaise 45 = .ok (.invokevirtual 109, 3) := by decide +kernel
theorem dX1_tryRaise_48 : decode cX1_tryRaise 48 = .ok (.iconst 1, 1) := by decide +kernel
theorem dX1_tryRaise_49 : decode cX1_tryRaise 49 = .ok (.ireturn, 1) := by decide +kernel
theorem dX1_tryPullDown_0 : decode cX1_tryPullDown 0 = .ok (.aload_n 0, 1) := by decide +kernel
theorem dX1_tryPullDown_1 : decode cX1_tryPullDown 1 = .ok (.getfield 12, 3) := by decide +kernel
theorem dX1_tryPullDown_4 : decode cX1_tryPullDown 4 = .ok (.iload_n 1, 1) := by decide +kernel
theorem dX1_tryPullDown_5 : decode cX1_tryPullDown 5 = .ok (.invokevirtual 102, 3) := by decide +kernel
theorem dX1_tryPullDown_8 : decode cX1_tryPullDown 8 = .ok (.istore_n 2, 1) := by decide +kernel
theorem dX1_tryPullDown_9 : decode cX1_tryPullDown 9 = .ok (.iload_n 2, 1) := by decide +kernel
theorem dX1_tryPullDown_10 : decode cX1_tryPullDown 10 = .ok (.ifCond .gt 5, 3) := by decide +kernel
theorem dX1_tryPullDown_13 : decode cX1_tryPullDown 13 = .ok (.iconst 0, 1) := by decide +kernel
theorem dX1_tryPullDown_14 : decode cX1_tryPullDown 14 = .ok (.ireturn, 1) := by decide +kernel
theorem dX1_tryPullDown_15 : decode cX1_tryPullDown 15 = .ok (.aload_n 0, 1) := by decide +kernel
theorem dX1_tryPullDown_16 : decode cX1_tryPullDown 16 = .ok (.getfield 12, 3) := by decide +kernel
theorem dX1_tryPullDown_19 : decode cX1_tryPullDown 19 = .ok (.iload_n 1, 1) := by decide +kernel
theorem dX1_tryPullDown_20 : decode cX1_tryPullDown 20 = .ok (.iload_n 2, 1) := by decide +kernel
theorem dX1_tryPullDown_21 : decode cX1_tryPullDown 21 = .ok (.iconst 1, 1) := by decide +kernel
theorem dX1_tryPullDown_22 : decode cX1_tryPullDown 22 = .ok (.isub, 1) := by decide +kernel
theorem dX1_tryPullDown_23 : decode cX1_tryPullDown 23 = .ok (.invokevirtual 109, 3) := by decide +kernel
theorem dX1_tryPullDown_26 : decode cX1_tryPullDown 26 = .ok (.iconst 1, 1) := by decide +kernel
theorem dX1_tryPullDown_27 : decode cX1_tryPullDown 27 = .ok (.ireturn, 1) := by decide +kernel
theorem dX1_scatter_0 : decode cX1_scatter 0 = .ok (.iconst 0, 1) := by decide +kernel
theorem dX1_scatter_1 : decode cX1_scatter 1 = .ok (.istore_n 1, 1) := by decide +kernel
theorem dX1_scatter_2 : decode cX1_scatter 2 = .ok (.iload_n 1, 1) := by decide +kernel
theorem dX1_scatter_3 : decode cX1_scatter 3 = .ok (.aload_n 0, 1) := by decide +kernel
theorem dX1_scatter_4 : decode cX1_scatter 4 = .ok (.getfield 32, 3) := by decide +kernel
theorem dX1_scatter_7 : decode cX1_scatter 7 = .ok (.if_icmp .ge 34, 3) := by decide +kernel
theorem dX1_scatter_10 : decode cX1_scatter 10 = .ok (.aload_n 0, 1) := by decide +kernel
theorem dX1_scatter_11 : decode cX1_scatter 11 = .ok (.getfield 20, 3) := by decide +kernel
theorem dX1_scatter_14 : decode cX1_scatter 14 = .ok (.iload_n 1, 1) := by decide +kernel
theorem dX1_scatter_15 : decode cX1_scatter 15 = .ok (.aaload, 1) := by decide +kernel
theorem dX1_scatter_16 : decode cX1_scatter 16 = .ok (.astore_n 2, 1) := by decide +kernel
theorem dX1_scatter_17 : decode cX1_scatter 17 = .ok (.aload_n 2, 1) := by decide +kernel
theorem dX1_scatter_18 : decode cX1_scatter 18 = .ok (.aload_n 2, 1) := by decide +kernel
theorem dX1_scatter_19 : decode cX1_scatter 19 = .ok (.getfield 39, 3) := by decide +kernel
theorem dX1_scatter_22 : decode cX1_scatter 22 = .ok (.aload_n 0, 1) := by decide +kernel
theorem dX1_scatter_23 : decode cX1_scatter 23 = .ok (.aload_n 2, 1) := by decide +kernel
theorem dX1_scatter_24 : decode cX1_scatter 24 = .ok (.invokevirtual 113, 3) := by decide +kernel
theorem dX1_scatter_27 : decode cX1_scatter 27 = .ok (.isub, 1) := by decide +kernel
theorem dX1_scatter_28 : decode cX1_scatter 28 = .ok (.iconst 0, 1) := by decide +kernel
theorem dX1_scatter_29 : decode cX1_scatter 29 = .ok (.invokestatic 117, 3) := by decide +kernel
theorem dX1_scatter_32 : decode cX1_scatter 32 = .ok (.putfield 39, 3) := by decide +kernel
theorem dX1_scatter_35 : decode cX1_scatter 35 = .ok (.iinc 1 1, 3) := by decide +kernel
theorem dX1_scatter_38 : decode cX1_scatter 38 = .ok (.goto (-36), 3) := by decide +kernel
theorem dX1_scatter_41 : decode cX1_scatter 41 = .ok (.return_, 1) := by decide +kernel
theorem dX1_isSeen_0 : decode cX1_isSeen 0 = .ok (.aload_n 2, 1) := by decide +kernel
theorem dX1_isSeen_1 : decode cX1_isSeen 1 = .ok (.getfield 36, 3) := by decide +kernel
theorem dX1_isSeen_4 : decode cX1_isSeen 4 = .ok (.bipush 12, 2) := by decide +kernel
theorem dX1_isSeen_6 : decode cX1_isSeen 6 = .ok (.irem, 1) := by decide +kernel
theorem dX1_isSeen_7 : decode cX1_isSeen 7 = .ok (.aload_n 1, 1) := by decide +kernel
theorem dX1_isSeen_8 : decode cX1_isSeen 8 = .ok (.getfield 49, 3) := by decide +kernel
theorem dX1_isSeen_11 : decode cX1_isSeen 11 = .ok (.bipush 12, 2) := by decide +kernel
theorem dX1_isSeen_13 : decode cX1_isSeen 13 = .ok (.irem, 1) := by decide +kernel
theorem dX1_isSeen_14 : decode cX1_isSeen 14 = .ok (.isub, 1) := by decide +kernel
theorem dX1_isSeen_15 : decode cX1_isSeen 15 = .ok (.invokestatic 122, 3) := by decide +kernel
theorem dX1_isSeen_18 : decode cX1_isSeen 18 = .ok (.istore_n 3, 1) := by decide +kernel
theorem dX1_isSeen_19 : decode cX1_isSeen 19 = .ok (.aload_n 2, 1) := by decide +kernel
theorem dX1_isSeen_20 : decode cX1_isSeen 20 = .ok (.getfield 36, 3) := by decide +kernel
theorem dX1_isSeen_23 : decode cX1_isSeen 23 = .ok (.bipush 12, 2) := by decide +kernel
theorem dX1_isSeen_25 : decode cX1_isSeen 25 = .ok (.idiv, 1) := by decide +kernel
theorem dX1_isSeen_26 : decode cX1_isSeen 26 = .ok (.aload_n 1, 1) := by decide +kernel
theorem dX1_isSeen_27 : decode cX1_isSeen 27 = .ok (.getfield 49, 3) := by decide +kernel
theorem dX1_isSeen_30 : decode cX1_isSeen 30 = .ok (.bipush 12, 2) := by decide +kernel
theorem dX1_isSeen_32 : decode cX1_isSeen 32 = .ok (.idiv, 1) := by decide +kernel
theorem dX1_isSeen_33 : decode cX1_isSeen 33 = .ok (.isub, 1) := by decide +kernel
theorem dX1_isSeen_34 : decode cX1_isSeen 34 = .ok (.invokestatic 122, 3) := by decide +kernel
theorem dX1_isSeen_37 : decode cX1_isSeen 37 = .ok (.istore 4, 2) := by decide +kernel
theorem dX1_isSeen_39 : decode cX1_isSeen 39 = .ok (.iload_n 3, 1) := by decide +kernel
theorem dX1_isSeen_40 : decode cX1_isSeen 40 = .ok (.iload 4, 2) := by decide +kernel
theorem dX1_isSeen_42 : decode cX1_isSeen 42 = .ok (.iadd, 1) := by decide +kernel
theorem dX1_isSeen_43 : decode cX1_isSeen 43 = .ok (.istore 5, 2) := by decide +kernel
theorem dX1_isSeen_45 : decode cX1_isSeen 45 = .ok (.aload_n 2, 1) := by decide +kernel
theorem dX1_isSeen_46 : decode cX1_isSeen 46 = .ok (.getfield 42, 3) := by decide +kernel
theorem dX1_isSeen_49 : decode cX1_isSeen 49 = .ok (.ifCond .eq 7, 3) := by decide +kernel
theorem dX1_isSeen_52 : decode cX1_isSeen 52 = .ok (.iconst 4, 1) := by decide +kernel
theorem dX1_isSeen_53 : decode cX1_isSeen 53 = .ok (.goto 4, 3) := by decide +kernel
theorem dX1_isSeen_56 : decode cX1_isSeen 56 = .ok (.iconst 1, 1) := by decide +kernel
theorem dX1_isSeen_57 : decode cX1_isSeen 57 = .ok (.istore 6, 2) := by decide +kernel
theorem dX1_isSeen_59 : decode cX1_isSeen 59 = .ok (.aload_n 2, 1) := by decide +kernel
theorem dX1_isSeen_60 : decode cX1_isSeen 60 = .ok (.invokevirtual 73, 3) := by decide +kernel
theorem dX1_isSeen_63 : decode cX1_isSeen 63 = .ok (.ifCond .ne 19, 3) := by decide +kernel
theorem dX1_isSeen_66 : decode cX1_isSeen 66 = .ok (.iload_n 3, 1) := by decide +kernel
theorem dX1_isSeen_67 : decode cX1_isSeen 67 = .ok (.ifCond .le 8, 3) := by decide +kernel
theorem dX1_isSeen_70 : decode cX1_isSeen 70 = .ok (.iload 4, 2) := by decide +kernel
theorem dX1_isSeen_72 : decode cX1_isSeen 72 = .ok (.ifCond .gt 10, 3) := by decide +kernel
theorem dX1_isSeen_75 : decode cX1_isSeen 75 = .ok (.iload 5, 2) := by decide +kernel
theorem dX1_isSeen_77 : decode cX1_isSeen 77 = .ok (.iload 6, 2) := by decide +kernel
theorem dX1_isSeen_79 : decode cX1_isSeen 79 = .ok (.if_icmp .le 5, 3) := by decide +kernel
theorem dX1_isSeen_82 : decode cX1_isSeen 82 = .ok (.iconst 0, 1) := by decide +kernel
theorem dX1_isSeen_83 : decode cX1_isSeen 83 = .ok (.ireturn, 1) := by decide +kernel
theorem dX1_isSeen_84 : decode cX1_isSeen 84 = .ok (.aload_n 2, 1) := by decide +kernel
theorem dX1_isSeen_85 : decode cX1_isSeen 85 = .ok (.getfield 36, 3) := by decide +kernel
theorem dX1_isSeen_88 : decode cX1_isSeen 88 = .ok (.aload_n 1, 1) := by decide +kernel
theorem dX1_isSeen_89 : decode cX1_isSeen 89 = .ok (.getfield 49, 3) := by decide +kernel
theorem dX1_isSeen_92 : decode cX1_isSeen 92 = .ok (.invokestatic 125, 3) := by decide +kernel
theorem dX1_isSeen_95 : decode cX1_isSeen 95 = .ok (.istore 7, 2) := by decide +kernel
theorem dX1_isSeen_97 : decode cX1_isSeen 97 = .ok (.iload 4, 2) := by decide +kernel
theorem dX1_isSeen_99 : decode cX1_isSeen 99 = .ok (.ifCond .ne 7, 3) := by decide +kernel
theorem dX1_isSeen_102 : decode cX1_isSeen 102 = .ok (.iconst 1, 1) := by decide +kernel
theorem dX1_isSeen_103 : decode cX1_isSeen 103 = .ok (.goto 5, 3) := by decide +kernel
theorem dX1_isSeen_106 : decode cX1_isSeen 106 = .ok (.bipush 12, 2) := by decide +kernel
theorem dX1_isSeen_108 : decode cX1_isSeen 108 = .ok (.istore 8, 2) := by decide +kernel
theorem dX1_isSeen_110 : decode cX1_isSeen 110 = .ok (.iconst 1, 1) := by decide +kernel
theorem dX1_isSeen_111 : decode cX1_isSeen 111 = .ok (.istore 9, 2) := by decide +kernel
theorem dX1_isSeen_113 : decode cX1_isSeen 113 = .ok (.iload 9, 2) := by decide +kernel
theorem dX1_isSeen_115 : decode cX1_isSeen 115 = .ok (.iload 5, 2) := by decide +kernel
theorem dX1_isSeen_117 : decode cX1_isSeen 117 = .ok (.if_icmp .ge 29, 3) := by decide +kernel
theorem dX1_isSeen_120 : decode cX1_isSeen 120 = .ok (.aload_n 0, 1) := by decide +kernel
theorem dX1_isSeen_121 : decode cX1_isSeen 121 = .ok (.getfield 12, 3) := by decide +kernel
theorem dX1_isSeen_124 : decode cX1_isSeen 124 = .ok (.iload 7, 2) := by decide +kernel
theorem dX1_isSeen_126 : decode cX1_isSeen 126 = .ok (.iload 9, 2) := by decide +kernel
theorem dX1_isSeen_128 : decode cX1_isSeen 128 = .ok (.iload 8, 2) := by decide +kernel
theorem dX1_isSeen_130 : decode cX1_isSeen 130 = .ok (.imul, 1) := by decide +kernel
theorem dX1_isSeen_131 : decode cX1_isSeen 131 = .ok (.iadd, 1) := by decide +kernel
theorem dX1_isSeen_132 : decode cX1_isSeen 132 = .ok (.invokevirtual 102, 3) := by decide +kernel
theorem dX1_isSeen_135 : decode cX1_isSeen 135 = .ok (.ifCond .eq 5, 3) := by decide +kernel
theorem dX1_isSeen_138 : decode cX1_isSeen 138 = .ok (.iconst 0, 1) := by decide +kernel
theorem dX1_isSeen_139 : decode cX1_isSeen 139 = .ok (.ireturn, 1) := by decide +kernel
theorem dX1_isSeen_140 : decode cX1_isSeen 140 = .ok (.iinc 9 1, 3) := by decide +kernel
theorem dX1_isSeen_143 : decode cX1_isSeen 143 = .ok (.goto (-30), 3) := by decide +kernel
theorem dX1_isSeen_146 : decode cX1_isSeen 146 = .ok (.iconst 1, 1) := by decide +kernel
theorem dX1_isSeen_147 : decode cX1_isSeen 147 = .ok (.ireturn, 1) := by decide +kernel
theorem dX1_patrolsThatSee_0 : decode cX1_patrolsThatSee 0 = .ok (.iconst 0, 1) := by decide +kernel
theorem dX1_patrolsThatSee_1 : decode cX1_patrolsThatSee 1 = .ok (.istore_n 2, 1) := by decide +kernel
theorem dX1_patrolsThatSee_2 : decode cX1_patrolsThatSee 2 = .ok (.iconst 0, 1) := by decide +kernel
theorem dX1_patrolsThatSee_3 : decode cX1_patrolsThatSee 3 = .ok (.istore_n 3, 1) := by decide +kernel
theorem dX1_patrolsThatSee_4 : decode cX1_patrolsThatSee 4 = .ok (.iload_n 3, 1) := by decide +kernel
theorem dX1_patrolsThatSee_5 : decode cX1_patrolsThatSee 5 = .ok (.aload_n 0, 1) := by decide +kernel
theorem dX1_patrolsThatSee_6 : decode cX1_patrolsThatSee 6 = .ok (.getfield 46, 3) := by decide +kernel
theorem dX1_patrolsThatSee_9 : decode cX1_patrolsThatSee 9 = .ok (.if_icmp .ge 26, 3) := by decide +kernel
theorem dX1_patrolsThatSee_12 : decode cX1_patrolsThatSee 12 = .ok (.aload_n 0, 1) := by decide +kernel
theorem dX1_patrolsThatSee_13 : decode cX1_patrolsThatSee 13 = .ok (.aload_n 0, 1) := by decide +kernel
theorem dX1_patrolsThatSee_14 : decode cX1_patrolsThatSee 14 = .ok (.getfield 27, 3) := by decide +kernel
theorem dX1_patrolsThatSee_17 : decode cX1_patrolsThatSee 17 = .ok (.iload_n 3, 1) := by decide +kernel
theorem dX1_patrolsThatSee_18 : decode cX1_patrolsThatSee 18 = .ok (.aaload, 1) := by decide +kernel
theorem dX1_patrolsThatSee_19 : decode cX1_patrolsThatSee 19 = .ok (.aload_n 1, 1) := by decide +kernel
theorem dX1_patrolsThatSee_20 : decode cX1_patrolsThatSee 20 = .ok (.invokevirtual 128, 3) := by decide +kernel
theorem dX1_patrolsThatSee_23 : decode cX1_patrolsThatSee 23 = .ok (.ifCond .eq 6, 3) := by decide +kernel
theorem dX1_patrolsThatSee_26 : decode cX1_patrolsThatSee 26 = .ok (.iinc 2 1, 3) := by decide +kernel
theorem dX1_patrolsThatSee_29 : decode cX1_patrolsThatSee 29 = .ok (.iinc 3 1, 3) := by decide +kernel
theorem dX1_patrolsThatSee_32 : decode cX1_patrolsThatSee 32 = .ok (.goto (-28), 3) := by decide +kernel
theorem dX1_patrolsThatSee_35 : decode cX1_patrolsThatSee 35 = .ok (.iload_n 2, 1) := by decide +kernel
theorem dX1_patrolsThatSee_36 : decode cX1_patrolsThatSee 36 = .ok (.ireturn, 1) := by decide +kernel
theorem dX1_crowdsSeenBy_0 : decode cX1_crowdsSeenBy 0 = .ok (.iconst 0, 1) := by decide +kernel
theorem dX1_crowdsSeenBy_1 : decode cX1_crowdsSeenBy 1 = .ok (.istore_n 2, 1) := by decide +kernel
theorem dX1_crowdsSeenBy_2 : decode cX1_crowdsSeenBy 2 = .ok (.iconst 0, 1) := by decide +kernel
theorem dX1_crowdsSeenBy_3 : decode cX1_crowdsSeenBy 3 = .ok (.istore_n 3, 1) := by decide +kernel
theorem dX1_crowdsSeenBy_4 : decode cX1_crowdsSeenBy 4 = .ok (.iload_n 3, 1) := by decide +kernel
theorem dX1_crowdsSeenBy_5 : decode cX1_crowdsSeenBy 5 = .ok (.aload_n 0, 1) := by decide +kernel
theorem dX1_crowdsSeenBy_6 : decode cX1_crowdsSeenBy 6 = .ok (.getfield 32, 3) := by decide +kernel
theorem dX1_crowdsSeenBy_9 : decode cX1_crowdsSeenBy 9 = .ok (.if_icmp .ge 26, 3) := by decide +kernel
theorem dX1_crowdsSeenBy_12 : decode cX1_crowdsSeenBy 12 = .ok (.aload_n 0, 1) := by decide +kernel
theorem dX1_crowdsSeenBy_13 : decode cX1_crowdsSeenBy 13 = .ok (.aload_n 1, 1) := by decide +kernel
theorem dX1_crowdsSeenBy_14 : decode cX1_crowdsSeenBy 14 = .ok (.aload_n 0, 1) := by decide +kernel
theorem dX1_crowdsSeenBy_15 : decode cX1_crowdsSeenBy 15 = .ok (.getfield 20, 3) := by decide +kernel
theorem dX1_crowdsSeenBy_18 : decode cX1_crowdsSeenBy 18 = .ok (.iload_n 3, 1) := by decide +kernel
theorem dX1_crowdsSeenBy_19 : decode cX1_crowdsSeenBy 19 = .ok (.aaload, 1) := by decide +kernel
theorem dX1_crowdsSeenBy_20 : decode cX1_crowdsSeenBy 20 = .ok (.invokevirtual 128, 3) := by decide +kernel
theorem dX1_crowdsSeenBy_23 : decode cX1_crowdsSeenBy 23 = .ok (.ifCond .eq 6, 3) := by decide +kernel
theorem dX1_crowdsSeenBy_26 : decode cX1_crowdsSeenBy 26 = .ok (.iinc 2 1, 3) := by decide +kernel
theorem dX1_crowdsSeenBy_29 : decode cX1_crowdsSeenBy 29 = .ok (.iinc 3 1, 3) := by decide +kernel
theorem dX1_crowdsSeenBy_32 : decode cX1_crowdsSeenBy 32 = .ok (.goto (-28), 3) := by decide +kernel
theorem dX1_crowdsSeenBy_35 : decode cX1_crowdsSeenBy 35 = .ok (.iload_n 2, 1) := by decide +kernel
theorem dX1_crowdsSeenBy_36 : decode cX1_crowdsSeenBy 36 = .ok (.ireturn, 1) := by decide +kernel
theorem dX1_crowdsLeft_0 : decode cX1_crowdsLeft 0 = .ok (.iconst 0, 1) := by decide +kernel
theorem dX1_crowdsLeft_1 : decode cX1_crowdsLeft 1 = .ok (.istore_n 1, 1) := by decide +kernel
theorem dX1_crowdsLeft_2 : decode cX1_crowdsLeft 2 = .ok (.iconst 0, 1) := by decide +kernel
theorem dX1_crowdsLeft_3 : decode cX1_crowdsLeft 3 = .ok (.istore_n 2, 1) := by decide +kernel
theorem dX1_crowdsLeft_4 : decode cX1_crowdsLeft 4 = .ok (.iload_n 2, 1) := by decide +kernel
theorem dX1_crowdsLeft_5 : decode cX1_crowdsLeft 5 = .ok (.aload_n 0, 1) := by decide +kernel
theorem dX1_crowdsLeft_6 : decode cX1_crowdsLeft 6 = .ok (.getfield 32, 3) := by decide +kernel
theorem dX1_crowdsLeft_9 : decode cX1_crowdsLeft 9 = .ok (.if_icmp .ge 24, 3) := by decide +kernel
theorem dX1_crowdsLeft_12 : decode cX1_crowdsLeft 12 = .ok (.aload_n 0, 1) := by decide +kernel
theorem dX1_crowdsLeft_13 : decode cX1_crowdsLeft 13 = .ok (.getfield 20, 3) := by decide +kernel
theorem dX1_crowdsLeft_16 : decode cX1_crowdsLeft 16 = .ok (.iload_n 2, 1) := by decide +kernel
theorem dX1_crowdsLeft_17 : decode cX1_crowdsLeft 17 = .ok (.aaload, 1) := by decide +kernel
theorem dX1_crowdsLeft_18 : decode cX1_crowdsLeft 18 = .ok (.invokevirtual 73, 3) := by decide +kernel
theorem dX1_crowdsLeft_21 : decode cX1_crowdsLeft 21 = .ok (.ifCond .ne 6, 3) := by decide +kernel
theorem dX1_crowdsLeft_24 : decode cX1_crowdsLeft 24 = .ok (.iinc 1 1, 3) := by decide +kernel
theorem dX1_crowdsLeft_27 : decode cX1_crowdsLeft 27 = .ok (.iinc 2 1, 3) := by decide +kernel
theorem dX1_crowdsLeft_30 : decode cX1_crowdsLeft 30 = .ok (.goto (-26), 3) := by decide +kernel
theorem dX1_crowdsLeft_33 : decode cX1_crowdsLeft 33 = .ok (.iload_n 1, 1) := by decide +kernel
theorem dX1_crowdsLeft_34 : decode cX1_crowdsLeft 34 = .ok (.ireturn, 1) := by decide +kernel
theorem dX1_peopleLeft_0 : decode cX1_peopleLeft 0 = .ok (.iconst 0, 1) := by decide +kernel
theorem dX1_peopleLeft_1 : decode cX1_peopleLeft 1 = .ok (.istore_n 1, 1) := by decide +kernel
theorem dX1_peopleLeft_2 : decode cX1_peopleLeft 2 = .ok (.iconst 0, 1) := by decide +kernel
theorem dX1_peopleLeft_3 : decode cX1_peopleLeft 3 = .ok (.istore_n 2, 1) := by decide +kernel
theorem dX1_peopleLeft_4 : decode cX1_peopleLeft 4 = .ok (.iload_n 2, 1) := by decide +kernel
theorem dX1_peopleLeft_5 : decode cX1_peopleLeft 5 = .ok (.aload_n 0, 1) := by decide +kernel
theorem dX1_peopleLeft_6 : decode cX1_peopleLeft 6 = .ok (.getfield 32, 3) := by decide +kernel
theorem dX1_peopleLeft_9 : decode cX1_peopleLeft 9 = .ok (.if_icmp .ge 21, 3) := by decide +kernel
theorem dX1_peopleLeft_12 : decode cX1_peopleLeft 12 = .ok (.iload_n 1, 1) := by decide +kernel
theorem dX1_peopleLeft_13 : decode cX1_peopleLeft 13 = .ok (.aload_n 0, 1) := by decide +kernel
theorem dX1_peopleLeft_14 : decode cX1_peopleLeft 14 = .ok (.getfield 20, 3) := by decide +kernel
theorem dX1_peopleLeft_17 : decode cX1_peopleLeft 17 = .ok (.iload_n 2, 1) := by decide +kernel
theorem dX1_peopleLeft_18 : decode cX1_peopleLeft 18 = .ok (.aaload, 1) := by decide +kernel
theorem dX1_peopleLeft_19 : decode cX1_peopleLeft 19 = .ok (.getfield 39, 3) := by decide +kernel
theorem dX1_peopleLeft_22 : decode cX1_peopleLeft 22 = .ok (.iadd, 1) := by decide +kernel
theorem dX1_peopleLeft_23 : decode cX1_peopleLeft 23 = .ok (.istore_n 1, 1) := by decide +kernel
theorem dX1_peopleLeft_24 : decode cX1_peopleLeft 24 = .ok (.iinc 2 1, 3) := by decide +kernel
theorem dX1_peopleLeft_27 : decode cX1_peopleLeft 27 = .ok (.goto (-23), 3) := by decide +kernel
theorem dX1_peopleLeft_30 : decode cX1_peopleLeft 30 = .ok (.iload_n 1, 1) := by decide +kernel
theorem dX1_peopleLeft_31 : decode cX1_peopleLeft 31 = .ok (.ireturn, 1) := by decide +kernel
theorem dX1_ordersMissed_0 : decode cX1_ordersMissed 0 = .ok (.iconst 0, 1) := by decide +kernel
theorem dX1_ordersMissed_1 : decode cX1_ordersMissed 1 = .ok (.istore_n 1, 1) := by decide +kernel
theorem dX1_ordersMissed_2 : decode cX1_ordersMissed 2 = .ok (.iconst 0, 1) := by decide +kernel
theorem dX1_ordersMissed_3 : decode cX1_ordersMissed 3 = .ok (.istore_n 2, 1) := by decide +kernel
theorem dX1_ordersMissed_4 : decode cX1_ordersMissed 4 = .ok (.iload_n 2, 1) := by decide +kernel
theorem dX1_ordersMissed_5 : decode cX1_ordersMissed 5 = .ok (.aload_n 0, 1) := by decide +kernel
theorem dX1_ordersMissed_6 : decode cX1_ordersMissed 6 = .ok (.getfield 32, 3) := by decide +kernel
theorem dX1_ordersMissed_9 : decode cX1_ordersMissed 9 = .ok (.if_icmp .ge 21, 3) := by decide +kernel
theorem dX1_ordersMissed_12 : decode cX1_ordersMissed 12 = .ok (.iload_n 1, 1) := by decide +kernel
theorem dX1_ordersMissed_13 : decode cX1_ordersMissed 13 = .ok (.aload_n 0, 1) := by decide +kernel
theorem dX1_ordersMissed_14 : decode cX1_ordersMissed 14 = .ok (.getfield 20, 3) := by decide +kernel
theorem dX1_ordersMissed_17 : decode cX1_ordersMissed 17 = .ok (.iload_n 2, 1) := by decide +kernel
theorem dX1_ordersMissed_18 : decode cX1_ordersMissed 18 = .ok (.aaload, 1) := by decide +kernel
theorem dX1_ordersMissed_19 : decode cX1_ordersMissed 19 = .ok (.getfield 84, 3) := by decide +kernel
theorem dX1_ordersMissed_22 : decode cX1_ordersMissed 22 = .ok (.iadd, 1) := by decide +kernel
theorem dX1_ordersMissed_23 : decode cX1_ordersMissed 23 = .ok (.istore_n 1, 1) := by decide +kernel
theorem dX1_ordersMissed_24 : decode cX1_ordersMissed 24 = .ok (.iinc 2 1, 3) := by decide +kernel
theorem dX1_ordersMissed_27 : decode cX1_ordersMissed 27 = .ok (.goto (-23), 3) := by decide +kernel
theorem dX1_ordersMissed_30 : decode cX1_ordersMissed 30 = .ok (.iload_n 1, 1) := by decide +kernel
theorem dX1_ordersMissed_31 : decode cX1_ordersMissed 31 = .ok (.ireturn, 1) := by decide +kernel
theorem dX1_crowdNumber_0 : decode cX1_crowdNumber 0 = .ok (.iload_n 2, 1) := by decide +kernel
theorem dX1_crowdNumber_1 : decode cX1_crowdNumber 1 = .ok (.tableswitch 92 0 6 #[43, 51, 59, 64, 77, 82, 87], 43) := by decide +kernel
theorem dX1_crowdNumber_44 : decode cX1_crowdNumber 44 = .ok (.aload_n 1, 1) := by decide +kernel
theorem dX1_crowdNumber_45 : decode cX1_crowdNumber 45 = .ok (.getfield 36, 3) := by decide +kernel
theorem dX1_crowdNumber_48 : decode cX1_crowdNumber 48 = .ok (.bipush 12, 2) := by decide +kernel
theorem dX1_crowdNumber_50 : decode cX1_crowdNumber 50 = .ok (.irem, 1) := by decide +kernel
theorem dX1_crowdNumber_51 : decode cX1_crowdNumber 51 = .ok (.ireturn, 1) := by decide +kernel
theorem dX1_crowdNumber_52 : decode cX1_crowdNumber 52 = .ok (.aload_n 1, 1) := by decide +kernel
theorem dX1_crowdNumber_53 : decode cX1_crowdNumber 53 = .ok (.getfield 36, 3) := by decide +kernel
theorem dX1_crowdNumber_56 : decode cX1_crowdNumber 56 = .ok (.bipush 12, 2) := by decide +kernel
theorem dX1_crowdNumber_58 : decode cX1_crowdNumber 58 = .ok (.idiv, 1) := by decide +kernel
theorem dX1_crowdNumber_59 : decode cX1_crowdNumber 59 = .ok (.ireturn, 1) := by decide +kernel
theorem dX1_crowdNumber_60 : decode cX1_crowdNumber 60 = .ok (.aload_n 1, 1) := by decide +kernel
theorem dX1_crowdNumber_61 : decode cX1_crowdNumber 61 = .ok (.getfield 39, 3) := by decide +kernel
theorem dX1_crowdNumber_64 : decode cX1_crowdNumber 64 = .ok (.ireturn, 1) := by decide +kernel
theorem dX1_crowdNumber_65 : decode cX1_crowdNumber 65 = .ok (.aload_n 1, 1) := by decide +kernel
theorem dX1_crowdNumber_66 : decode cX1_crowdNumber 66 = .ok (.getfield 42, 3) := by decide +kernel
theorem dX1_crowdNumber_69 : decode cX1_crowdNumber 69 = .ok (.ifCond .eq 7, 3) := by decide +kernel
theorem dX1_crowdNumber_72 : decode cX1_crowdNumber 72 = .ok (.iconst 1, 1) := by decide +kernel
theorem dX1_crowdNumber_73 : decode cX1_crowdNumber 73 = .ok (.goto 4, 3) := by decide +kernel
theorem dX1_crowdNumber_76 : decode cX1_crowdNumber 76 = .ok (.iconst 0, 1) := by decide +kernel
theorem dX1_crowdNumber_77 : decode cX1_crowdNumber 77 = .ok (.ireturn, 1) := by decide +kernel
theorem dX1_crowdNumber_78 : decode cX1_crowdNumber 78 = .ok (.aload_n 1, 1) := by decide +kernel
theorem dX1_crowdNumber_79 : decode cX1_crowdNumber 79 = .ok (.getfield 132, 3) := by decide +kernel
theorem dX1_crowdNumber_82 : decode cX1_crowdNumber 82 = .ok (.ireturn, 1) := by decide +kernel
theorem dX1_crowdNumber_83 : decode cX1_crowdNumber 83 = .ok (.aload_n 1, 1) := by decide +kernel
theorem dX1_crowdNumber_84 : decode cX1_crowdNumber 84 = .ok (.invokevirtual 69, 3) := by decide +kernel
theorem dX1_crowdNumber_87 : decode cX1_crowdNumber 87 = .ok (.ireturn, 1) := by decide +kernel
theorem dX1_crowdNumber_88 : decode cX1_crowdNumber 88 = .ok (.aload_n 1, 1) := by decide +kernel
theorem dX1_crowdNumber_89 : decode cX1_crowdNumber 89 = .ok (.getfield 84, 3) := by decide +kernel
theorem dX1_crowdNumber_92 : decode cX1_crowdNumber 92 = .ok (.ireturn, 1) := by decide +kernel
theorem dX1_crowdNumber_93 : decode cX1_crowdNumber 93 = .ok (.aload_n 0, 1) := by decide +kernel
theorem dX1_crowdNumber_94 : decode cX1_crowdNumber 94 = .ok (.aload_n 1, 1) := by decide +kernel
theorem dX1_crowdNumber_95 : decode cX1_crowdNumber 95 = .ok (.invokevirtual 113, 3) := by decide +kernel
theorem dX1_crowdNumber_98 : decode cX1_crowdNumber 98 = .ok (.ireturn, 1) := by decide +kernel
theorem dX1_guardNumber_0 : decode cX1_guardNumber 0 = .ok (.iload_n 2, 1) := by decide +kernel
theorem dX1_guardNumber_1 : decode cX1_guardNumber 1 = .ok (.tableswitch 48 0 2 #[27, 35, 43], 27) := by decide +kernel
theorem dX1_guardNumber_28 : decode cX1_guardNumber 28 = .ok (.aload_n 1, 1) := by decide +kernel
theorem dX1_guardNumber_29 : decode cX1_guardNumber 29 = .ok (.getfield 49, 3) := by decide +kernel
theorem dX1_guardNumber_32 : decode cX1_guardNumber 32 = .ok (.bipush 12, 2) := by decide +kernel
theorem dX1_guardNumber_34 : decode cX1_guardNumber 34 = .ok (.irem, 1) := by decide +kernel
theorem dX1_guardNumber_35 : decode cX1_guardNumber 35 = .ok (.ireturn, 1) := by decide +kernel
theorem dX1_guardNumber_36 : decode cX1_guardNumber 36 = .ok (.aload_n 1, 1) := by decide +kernel
theorem dX1_guardNumber_37 : decode cX1_guardNumber 37 = .ok (.getfield 49, 3) := by decide +kernel
theorem dX1_guardNumber_40 : decode cX1_guardNumber 40 = .ok (.bipush 12, 2) := by decide +kernel
theorem dX1_guardNumber_42 : decode cX1_guardNumber 42 = .ok (.idiv, 1) := by decide +kernel
theorem dX1_guardNumber_43 : decode cX1_guardNumber 43 = .ok (.ireturn, 1) := by decide +kernel
theorem dX1_guardNumber_44 : decode cX1_guardNumber 44 = .ok (.aload_n 1, 1) := by decide +kernel
theorem dX1_guardNumber_45 : decode cX1_guardNumber 45 = .ok (.invokevirtual 135, 3) := by decide +kernel
theorem dX1_guardNumber_48 : decode cX1_guardNumber 48 = .ok (.ireturn, 1) := by decide +kernel
theorem dX1_guardNumber_49 : decode cX1_guardNumber 49 = .ok (.aload_n 0, 1) := by decide +kernel
theorem dX1_guardNumber_50 : decode cX1_guardNumber 50 = .ok (.aload_n 1, 1) := by decide +kernel
theorem dX1_guardNumber_51 : decode cX1_guardNumber 51 = .ok (.invokevirtual 138, 3) := by decide +kernel
theorem dX1_guardNumber_54 : decode cX1_guardNumber 54 = .ok (.ireturn, 1) := by decide +kernel
theorem dX1_total_0 : decode cX1_total 0 = .ok (.iload_n 1, 1) := by decide +kernel
theorem dX1_total_1 : decode cX1_total 1 = .ok (.tableswitch 89 0 6 #[43, 48, 57, 65, 74, 79, 84], 43) := by decide +kernel
theorem dX1_total_44 : decode cX1_total 44 = .ok (.aload_n 0, 1) := by decide +kernel
theorem dX1_total_45 : decode cX1_total 45 = .ok (.getfield 66, 3) := by decide +kernel
theorem dX1_total_48 : decode cX1_total 48 = .ok (.ireturn, 1) := by decide +kernel
theorem dX1_total_49 : decode cX1_total 49 = .ok (.aload_n 0, 1) := by decide +kernel
theorem dX1_total_50 : decode cX1_total 50 = .ok (.getfield 12, 3) := by decide +kernel
theorem dX1_total_53 : decode cX1_total 53 = .ok (.iconst (-1), 1) := by decide +kernel
theorem dX1_total_54 : decode cX1_total 54 = .ok (.invokevirtual 142, 3) := by decide +kernel
theorem dX1_total_57 : decode cX1_total 57 = .ok (.ireturn, 1) := by decide +kernel
theorem dX1_total_58 : decode cX1_total 58 = .ok (.aload_n 0, 1) := by decide +kernel
theorem dX1_total_59 : decode cX1_total 59 = .ok (.getfield 12, 3) := by decide +kernel
theorem dX1_total_62 : decode cX1_total 62 = .ok (.invokevirtual 145, 3) := by decide +kernel
theorem dX1_total_65 : decode cX1_total 65 = .ok (.ireturn, 1) := by decide +kernel
theorem dX1_total_66 : decode cX1_total 66 = .ok (.aload_n 0, 1) := by decide +kernel
theorem dX1_total_67 : decode cX1_total 67 = .ok (.getfield 12, 3) := by decide +kernel
theorem dX1_total_70 : decode cX1_total 70 = .ok (.iconst 0, 1) := by decide +kernel
theorem dX1_total_71 : decode cX1_total 71 = .ok (.invokevirtual 142, 3) := by decide +kernel
theorem dX1_total_74 : decode cX1_total 74 = .ok (.ireturn, 1) := by decide +kernel
theorem dX1_total_75 : decode cX1_total 75 = .ok (.aload_n 0, 1) := by decide +kernel
theorem dX1_total_76 : decode cX1_total 76 = .ok (.invokevirtual 148, 3) := by decide +kernel
theorem dX1_total_79 : decode cX1_total 79 = .ok (.ireturn, 1) := by decide +kernel
theorem dX1_total_80 : decode cX1_total 80 = .ok (.aload_n 0, 1) := by decide +kernel
theorem dX1_total_81 : decode cX1_total 81 = .ok (.invokevirtual 151, 3) := by decide +kernel
theorem dX1_total_84 : decode cX1_total 84 = .ok (.ireturn, 1) := by decide +kernel
theorem dX1_total_85 : decode cX1_total 85 = .ok (.aload_n 0, 1) := by decide +kernel
theorem dX1_total_86 : decode cX1_total 86 = .ok (.getfield 46, 3) := by decide +kernel
theorem dX1_total_89 : decode cX1_total 89 = .ok (.ireturn, 1) := by decide +kernel
theorem dX1_total_90 : decode cX1_total 90 = .ok (.aload_n 0, 1) := by decide +kernel
theorem dX1_total_91 : decode cX1_total 91 = .ok (.invokevirtual 154, 3) := by decide +kernel
theorem dX1_total_94 : decode cX1_total 94 = .ok (.ireturn, 1) := by decide +kernel
theorem dX1_addCrowdTo_0 : decode cX1_addCrowdTo 0 = .ok (.lload_n 1, 1) := by decide +kernel
theorem dX1_addCrowdTo_1 : decode cX1_addCrowdTo 1 = .ok (.lstore 4, 2) := by decide +kernel
theorem dX1_addCrowdTo_3 : decode cX1_addCrowdTo 3 = .ok (.iconst 0, 1) := by decide +kernel
theorem dX1_addCrowdTo_4 : decode cX1_addCrowdTo 4 = .ok (.istore 6, 2) := by decide +kernel
theorem dX1_addCrowdTo_6 : decode cX1_addCrowdTo 6 = .ok (.iload 6, 2) := by decide +kernel
theorem dX1_addCrowdTo_8 : decode cX1_addCrowdTo 8 = .ok (.bipush 8, 2) := by decide +kernel
theorem dX1_addCrowdTo_10 : decode cX1_addCrowdTo 10 = .ok (.if_icmp .ge 26, 3) := by decide +kernel
theorem dX1_addCrowdTo_13 : decode cX1_addCrowdTo 13 = .ok (.lload 4, 2) := by decide +kernel
theorem dX1_addCrowdTo_15 : decode cX1_addCrowdTo 15 = .ok (.ldc2_w 157, 3) := by decide +kernel
theorem dX1_addCrowdTo_18 : decode cX1_addCrowdTo 18 = .ok (.lmul, 1) := by decide +kernel
theorem dX1_addCrowdTo_19 : decode cX1_addCrowdTo 19 = .ok (.aload_n 0, 1) := by decide +kernel
theorem dX1_addCrowdTo_20 : decode cX1_addCrowdTo 20 = .ok (.aload_n 3, 1) := by decide +kernel
theorem dX1_addCrowdTo_21 : decode cX1_addCrowdTo 21 = .ok (.iload 6, 2) := by decide +kernel
theorem dX1_addCrowdTo_23 : decode cX1_addCrowdTo 23 = .ok (.invokevirtual 159, 3) := by decide +kernel
theorem dX1_addCrowdTo_26 : decode cX1_addCrowdTo 26 = .ok (.i2l, 1) := by decide +kernel
theorem dX1_addCrowdTo_27 : decode cX1_addCrowdTo 27 = .ok (.ladd, 1) := by decide +kernel
theorem dX1_addCrowdTo_28 : decode cX1_addCrowdTo 28 = .ok (.lstore 4, 2) := by decide +kernel
theorem dX1_addCrowdTo_30 : decode cX1_addCrowdTo 30 = .ok (.iinc 6 1, 3) := by decide +kernel
theorem dX1_addCrowdTo_33 : decode cX1_addCrowdTo 33 = .ok (.goto (-27), 3) := by decide +kernel
theorem dX1_addCrowdTo_36 : decode cX1_addCrowdTo 36 = .ok (.aload_n 3, 1) := by decide +kernel
theorem dX1_addCrowdTo_37 : decode cX1_addCrowdTo 37 = .ok (.lload 4, 2) := by decide +kernel
theorem dX1_addCrowdTo_39 : decode cX1_addCrowdTo 39 = .ok (.invokevirtual 163, 3) := by decide +kernel
theorem dX1_addCrowdTo_42 : decode cX1_addCrowdTo 42 = .ok (.lreturn, 1) := by decide +kernel
theorem dX1_addPatrolTo_0 : decode cX1_addPatrolTo 0 = .ok (.lload_n 1, 1) := by decide +kernel
theorem dX1_addPatrolTo_1 : decode cX1_addPatrolTo 1 = .ok (.lstore 4, 2) := by decide +kernel
theorem dX1_addPatrolTo_3 : decode cX1_addPatrolTo 3 = .ok (.iconst 0, 1) := by decide +kernel
theorem dX1_addPatrolTo_4 : decode cX1_addPatrolTo 4 = .ok (.istore 6, 2) := by decide +kernel
theorem dX1_addPatrolTo_6 : decode cX1_addPatrolTo 6 = .ok (.iload 6, 2) := by decide +kernel
theorem dX1_addPatrolTo_8 : decode cX1_addPatrolTo 8 = .ok (.iconst 4, 1) := by decide +kernel
theorem dX1_addPatrolTo_9 : decode cX1_addPatrolTo 9 = .ok (.if_icmp .ge 26, 3) := by decide +kernel
theorem dX1_addPatrolTo_12 : decode cX1_addPatrolTo 12 = .ok (.lload 4, 2) := by decide +kernel
theorem dX1_addPatrolTo_14 : decode cX1_addPatrolTo 14 = .ok (.ldc2_w 157, 3) := by decide +kernel
theorem dX1_addPatrolTo_17 : decode cX1_addPatrolTo 17 = .ok (.lmul, 1) := by decide +kernel
theorem dX1_addPatrolTo_18 : decode cX1_addPatrolTo 18 = .ok (.aload_n 0, 1) := by decide +kernel
theorem dX1_addPatrolTo_19 : decode cX1_addPatrolTo 19 = .ok (.aload_n 3, 1) := by decide +kernel
theorem dX1_addPatrolTo_20 : decode cX1_addPatrolTo 20 = .ok (.iload 6, 2) := by decide +kernel
theorem dX1_addPatrolTo_22 : decode cX1_addPatrolTo 22 = .ok (.invokevirtual 167, 3) := by decide +kernel
theorem dX1_addPatrolTo_25 : decode cX1_addPatrolTo 25 = .ok (.i2l, 1) := by decide +kernel
theorem dX1_addPatrolTo_26 : decode cX1_addPatrolTo 26 = .ok (.ladd, 1) := by decide +kernel
theorem dX1_addPatrolTo_27 : decode cX1_addPatrolTo 27 = .ok (.lstore 4, 2) := by decide +kernel
theorem dX1_addPatrolTo_29 : decode cX1_addPatrolTo 29 = .ok (.iinc 6 1, 3) := by decide +kernel
theorem dX1_addPatrolTo_32 : decode cX1_addPatrolTo 32 = .ok (.goto (-26), 3) := by decide +kernel
theorem dX1_addPatrolTo_35 : decode cX1_addPatrolTo 35 = .ok (.lload 4, 2) := by decide +kernel
theorem dX1_addPatrolTo_37 : decode cX1_addPatrolTo 37 = .ok (.lreturn, 1) := by decide +kernel
theorem dX1_become_0 : decode cX1_become 0 = .ok (.aload_n 0, 1) := by decide +kernel
theorem dX1_become_1 : decode cX1_become 1 = .ok (.getfield 12, 3) := by decide +kernel
theorem dX1_become_4 : decode cX1_become 4 = .ok (.aload_n 1, 1) := by decide +kernel
theorem dX1_become_5 : decode cX1_become 5 = .ok (.getfield 12, 3) := by decide +kernel
theorem dX1_become_8 : decode cX1_become 8 = .ok (.invokevirtual 171, 3) := by decide +kernel
theorem dX1_become_11 : decode cX1_become 11 = .ok (.iconst 0, 1) := by decide +kernel
theorem dX1_become_12 : decode cX1_become 12 = .ok (.istore_n 2, 1) := by decide +kernel
theorem dX1_become_13 : decode cX1_become 13 = .ok (.iload_n 2, 1) := by decide +kernel
theorem dX1_become_14 : decode cX1_become 14 = .ok (.bipush 6, 2) := by decide +kernel
theorem dX1_become_16 : decode cX1_become 16 = .ok (.if_icmp .ge 24, 3) := by decide +kernel
theorem dX1_become_19 : decode cX1_become 19 = .ok (.aload_n 0, 1) := by decide +kernel
theorem dX1_become_20 : decode cX1_become 20 = .ok (.getfield 20, 3) := by decide +kernel
theorem dX1_become_23 : decode cX1_become 23 = .ok (.iload_n 2, 1) := by decide +kernel
theorem dX1_become_24 : decode cX1_become 24 = .ok (.aaload, 1) := by decide +kernel
theorem dX1_become_25 : decode cX1_become 25 = .ok (.aload_n 1, 1) := by decide +kernel
theorem dX1_become_26 : decode cX1_become 26 = .ok (.getfield 20, 3) := by decide +kernel
theorem dX1_become_29 : decode cX1_become 29 = .ok (.iload_n 2, 1) := by decide +kernel
theorem dX1_become_30 : decode cX1_become 30 = .ok (.aaload, 1) := by decide +kernel
theorem dX1_become_31 : decode cX1_become 31 = .ok (.invokevirtual 174, 3) := by decide +kernel
theorem dX1_become_34 : decode cX1_become 34 = .ok (.iinc 2 1, 3) := by decide +kernel
theorem dX1_become_37 : decode cX1_become 37 = .ok (.goto (-24), 3) := by decide +kernel
theorem dX1_become_40 : decode cX1_become 40 = .ok (.aload_n 0, 1) := by decide +kernel
theorem dX1_become_41 : decode cX1_become 41 = .ok (.aload_n 1, 1) := by decide +kernel
theorem dX1_become_42 : decode cX1_become 42 = .ok (.getfield 32, 3) := by decide +kernel
theorem dX1_become_45 : decode cX1_become 45 = .ok (.putfield 32, 3) := by decide +kernel
theorem dX1_become_48 : decode cX1_become 48 = .ok (.iconst 0, 1) := by decide +kernel
theorem dX1_become_49 : decode cX1_become 49 = .ok (.istore_n 2, 1) := by decide +kernel
theorem dX1_become_50 : decode cX1_become 50 = .ok (.iload_n 2, 1) := by decide +kernel
theorem dX1_become_51 : decode cX1_become 51 = .ok (.iconst 3, 1) := by decide +kernel
theorem dX1_become_52 : decode cX1_become 52 = .ok (.if_icmp .ge 24, 3) := by decide +kernel
theorem dX1_become_55 : decode cX1_become 55 = .ok (.aload_n 0, 1) := by decide +kernel
theorem dX1_become_56 : decode cX1_become 56 = .ok (.getfield 27, 3) := by decide +kernel
theorem dX1_become_59 : decode cX1_become 59 = .ok (.iload_n 2, 1) := by decide +kernel
theorem dX1_become_60 : decode cX1_become 60 = .ok (.aaload, 1) := by decide +kernel
theorem dX1_become_61 : decode cX1_become 61 = .ok (.aload_n 1, 1) := by decide +kernel
theorem dX1_become_62 : decode cX1_become 62 = .ok (.getfield 27, 3) := by decide +kernel
theorem dX1_become_65 : decode cX1_become 65 = .ok (.iload_n 2, 1) := by decide +kernel
theorem dX1_become_66 : decode cX1_become 66 = .ok (.aaload, 1) := by decide +kernel
theorem dX1_become_67 : decode cX1_become 67 = .ok (.invokevirtual 177, 3) := by decide +kernel
theorem dX1_become_70 : decode cX1_become 70 = .ok (.iinc 2 1, 3) := by decide +kernel
theorem dX1_become_73 : decode cX1_become 73 = .ok (.goto (-23), 3) := by decide +kernel
theorem dX1_become_76 : decode cX1_become 76 = .ok (.aload_n 0, 1) := by decide +kernel
theorem dX1_become_77 : decode cX1_become 77 = .ok (.aload_n 1, 1) := by decide +kernel
theorem dX1_become_78 : decode cX1_become 78 = .ok (.getfield 46, 3) := by decide +kernel
theorem dX1_become_81 : decode cX1_become 81 = .ok (.putfield 46, 3) := by decide +kernel
theorem dX1_become_84 : decode cX1_become 84 = .ok (.aload_n 0, 1) := by decide +kernel
theorem dX1_become_85 : decode cX1_become 85 = .ok (.aload_n 1, 1) := by decide +kernel
theorem dX1_become_86 : decode cX1_become 86 = .ok (.getfield 66, 3) := by decide +kernel
theorem dX1_become_89 : decode cX1_become 89 = .ok (.putfield 66, 3) := by decide +kernel
theorem dX1_become_92 : decode cX1_become 92 = .ok (.return_, 1) := by decide +kernel
theorem dX2_init_0 : decode cX2_init 0 = .ok (.aload_n 0, 1) := by decide +kernel
theorem dX2_init_1 : decode cX2_init 1 = .ok (.invokespecial 1, 3) := by decide +kernel
theorem dX2_init_4 : decode cX2_init 4 = .ok (.return_, 1) := by decide +kernel
theorem dX2_nextDirection_0 : decode cX2_nextDirection 0 = .ok (.aload_n 0, 1) := by decide +kernel
theorem dX2_nextDirection_1 : decode cX2_nextDirection 1 = .ok (.getfield 7, 3) := by decide +kernel
theorem dX2_nextDirection_4 : decode cX2_nextDirection 4 = .ok (.iconst 2, 1) := by decide +kernel
theorem dX2_nextDirection_5 : decode cX2_nextDirection 5 = .ok (.aload_n 0, 1) := by decide +kernel
theorem dX2_nextDirection_6 : decode cX2_nextDirection 6 = .ok (.getfield 13, 3) := by decide +kernel
theorem dX2_nextDirection_9 : decode cX2_nextDirection 9 = .ok (.imul, 1) := by decide +kernel
theorem dX2_nextDirection_10 : decode cX2_nextDirection 10 = .ok (.ishr, 1) := by decide +kernel
theorem dX2_nextDirection_11 : decode cX2_nextDirection 11 = .ok (.iconst 3, 1) := by decide +kernel
theorem dX2_nextDirection_12 : decode cX2_nextDirection 12 = .ok (.iand, 1) := by decide +kernel
theorem dX2_nextDirection_13 : decode cX2_nextDirection 13 = .ok (.ireturn, 1) := by decide +kernel
theorem dX2_moveOn_0 : decode cX2_moveOn 0 = .ok (.aload_n 0, 1) := by decide +kernel
theorem dX2_moveOn_1 : decode cX2_moveOn 1 = .ok (.getfield 16, 3) := by decide +kernel
theorem dX2_moveOn_4 : decode cX2_moveOn 4 = .ok (.aload_n 0, 1) := by decide +kernel
theorem dX2_moveOn_5 : decode cX2_moveOn 5 = .ok (.invokevirtual 19, 3) := by decide +kernel
theorem dX2_moveOn_8 : decode cX2_moveOn 8 = .ok (.invokestatic 23, 3) := by decide +kernel
theorem dX2_moveOn_11 : decode cX2_moveOn 11 = .ok (.istore_n 2, 1) := by decide +kernel
theorem dX2_moveOn_12 : decode cX2_moveOn 12 = .ok (.aload_n 1, 1) := by decide +kernel
theorem dX2_moveOn_13 : decode cX2_moveOn 13 = .ok (.iload_n 2, 1) := by decide +kernel
theorem dX2_moveOn_14 : decode cX2_moveOn 14 = .ok (.invokevirtual 29, 3) := by decide +kernel
theorem dX2_moveOn_17 : decode cX2_moveOn 17 = .ok (.ifCond .eq 8, 3) := by decide +kernel
theorem dX2_moveOn_20 : decode cX2_moveOn 20 = .ok (.aload_n 0, 1) := by decide +kernel
theorem dX2_moveOn_21 : decode cX2_moveOn 21 = .ok (.iload_n 2, 1) := by decide +kernel
theorem dX2_moveOn_22 : decode cX2_moveOn 22 = .ok (.putfield 16, 3) := by decide +kernel
theorem dX2_moveOn_25 : decode cX2_moveOn 25 = .ok (.aload_n 0, 1) := by decide +kernel
theorem dX2_moveOn_26 : decode cX2_moveOn 26 = .ok (.aload_n 0, 1) := by decide +kernel
theorem dX2_moveOn_27 : decode cX2_moveOn 27 = .ok (.getfield 13, 3) := by decide +kernel
theorem dX2_moveOn_30 : decode cX2_moveOn 30 = .ok (.iconst 1, 1) := by decide +kernel
theorem dX2_moveOn_31 : decode cX2_moveOn 31 = .ok (.iadd, 1) := by decide +kernel
theorem dX2_moveOn_32 : decode cX2_moveOn 32 = .ok (.aload_n 0, 1) := by decide +kernel
theorem dX2_moveOn_33 : decode cX2_moveOn 33 = .ok (.getfield 33, 3) := by decide +kernel
theorem dX2_moveOn_36 : decode cX2_moveOn 36 = .ok (.if_icmp .ge 12, 3) := by decide +kernel
theorem dX2_moveOn_39 : decode cX2_moveOn 39 = .ok (.aload_n 0, 1) := by decide +kernel
theorem dX2_moveOn_40 : decode cX2_moveOn 40 = .ok (.getfield 13, 3) := by decide +kernel
theorem dX2_moveOn_43 : decode cX2_moveOn 43 = .ok (.iconst 1, 1) := by decide +kernel
theorem dX2_moveOn_44 : decode cX2_moveOn 44 = .ok (.iadd, 1) := by decide +kernel
theorem dX2_moveOn_45 : decode cX2_moveOn 45 = .ok (.goto 4, 3) := by decide +kernel
theorem dX2_moveOn_48 : decode cX2_moveOn 48 = .ok (.iconst 0, 1) := by decide +kernel
theorem dX2_moveOn_49 : decode cX2_moveOn 49 = .ok (.putfield 13, 3) := by decide +kernel
theorem dX2_moveOn_52 : decode cX2_moveOn 52 = .ok (.return_, 1) := by decide +kernel
theorem dX2_become_0 : decode cX2_become 0 = .ok (.aload_n 0, 1) := by decide +kernel
theorem dX2_become_1 : decode cX2_become 1 = .ok (.aload_n 1, 1) := by decide +kernel
theorem dX2_become_2 : decode cX2_become 2 = .ok (.getfield 16, 3) := by decide +kernel
theorem dX2_become_5 : decode cX2_become 5 = .ok (.putfield 16, 3) := by decide +kernel
theorem dX2_become_8 : decode cX2_become 8 = .ok (.aload_n 0, 1) := by decide +kernel
theorem dX2_become_9 : decode cX2_become 9 = .ok (.aload_n 1, 1) := by decide +kernel
theorem dX2_become_10 : decode cX2_become 10 = .ok (.getfield 33, 3) := by decide +kernel
theorem dX2_become_13 : decode cX2_become 13 = .ok (.putfield 33, 3) := by decide +kernel
theorem dX2_become_16 : decode cX2_become 16 = .ok (.aload_n 0, 1) := by decide +kernel
theorem dX2_become_17 : decode cX2_become 17 = .ok (.aload_n 1, 1) := by decide +kernel
theorem dX2_become_18 : decode cX2_become 18 = .ok (.getfield 7, 3) := by decide +kernel
theorem dX2_become_21 : decode cX2_become 21 = .ok (.putfield 7, 3) := by decide +kernel
theorem dX2_become_24 : decode cX2_become 24 = .ok (.aload_n 0, 1) := by decide +kernel
theorem dX2_become_25 : decode cX2_become 25 = .ok (.aload_n 1, 1) := by decide +kernel
theorem dX2_become_26 : decode cX2_become 26 = .ok (.getfield 13, 3) := by decide +kernel
theorem dX2_become_29 : decode cX2_become 29 = .ok (.putfield 13, 3) := by decide +kernel
theorem dX2_become_32 : decode cX2_become 32 = .ok (.return_, 1) := by decide +kernel
theorem dX3_init_0 : decode cX3_init 0 = .ok (.aload_n 0, 1) := by decide +kernel
theorem dX3_init_1 : decode cX3_init 1 = .ok (.invokespecial 3, 3) := by decide +kernel
theorem dX3_init_4 : decode cX3_init 4 = .ok (.aload_n 0, 1) := by decide +kernel
theorem dX3_init_5 : decode cX3_init 5 = .ok (.bipush 108, 2) := by decide +kernel
theorem dX3_init_7 : decode cX3_init 7 = .ok (.newarray .int, 2) := by decide +kernel
theorem dX3_init_9 : decode cX3_init 9 = .ok (.putfield 9, 3) := by decide +kernel
theorem dX3_init_12 : decode cX3_init 12 = .ok (.return_, 1) := by decide +kernel
theorem dX3_next_0 : decode cX3_next 0 = .ok (.iload_n 0, 1) := by decide +kernel
theorem dX3_next_1 : decode cX3_next 1 = .ok (.ifCond .lt 9, 3) := by decide +kernel
theorem dX3_next_4 : decode cX3_next 4 = .ok (.iload_n 0, 1) := by decide +kernel
theorem dX3_next_5 : decode cX3_next 5 = .ok (.bipush 108, 2) := by decide +kernel
theorem dX3_next_7 : decode cX3_next 7 = .ok (.if_icmp .lt 5, 3) := by decide +kernel
theorem dX3_next_10 : decode cX3_next 10 = .ok (.iconst (-1), 1) := by decide +kernel
theorem dX3_next_11 : decode cX3_next 11 = .ok (.ireturn, 1) := by decide +kernel
theorem dX3_next_12 : decode cX3_next 12 = .ok (.iload_n 1, 1) := by decide +kernel
theorem dX3_next_13 : decode cX3_next 13 = .ok (.tableswitch 74 0 2 #[27, 42, 59], 27) := by decide +kernel
theorem dX3_next_40 : decode cX3_next 40 = .ok (.iload_n 0, 1) := by decide +kernel
theorem dX3_next_41 : decode cX3_next 41 = .ok (.bipush 12, 2) := by decide +kernel
theorem dX3_next_43 : decode cX3_next 43 = .ok (.if_icmp .lt 10, 3) := by decide +kernel
theorem dX3_next_46 : decode cX3_next 46 = .ok (.iload_n 0, 1) := by decide +kernel
theorem dX3_next_47 : decode cX3_next 47 = .ok (.bipush 12, 2) := by decide +kernel
theorem dX3_next_49 : decode cX3_next 49 = .ok (.isub, 1) := by decide +kernel
theorem dX3_next_50 : decode cX3_next 50 = .ok (.goto 4, 3) := by decide +kernel
theorem dX3_next_53 : decode cX3_next 53 = .ok (.iconst (-1), 1) := by decide +kernel
theorem dX3_next_54 : decode cX3_next 54 = .ok (.ireturn, 1) := by decide +kernel
theorem dX3_next_55 : decode cX3_next 55 = .ok (.iload_n 0, 1) := by decide +kernel
theorem dX3_next_56 : decode cX3_next 56 = .ok (.bipush 12, 2) := by decide +kernel
theorem dX3_next_58 : decode cX3_next 58 = .ok (.irem, 1) := by decide +kernel
theorem dX3_next_59 : decode cX3_next 59 = .ok (.bipush 11, 2) := by decide +kernel
theorem dX3_next_61 : decode cX3_next 61 = .ok (.if_icmp .ge 9, 3) := by decide +kernel
theorem dX3_next_64 : decode cX3_next 64 = .ok (.iload_n 0, 1) := by decide +kernel
theorem dX3_next_65 : decode cX3_next 65 = .ok (.iconst 1, 1) := by decide +kernel
theorem dX3_next_66 : decode cX3_next 66 = .ok (.iadd, 1) := by decide +kernel
theorem dX3_next_67 : decode cX3_next 67 = .ok (.goto 4, 3) := by decide +kernel
theorem dX3_next_70 : decode cX3_next 70 = .ok (.iconst (-1), 1) := by decide +kernel
theorem dX3_next_71 : decode cX3_next 71 = .ok (.ireturn, 1) := by decide +kernel
theorem dX3_next_72 : decode cX3_next 72 = .ok (.iload_n 0, 1) := by decide +kernel
theorem dX3_next_73 : decode cX3_next 73 = .ok (.bipush 96, 2) := by decide +kernel
theorem dX3_next_75 : decode cX3_next 75 = .ok (.if_icmp .ge 10, 3) := by decide +kernel
theorem dX3_next_78 : decode cX3_next 78 = .ok (.iload_n 0, 1) := by decide +kernel
theorem dX3_next_79 : decode cX3_next 79 = .ok (.bipush 12, 2) := by decide +kernel
theorem dX3_next_81 : decode cX3_next 81 = .ok (.iadd, 1) := by decide +kernel
theorem dX3_next_82 : decode cX3_next 82 = .ok (.goto 4, 3) := by decide +kernel
theorem dX3_next_85 : decode cX3_next 85 = .ok (.iconst (-1), 1) := by decide +kernel
theorem dX3_next_86 : decode cX3_next 86 = .ok (.ireturn, 1) := by decide +kernel
theorem dX3_next_87 : decode cX3_next 87 = .ok (.iload_n 0, 1) := by decide +kernel
theorem dX3_next_88 : decode cX3_next 88 = .ok (.bipush 12, 2) := by decide +kernel
theorem dX3_next_90 : decode cX3_next 90 = .ok (.irem, 1) := by decide +kernel
theorem dX3_next_91 : decode cX3_next 91 = .ok (.ifCond .le 9, 3) := by decide +kernel
theorem dX3_next_94 : decode cX3_next 94 = .ok (.iload_n 0, 1) := by decide +kernel
theorem dX3_next_95 : decode cX3_next 95 = .ok (.iconst 1, 1) := by decide +kernel
theorem dX3_next_96 : decode cX3_next 96 = .ok (.isub, 1) := by decide +kernel
theorem dX3_next_97 : decode cX3_next 97 = .ok (.goto 4, 3) := by decide +kernel
theorem dX3_next_100 : decode cX3_next 100 = .ok (.iconst (-1), 1) := by decide +kernel
theorem dX3_next_101 : decode cX3_next 101 = .ok (.ireturn, 1) := by decide +kernel
theorem dX3_at_0 : decode cX3_at 0 = .ok (.iload_n 1, 1) := by decide +kernel
theorem dX3_at_1 : decode cX3_at 1 = .ok (.ifCond .lt 18, 3) := by decide +kernel
theorem dX3_at_4 : decode cX3_at 4 = .ok (.iload_n 1, 1) := by decide +kernel
theorem dX3_at_5 : decode cX3_at 5 = .ok (.bipush 108, 2) := by decide +kernel
theorem dX3_at_7 : decode cX3_at 7 = .ok (.if_icmp .ge 12, 3) := by decide +kernel
theorem dX3_at_10 : decode cX3_at 10 = .ok (.aload_n 0, 1) := by decide +kernel
theorem dX3_at_11 : decode cX3_at 11 = .ok (.getfield 9, 3) := by decide +kernel
theorem dX3_at_14 : decode cX3_at 14 = .ok (.iload_n 1, 1) := by decide +kernel
theorem dX3_at_15 : decode cX3_at 15 = .ok (.iaload, 1) := by decide +kernel
theorem dX3_at_16 : decode cX3_at 16 = .ok (.goto 4, 3) := by decide +kernel
theorem dX3_at_19 : decode cX3_at 19 = .ok (.iconst (-1), 1) := by decide +kernel
theorem dX3_at_20 : decode cX3_at 20 = .ok (.ireturn, 1) := by decide +kernel
theorem dX3_put_0 : decode cX3_put 0 = .ok (.iload_n 1, 1) := by decide +kernel
theorem dX3_put_1 : decode cX3_put 1 = .ok (.ifCond .lt 16, 3) := by decide +kernel
theorem dX3_put_4 : decode cX3_put 4 = .ok (.iload_n 1, 1) := by decide +kernel
theorem dX3_put_5 : decode cX3_put 5 = .ok (.bipush 108, 2) := by decide +kernel
theorem dX3_put_7 : decode cX3_put 7 = .ok (.if_icmp .ge 10, 3) := by decide +kernel
theorem dX3_put_10 : decode cX3_put 10 = .ok (.aload_n 0, 1) := by decide +kernel
theorem dX3_put_11 : decode cX3_put 11 = .ok (.getfield 9, 3) := by decide +kernel
theorem dX3_put_14 : decode cX3_put 14 = .ok (.iload_n 1, 1) := by decide +kernel
theorem dX3_put_15 : decode cX3_put 15 = .ok (.iload_n 2, 1) := by decide +kernel
theorem dX3_put_16 : decode cX3_put 16 = .ok (.iastore, 1) := by decide +kernel
theorem dX3_put_17 : decode cX3_put 17 = .ok (.return_, 1) := by decide +kernel
theorem dX3_isFree_0 : decode cX3_isFree 0 = .ok (.aload_n 0, 1) := by decide +kernel
theorem dX3_isFree_1 : decode cX3_isFree 1 = .ok (.iload_n 1, 1) := by decide +kernel
theorem dX3_isFree_2 : decode cX3_isFree 2 = .ok (.invokevirtual 15, 3) := by decide +kernel
theorem dX3_isFree_5 : decode cX3_isFree 5 = .ok (.ifCond .ne 7, 3) := by decide +kernel
theorem dX3_isFree_8 : decode cX3_isFree 8 = .ok (.iconst 1, 1) := by decide +kernel
theorem dX3_isFree_9 : decode cX3_isFree 9 = .ok (.goto 4, 3) := by decide +kernel
theorem dX3_isFree_12 : decode cX3_isFree 12 = .ok (.iconst 0, 1) := by decide +kernel
theorem dX3_isFree_13 : decode cX3_isFree 13 = .ok (.ireturn, 1) := by decide +kernel
theorem dX3_cellsWith_0 : decode cX3_cellsWith 0 = .ok (.iconst 0, 1) := by decide +kernel
theorem dX3_cellsWith_1 : decode cX3_cellsWith 1 = .ok (.istore_n 2, 1) := by decide +kernel
theorem dX3_cellsWith_2 : decode cX3_cellsWith 2 = .ok (.iconst 0, 1) := by decide +kernel
theorem dX3_cellsWith_3 : decode cX3_cellsWith 3 = .ok (.istore_n 3, 1) := by decide +kernel
theorem dX3_cellsWith_4 : decode cX3_cellsWith 4 = .ok (.iload_n 3, 1) := by decide +kernel
theorem dX3_cellsWith_5 : decode cX3_cellsWith 5 = .ok (.bipush 108, 2) := by decide +kernel
theorem dX3_cellsWith_7 : decode cX3_cellsWith 7 = .ok (.if_icmp .ge 22, 3) := by decide +kernel
theorem dX3_cellsWith_10 : decode cX3_cellsWith 10 = .ok (.aload_n 0, 1) := by decide +kernel
theorem dX3_cellsWith_11 : decode cX3_cellsWith 11 = .ok (.getfield 9, 3) := by decide +kernel
theorem dX3_cellsWith_14 : decode cX3_cellsWith 14 = .ok (.iload_n 3, 1) := by decide +kernel
theorem dX3_cellsWith_15 : decode cX3_cellsWith 15 = .ok (.iaload, 1) := by decide +kernel
theorem dX3_cellsWith_16 : decode cX3_cellsWith 16 = .ok (.iload_n 1, 1) := by decide +kernel
theorem dX3_cellsWith_17 : decode cX3_cellsWith 17 = .ok (.if_icmp .ne 6, 3) := by decide +kernel
theorem dX3_cellsWith_20 : decode cX3_cellsWith 20 = .ok (.iinc 2 1, 3) := by decide +kernel
theorem dX3_cellsWith_23 : decode cX3_cellsWith 23 = .ok (.iinc 3 1, 3) := by decide +kernel
theorem dX3_cellsWith_26 : decode cX3_cellsWith 26 = .ok (.goto (-22), 3) := by decide +kernel
theorem dX3_cellsWith_29 : decode cX3_cellsWith 29 = .ok (.iload_n 2, 1) := by decide +kernel
theorem dX3_cellsWith_30 : decode cX3_cellsWith 30 = .ok (.ireturn, 1) := by decide +kernel
theorem dX3_barricades_0 : decode cX3_barricades 0 = .ok (.iconst 0, 1) := by decide +kernel
theorem dX3_barricades_1 : decode cX3_barricades 1 = .ok (.istore_n 1, 1) := by decide +kernel
theorem dX3_barricades_2 : decode cX3_barricades 2 = .ok (.iconst 0, 1) := by decide +kernel
theorem dX3_barricades_3 : decode cX3_barricades 3 = .ok (.istore_n 2, 1) := by decide +kernel
theorem dX3_barricades_4 : decode cX3_barricades 4 = .ok (.iload_n 2, 1) := by decide +kernel
theorem dX3_barricades_5 : decode cX3_barricades 5 = .ok (.bipush 108, 2) := by decide +kernel
theorem dX3_barricades_7 : decode cX3_barricades 7 = .ok (.if_icmp .ge 27, 3) := by decide +kernel
theorem dX3_barricades_10 : decode cX3_barricades 10 = .ok (.aload_n 0, 1) := by decide +kernel
theorem dX3_barricades_11 : decode cX3_barricades 11 = .ok (.getfield 9, 3) := by decide +kernel
theorem dX3_barricades_14 : decode cX3_barricades 14 = .ok (.iload_n 2, 1) := by decide +kernel
theorem dX3_barricades_15 : decode cX3_barricades 15 = .ok (.iaload, 1) := by decide +kernel
theorem dX3_barricades_16 : decode cX3_barricades 16 = .ok (.ifCond .le 12, 3) := by decide +kernel
theorem dX3_barricades_19 : decode cX3_barricades 19 = .ok (.iload_n 1, 1) := by decide +kernel
theorem dX3_barricades_20 : decode cX3_barricades 20 = .ok (.aload_n 0, 1) := by decide +kernel
theorem dX3_barricades_21 : decode cX3_barricades 21 = .ok (.getfield 9, 3) := by decide +kernel
theorem dX3_barricades_24 : decode cX3_barricades 24 = .ok (.iload_n 2, 1) := by decide +kernel
theorem dX3_barricades_25 : decode cX3_barricades 25 = .ok (.iaload, 1) := by decide +kernel
theorem dX3_barricades_26 : decode cX3_barricades 26 = .ok (.iadd, 1) := by decide +kernel
theorem dX3_barricades_27 : decode cX3_barricades 27 = .ok (.istore_n 1, 1) := by decide +kernel
theorem dX3_barricades_28 : decode cX3_barricades 28 = .ok (.iinc 2 1, 3) := by decide +kernel
theorem dX3_barricades_31 : decode cX3_barricades 31 = .ok (.goto (-27), 3) := by decide +kernel
theorem dX3_barricades_34 : decode cX3_barricades 34 = .ok (.iload_n 1, 1) := by decide +kernel
theorem dX3_barricades_35 : decode cX3_barricades 35 = .ok (.ireturn, 1) := by decide +kernel
theorem dX3_addCellsTo_0 : decode cX3_addCellsTo 0 = .ok (.lload_n 1, 1) := by decide +kernel
theorem dX3_addCellsTo_1 : decode cX3_addCellsTo 1 = .ok (.lstore_n 3, 1) := by decide +kernel
theorem dX3_addCellsTo_2 : decode cX3_addCellsTo 2 = .ok (.iconst 0, 1) := by decide +kernel
theorem dX3_addCellsTo_3 : decode cX3_addCellsTo 3 = .ok (.istore 5, 2) := by decide +kernel
theorem dX3_addCellsTo_5 : decode cX3_addCellsTo 5 = .ok (.iload 5, 2) := by decide +kernel
theorem dX3_addCellsTo_7 : decode cX3_addCellsTo 7 = .ok (.bipush 108, 2) := by decide +kernel
theorem dX3_addCellsTo_9 : decode cX3_addCellsTo 9 = .ok (.if_icmp .ge 24, 3) := by decide +kernel
theorem dX3_addCellsTo_12 : decode cX3_addCellsTo 12 = .ok (.lload_n 3, 1) := by decide +kernel
theorem dX3_addCellsTo_13 : decode cX3_addCellsTo 13 = .ok (.ldc2_w 19, 3) := by decide +kernel
theorem dX3_addCellsTo_16 : decode cX3_addCellsTo 16 = .ok (.lmul, 1) := by decide +kernel
theorem dX3_addCellsTo_17 : decode cX3_addCellsTo 17 = .ok (.aload_n 0, 1) := by decide +kernel
theorem dX3_addCellsTo_18 : decode cX3_addCellsTo 18 = .ok (.getfield 9, 3) := by decide +kernel
theorem dX3_addCellsTo_21 : decode cX3_addCellsTo 21 = .ok (.iload 5, 2) := by decide +kernel
theorem dX3_addCellsTo_23 : decode cX3_addCellsTo 23 = .ok (.iaload, 1) := by decide +kernel
theorem dX3_addCellsTo_24 : decode cX3_addCellsTo 24 = .ok (.i2l, 1) := by decide +kernel
theorem dX3_addCellsTo_25 : decode cX3_addCellsTo 25 = .ok (.ladd, 1) := by decide +kernel
theorem dX3_addCellsTo_26 : decode cX3_addCellsTo 26 = .ok (.lstore_n 3, 1) := by decide +kernel
theorem dX3_addCellsTo_27 : decode cX3_addCellsTo 27 = .ok (.iinc 5 1, 3) := by decide +kernel
theorem dX3_addCellsTo_30 : decode cX3_addCellsTo 30 = .ok (.goto (-25), 3) := by decide +kernel
theorem dX3_addCellsTo_33 : decode cX3_addCellsTo 33 = .ok (.lload_n 3, 1) := by decide +kernel
theorem dX3_addCellsTo_34 : decode cX3_addCellsTo 34 = .ok (.lreturn, 1) := by decide +kernel
theorem dX3_become_0 : decode cX3_become 0 = .ok (.aload_n 1, 1) := by decide +kernel
theorem dX3_become_1 : decode cX3_become 1 = .ok (.getfield 9, 3) := by decide +kernel
theorem dX3_become_4 : decode cX3_become 4 = .ok (.iconst 0, 1) := by decide +kernel
theorem dX3_become_5 : decode cX3_become 5 = .ok (.aload_n 0, 1) := by decide +kernel
theorem dX3_become_6 : decode cX3_become 6 = .ok (.getfield 9, 3) := by decide +kernel
theorem dX3_become_9 : decode cX3_become 9 = .ok (.iconst 0, 1) := by decide +kernel
theorem dX3_become_10 : decode cX3_become 10 = .ok (.bipush 108, 2) := by decide +kernel
theorem dX3_become_12 : decode cX3_become 12 = .ok (.invokestatic 21, 3) := by decide +kernel
theorem dX3_become_15 : decode cX3_become 15 = .ok (.return_, 1) := by decide +kernel
theorem dX4_init_0 : decode cX4_init 0 = .ok (.aload_n 0, 1) := by decide +kernel
theorem dX4_init_1 : decode cX4_init 1 = .ok (.invokespecial 3, 3) := by decide +kernel
theorem dX4_init_4 : decode cX4_init 4 = .ok (.aload_n 0, 1) := by decide +kernel
theorem dX4_init_5 : decode cX4_init 5 = .ok (.bipush 108, 2) := by decide +kernel
theorem dX4_init_7 : decode cX4_init 7 = .ok (.newarray .int, 2) := by decide +kernel
theorem dX4_init_9 : decode cX4_init 9 = .ok (.putfield 9, 3) := by decide +kernel
theorem dX4_init_12 : decode cX4_init 12 = .ok (.aload_n 0, 1) := by decide +kernel
theorem dX4_init_13 : decode cX4_init 13 = .ok (.sipush 216, 3) := by decide +kernel
theorem dX4_init_16 : decode cX4_init 16 = .ok (.newarray .int, 2) := by decide +kernel
theorem dX4_init_18 : decode cX4_init 18 = .ok (.putfield 15, 3) := by decide +kernel
theorem dX4_init_21 : decode cX4_init 21 = .ok (.return_, 1) := by decide +kernel
theorem dX4_startAnew_0 : decode cX4_startAnew 0 = .ok (.aload_n 0, 1) := by decide +kernel
theorem dX4_startAnew_1 : decode cX4_startAnew 1 = .ok (.getfield 9, 3) := by decide +kernel
theorem dX4_startAnew_4 : decode cX4_startAnew 4 = .ok (.iconst (-1), 1) := by decide +kernel
theorem dX4_startAnew_5 : decode cX4_startAnew 5 = .ok (.invokestatic 18, 3) := by decide +kernel
theorem dX4_startAnew_8 : decode cX4_startAnew 8 = .ok (.aload_n 0, 1) := by decide +kernel
theorem dX4_startAnew_9 : decode cX4_startAnew 9 = .ok (.bipush 108, 2) := by decide +kernel
theorem dX4_startAnew_11 : decode cX4_startAnew 11 = .ok (.putfield 24, 3) := by decide +kernel
theorem dX4_startAnew_14 : decode cX4_startAnew 14 = .ok (.aload_n 0, 1) := by decide +kernel
theorem dX4_startAnew_15 : decode cX4_startAnew 15 = .ok (.bipush 108, 2) := by decide +kernel
theorem dX4_startAnew_17 : decode cX4_startAnew 17 = .ok (.putfield 28, 3) := by decide +kernel
theorem dX4_startAnew_20 : decode cX4_startAnew 20 = .ok (.return_, 1) := by decide +kernel
theorem dX4_fewestSteps_0 : decode cX4_fewestSteps 0 = .ok (.aload_n 1, 1) := by decide +kernel
theorem dX4_fewestSteps_1 : decode cX4_fewestSteps 1 = .ok (.iload_n 2, 1) := by decide +kernel
theorem dX4_fewestSteps_2 : decode cX4_fewestSteps 2 = .ok (.invokevirtual 31, 3) := by decide +kernel
theorem dX4_fewestSteps_5 : decode cX4_fewestSteps 5 = .ok (.ifCond .eq 11, 3) := by decide +kernel
theorem dX4_fewestSteps_8 : decode cX4_fewestSteps 8 = .ok (.aload_n 1, 1) := by decide +kernel
theorem dX4_fewestSteps_9 : decode cX4_fewestSteps 9 = .ok (.iload_n 3, 1) := by decide +kernel
theorem dX4_fewestSteps_10 : decode cX4_fewestSteps 10 = .ok (.invokevirtual 31, 3) := by decide +kernel
theorem dX4_fewestSteps_13 : decode cX4_fewestSteps 13 = .ok (.ifCond .ne 5, 3) := by decide +kernel
theorem dX4_fewestSteps_16 : decode cX4_fewestSteps 16 = .ok (.iconst (-1), 1) := by decide +kernel
theorem dX4_fewestSteps_17 : decode cX4_fewestSteps 17 = .ok (.ireturn, 1) := by decide +kernel
theorem dX4_fewestSteps_18 : decode cX4_fewestSteps 18 = .ok (.aload_n 0, 1) := by decide +kernel
theorem dX4_fewestSteps_19 : decode cX4_fewestSteps 19 = .ok (.invokevirtual 37, 3) := by decide +kernel
theorem dX4_fewestSteps_22 : decode cX4_fewestSteps 22 = .ok (.aload_n 0, 1) := by decide +kernel
theorem dX4_fewestSteps_23 : decode cX4_fewestSteps 23 = .ok (.iload_n 2, 1) := by decide +kernel
theorem dX4_fewestSteps_24 : decode cX4_fewestSteps 24 = .ok (.iconst 0, 1) := by decide +kernel
theorem dX4_fewestSteps_25 : decode cX4_fewestSteps 25 = .ok (.invokevirtual 40, 3) := by decide +kernel
theorem dX4_fewestSteps_28 : decode cX4_fewestSteps 28 = .ok (.iconst 0, 1) := by decide +kernel
theorem dX4_fewestSteps_29 : decode cX4_fewestSteps 29 = .ok (.istore 4, 2) := by decide +kernel
theorem dX4_fewestSteps_31 : decode cX4_fewestSteps 31 = .ok (.iload 4, 2) := by decide +kernel
theorem dX4_fewestSteps_33 : decode cX4_fewestSteps 33 = .ok (.bipush 108, 2) := by decide +kernel
theorem dX4_fewestSteps_35 : decode cX4_fewestSteps 35 = .ok (.if_icmp .ge 100, 3) := by decide +kernel
theorem dX4_fewestSteps_38 : decode cX4_fewestSteps 38 = .ok (.aload_n 0, 1) := by decide +kernel
theorem dX4_fewestSteps_39 : decode cX4_fewestSteps 39 = .ok (.getfield 24, 3) := by decide +kernel
theorem dX4_fewestSteps_42 : decode cX4_fewestSteps 42 = .ok (.aload_n 0, 1) := by decide +kernel
theorem dX4_fewestSteps_43 : decode cX4_fewestSteps 43 = .ok (.getfield 28, 3) := by decide +kernel
theorem dX4_fewestSteps_46 : decode cX4_fewestSteps 46 = .ok (.if_icmp .ge 89, 3) := by decide +kernel
theorem dX4_fewestSteps_49 : decode cX4_fewestSteps 49 = .ok (.aload_n 0, 1) := by decide +kernel
theorem dX4_fewestSteps_50 : decode cX4_fewestSteps 50 = .ok (.getfield 15, 3) := by decide +kernel
theorem dX4_fewestSteps_53 : decode cX4_fewestSteps 53 = .ok (.aload_n 0, 1) := by decide +kernel
theorem dX4_fewestSteps_54 : decode cX4_fewestSteps 54 = .ok (.getfield 24, 3) := by decide +kernel
theorem dX4_fewestSteps_57 : decode cX4_fewestSteps 57 = .ok (.iaload, 1) := by decide +kernel
theorem dX4_fewestSteps_58 : decode cX4_fewestSteps 58 = .ok (.istore 5, 2) := by decide +kernel
theorem dX4_fewestSteps_60 : decode cX4_fewestSteps 60 = .ok (.aload_n 0, 1) := by decide +kernel
theorem dX4_fewestSteps_61 : decode cX4_fewestSteps 61 = .ok (.dup, 1) := by decide +kernel
theorem dX4_fewestSteps_62 : decode cX4_fewestSteps 62 = .ok (.getfield 24, 3) := by decide +kernel
theorem dX4_fewestSteps_65 : decode cX4_fewestSteps 65 = .ok (.iconst 1, 1) := by decide +kernel
theorem dX4_fewestSteps_66 : decode cX4_fewestSteps 66 = .ok (.iadd, 1) := by decide +kernel
theorem dX4_fewestSteps_67 : decode cX4_fewestSteps 67 = .ok (.putfield 24, 3) := by decide +kernel
theorem dX4_fewestSteps_70 : decode cX4_fewestSteps 70 = .ok (.iconst 0, 1) := by decide +kernel
theorem dX4_fewestSteps_71 : decode cX4_fewestSteps 71 = .ok (.istore 6, 2) := by decide +kernel
theorem dX4_fewestSteps_73 : decode cX4_fewestSteps 73 = .ok (.iload 6, 2) := by decide +kernel
theorem dX4_fewestSteps_75 : decode cX4_fewestSteps 75 = .ok (.iconst 4, 1) := by decide +kernel
theorem dX4_fewestSteps_76 : decode cX4_fewestSteps 76 = .ok (.if_icmp .ge 53, 3) := by decide +kernel
theorem dX4_fewestSteps_79 : decode cX4_fewestSteps 79 = .ok (.iload 5, 2) := by decide +kernel
theorem dX4_fewestSteps_81 : decode cX4_fewestSteps 81 = .ok (.iload 6, 2) := by decide +kernel
theorem dX4_fewestSteps_83 : decode cX4_fewestSteps 83 = .ok (.invokestatic 44, 3) := by decide +kernel
theorem dX4_fewestSteps_86 : decode cX4_fewestSteps 86 = .ok (.istore 7, 2) := by decide +kernel
theorem dX4_fewestSteps_88 : decode cX4_fewestSteps 88 = .ok (.aload_n 1, 1) := by decide +kernel
theorem dX4_fewestSteps_89 : decode cX4_fewestSteps 89 = .ok (.iload 7, 2) := by decide +kernel
theorem dX4_fewestSteps_91 : decode cX4_fewestSteps 91 = .ok (.invokevirtual 31, 3) := by decide +kernel
theorem dX4_fewestSteps_94 : decode cX4_fewestSteps 94 = .ok (.ifCond .eq 29, 3) := by decide +kernel
theorem dX4_fewestSteps_97 : decode cX4_fewestSteps 97 = .ok (.aload_n 0, 1) := by decide +kernel
theorem dX4_fewestSteps_98 : decode cX4_fewestSteps 98 = .ok (.getfield 9, 3) := by decide +kernel
theorem dX4_fewestSteps_101 : decode cX4_fewestSteps 101 = .ok (.iload 7, 2) := by decide +kernel
theorem dX4_fewestSteps_103 : decode cX4_fewestSteps 103 = .ok (.iaload, 1) := by decide +kernel
theorem dX4_fewestSteps_104 : decode cX4_fewestSteps 104 = .ok (.iconst (-1), 1) := by decide +kernel
theorem dX4_fewestSteps_105 : decode cX4_fewestSteps 105 = .ok (.if_icmp .ne 18, 3) := by decide +kernel
theorem dX4_fewestSteps_108 : decode cX4_fewestSteps 108 = .ok (.aload_n 0, 1) := by decide +kernel
theorem dX4_fewestSteps_109 : decode cX4_fewestSteps 109 = .ok (.iload 7, 2) := by decide +kernel
theorem dX4_fewestSteps_111 : decode cX4_fewestSteps 111 = .ok (.aload_n 0, 1) := by decide +kernel
theorem dX4_fewestSteps_112 : decode cX4_fewestSteps 112 = .ok (.getfield 9, 3) := by decide +kernel
theorem dX4_fewestSteps_115 : decode cX4_fewestSteps 115 = .ok (.iload 5, 2) := by decide +kernel
theorem dX4_fewestSteps_117 : decode cX4_fewestSteps 117 = .ok (.iaload, 1) := by decide +kernel
theorem dX4_fewestSteps_118 : decode cX4_fewestSteps 118 = .ok (.iconst 1, 1) := by decide +kernel
theorem dX4_fewestSteps_119 : decode cX4_fewestSteps 119 = .ok (.iadd, 1) := by decide +kernel
theorem dX4_fewestSteps_120 : decode cX4_fewestSteps 120 = .ok (.invokevirtual 40, 3) := by decide +kernel
theorem dX4_fewestSteps_123 : decode cX4_fewestSteps 123 = .ok (.iinc 6 1, 3) := by decide +kernel
theorem dX4_fewestSteps_126 : decode cX4_fewestSteps 126 = .ok (.goto (-53), 3) := by decide +kernel
theorem dX4_fewestSteps_129 : decode cX4_fewestSteps 129 = .ok (.iinc 4 1, 3) := by decide +kernel
theorem dX4_fewestSteps_132 : decode cX4_fewestSteps 132 = .ok (.goto (-101), 3) := by decide +kernel
theorem dX4_fewestSteps_135 : decode cX4_fewestSteps 135 = .ok (.aload_n 0, 1) := by decide +kernel
theorem dX4_fewestSteps_136 : decode cX4_fewestSteps 136 = .ok (.getfield 9, 3) := by decide +kernel
theorem dX4_fewestSteps_139 : decode cX4_fewestSteps 139 = .ok (.iload_n 3, 1) := by decide +kernel
theorem dX4_fewestSteps_140 : decode cX4_fewestSteps 140 = .ok (.iaload, 1) := by decide +kernel
theorem dX4_fewestSteps_141 : decode cX4_fewestSteps 141 = .ok (.ireturn, 1) := by decide +kernel
theorem dX4_fewestToShut_0 : decode cX4_fewestToShut 0 = .ok (.aload_n 0, 1) := by decide +kernel
theorem dX4_fewestToShut_1 : decode cX4_fewestToShut 1 = .ok (.invokevirtual 37, 3) := by decide +kernel
theorem dX4_fewestToShut_4 : decode cX4_fewestToShut 4 = .ok (.iconst 0, 1) := by decide +kernel
theorem dX4_fewestToShut_5 : decode cX4_fewestToShut 5 = .ok (.istore_n 2, 1) := by decide +kernel
theorem dX4_fewestToShut_6 : decode cX4_fewestToShut 6 = .ok (.iload_n 2, 1) := by decide +kernel
theorem dX4_fewestToShut_7 : decode cX4_fewestToShut 7 = .ok (.bipush 12, 2) := by decide +kernel
theorem dX4_fewestToShut_9 : decode cX4_fewestToShut 9 = .ok (.if_icmp .ge 16, 3) := by decide +kernel
theorem dX4_fewestToShut_12 : decode cX4_fewestToShut 12 = .ok (.aload_n 0, 1) := by decide +kernel
theorem dX4_fewestToShut_13 : decode cX4_fewestToShut 13 = .ok (.aload_n 1, 1) := by decide +kernel
theorem dX4_fewestToShut_14 : decode cX4_fewestToShut 14 = .ok (.iload_n 2, 1) := by decide +kernel
theorem dX4_fewestToShut_15 : decode cX4_fewestToShut 15 = .ok (.iconst 0, 1) := by decide +kernel
theorem dX4_fewestToShut_16 : decode cX4_fewestToShut 16 = .ok (.invokevirtual 48, 3) := by decide +kernel
theorem dX4_fewestToShut_19 : decode cX4_fewestToShut 19 = .ok (.iinc 2 1, 3) := by decide +kernel
theorem dX4_fewestToShut_22 : decode cX4_fewestToShut 22 = .ok (.goto (-16), 3) := by decide +kernel
theorem dX4_fewestToShut_25 : decode cX4_fewestToShut 25 = .ok (.iconst 0, 1) := by decide +kernel
theorem dX4_fewestToShut_26 : decode cX4_fewestToShut 26 = .ok (.istore_n 2, 1) := by decide +kernel
theorem dX4_fewestToShut_27 : decode cX4_fewestToShut 27 = .ok (.iload_n 2, 1) := by decide +kernel
theorem dX4_fewestToShut_28 : decode cX4_fewestToShut 28 = .ok (.bipush 108, 2) := by decide +kernel
theorem dX4_fewestToShut_30 : decode cX4_fewestToShut 30 = .ok (.if_icmp .ge 46, 3) := by decide +kernel
theorem dX4_fewestToShut_33 : decode cX4_fewestToShut 33 = .ok (.aload_n 0, 1) := by decide +kernel
theorem dX4_fewestToShut_34 : decode cX4_fewestToShut 34 = .ok (.getfield 24, 3) := by decide +kernel
theorem dX4_fewestToShut_37 : decode cX4_fewestToShut 37 = .ok (.aload_n 0, 1) := by decide +kernel
theorem dX4_fewestToShut_38 : decode cX4_fewestToShut 38 = .ok (.getfield 28, 3) := by decide +kernel
theorem dX4_fewestToShut_41 : decode cX4_fewestToShut 41 = .ok (.if_icmp .ge 35, 3) := by decide +kernel
theorem dX4_fewestToShut_44 : decode cX4_fewestToShut 44 = .ok (.aload_n 0, 1) := by decide +kernel
theorem dX4_fewestToShut_45 : decode cX4_fewestToShut 45 = .ok (.getfield 15, 3) := by decide +kernel
theorem dX4_fewestToShut_48 : decode cX4_fewestToShut 48 = .ok (.aload_n 0, 1) := by decide +kernel
theorem dX4_fewestToShut_49 : decode cX4_fewestToShut 49 = .ok (.getfield 24, 3) := by decide +kernel
theorem dX4_fewestToShut_52 : decode cX4_fewestToShut 52 = .ok (.iaload, 1) := by decide +kernel
theorem dX4_fewestToShut_53 : decode cX4_fewestToShut 53 = .ok (.istore_n 3, 1) := by decide +kernel
theorem dX4_fewestToShut_54 : decode cX4_fewestToShut 54 = .ok (.aload_n 0, 1) := by decide +kernel
theorem dX4_fewestToShut_55 : decode cX4_fewestToShut 55 = .ok (.dup, 1) := by decide +kernel
theorem dX4_fewestToShut_56 : decode cX4_fewestToShut 56 = .ok (.getfield 24, 3) := by decide +kernel
theorem dX4_fewestToShut_59 : decode cX4_fewestToShut 59 = .ok (.iconst 1, 1) := by decide +kernel
theorem dX4_fewestToShut_60 : decode cX4_fewestToShut 60 = .ok (.iadd, 1) := by decide +kernel
theorem dX4_fewestToShut_61 : decode cX4_fewestToShut 61 = .ok (.putfield 24, 3) := by decide +kernel
theorem dX4_fewestToShut_64 : decode cX4_fewestToShut 64 = .ok (.aload_n 0, 1) := by decide +kernel
theorem dX4_fewestToShut_65 : decode cX4_fewestToShut 65 = .ok (.aload_n 1, 1) := by decide +kernel
theorem dX4_fewestToShut_66 : decode cX4_fewestToShut 66 = .ok (.iload_n 3, 1) := by decide +kernel
theorem dX4_fewestToShut_67 : decode cX4_fewestToShut 67 = .ok (.invokevirtual 52, 3) := by decide +kernel
theorem dX4_fewestToShut_70 : decode cX4_fewestToShut 70 = .ok (.iinc 2 1, 3) := by decide +kernel
theorem dX4_fewestToShut_73 : decode cX4_fewestToShut 73 = .ok (.goto (-46), 3) := by decide +kernel
theorem dX4_fewestToShut_76 : decode cX4_fewestToShut 76 = .ok (.bipush 9, 2) := by decide +kernel
theorem dX4_fewestToShut_78 : decode cX4_fewestToShut 78 = .ok (.istore_n 2, 1) := by decide +kernel
theorem dX4_fewestToShut_79 : decode cX4_fewestToShut 79 = .ok (.bipush 96, 2) := by decide +kernel
theorem dX4_fewestToShut_81 : decode cX4_fewestToShut 81 = .ok (.istore_n 3, 1) := by decide +kernel
theorem dX4_fewestToShut_82 : decode cX4_fewestToShut 82 = .ok (.iload_n 3, 1) := by decide +kernel
theorem dX4_fewestToShut_83 : decode cX4_fewestToShut 83 = .ok (.bipush 108, 2) := by decide +kernel
theorem dX4_fewestToShut_85 : decode cX4_fewestToShut 85 = .ok (.if_icmp .ge 20, 3) := by decide +kernel
theorem dX4_fewestToShut_88 : decode cX4_fewestToShut 88 = .ok (.iload_n 2, 1) := by decide +kernel
theorem dX4_fewestToShut_89 : decode cX4_fewestToShut 89 = .ok (.aload_n 0, 1) := by decide +kernel
theorem dX4_fewestToShut_90 : decode cX4_fewestToShut 90 = .ok (.getfield 9, 3) := by decide +kernel
theorem dX4_fewestToShut_93 : decode cX4_fewestToShut 93 = .ok (.iload_n 3, 1) := by decide +kernel
theorem dX4_fewestToShut_94 : decode cX4_fewestToShut 94 = .ok (.iaload, 1) := by decide +kernel
theorem dX4_fewestToShut_95 : decode cX4_fewestToShut 95 = .ok (.invokestatic 56, 3) := by decide +kernel
theorem dX4_fewestToShut_98 : decode cX4_fewestToShut 98 = .ok (.istore_n 2, 1) := by decide +kernel
theorem dX4_fewestToShut_99 : decode cX4_fewestToShut 99 = .ok (.iinc 3 1, 3) := by decide +kernel
theorem dX4_fewestToShut_102 : decode cX4_fewestToShut 102 = .ok (.goto (-20), 3) := by decide +kernel
theorem dX4_fewestToShut_105 : decode cX4_fewestToShut 105 = .ok (.iload_n 2, 1) := by decide +kernel
theorem dX4_fewestToShut_106 : decode cX4_fewestToShut 106 = .ok (.ireturn, 1) := by decide +kernel
theorem dX4_leadAround_0 : decode cX4_leadAround 0 = .ok (.iload_n 2, 1) := by decide +kernel
theorem dX4_leadAround_1 : decode cX4_leadAround 1 = .ok (.bipush 12, 2) := by decide +kernel
theorem dX4_leadAround_3 : decode cX4_leadAround 3 = .ok (.irem, 1) := by decide +kernel
theorem dX4_leadAround_4 : decode cX4_leadAround 4 = .ok (.istore_n 3, 1) := by decide +kernel
theorem dX4_leadAround_5 : decode cX4_leadAround 5 = .ok (.iload_n 2, 1) := by decide +kernel
theorem dX4_leadAround_6 : decode cX4_leadAround 6 = .ok (.bipush 12, 2) := by decide +kernel
theorem dX4_leadAround_8 : decode cX4_leadAround 8 = .ok (.idiv, 1) := by decide +kernel
theorem dX4_leadAround_9 : decode cX4_leadAround 9 = .ok (.istore 4, 2) := by decide +kernel
theorem dX4_leadAround_11 : decode cX4_leadAround 11 = .ok (.iload 4, 2) := by decide +kernel
theorem dX4_leadAround_13 : decode cX4_leadAround 13 = .ok (.iconst 1, 1) := by decide +kernel
theorem dX4_leadAround_14 : decode cX4_leadAround 14 = .ok (.isub, 1) := by decide +kernel
theorem dX4_leadAround_15 : decode cX4_leadAround 15 = .ok (.iconst 0, 1) := by decide +kernel
theorem dX4_leadAround_16 : decode cX4_leadAround 16 = .ok (.invokestatic 61, 3) := by decide +kernel
theorem dX4_leadAround_19 : decode cX4_leadAround 19 = .ok (.istore 5, 2) := by decide +kernel
theorem dX4_leadAround_21 : decode cX4_leadAround 21 = .ok (.iload 5, 2) := by decide +kernel
theorem dX4_leadAround_23 : decode cX4_leadAround 23 = .ok (.iload 4, 2) := by decide +kernel
theorem dX4_leadAround_25 : decode cX4_leadAround 25 = .ok (.iconst 1, 1) := by decide +kernel
theorem dX4_leadAround_26 : decode cX4_leadAround 26 = .ok (.iadd, 1) := by decide +kernel
theorem dX4_leadAround_27 : decode cX4_leadAround 27 = .ok (.if_icmp .gt 65, 3) := by decide +kernel
theorem dX4_leadAround_30 : decode cX4_leadAround 30 = .ok (.iload 5, 2) := by decide +kernel
theorem dX4_leadAround_32 : decode cX4_leadAround 32 = .ok (.bipush 9, 2) := by decide +kernel
theorem dX4_leadAround_34 : decode cX4_leadAround 34 = .ok (.if_icmp .ge 58, 3) := by decide +kernel
theorem dX4_leadAround_37 : decode cX4_leadAround 37 = .ok (.iload_n 3, 1) := by decide +kernel
theorem dX4_leadAround_38 : decode cX4_leadAround 38 = .ok (.iconst 1, 1) := by decide +kernel
theorem dX4_leadAround_39 : decode cX4_leadAround 39 = .ok (.isub, 1) := by decide +kernel
theorem dX4_leadAround_40 : decode cX4_leadAround 40 = .ok (.iconst 0, 1) := by decide +kernel
theorem dX4_leadAround_41 : decode cX4_leadAround 41 = .ok (.invokestatic 61, 3) := by decide +kernel
theorem dX4_leadAround_44 : decode cX4_leadAround 44 = .ok (.istore 6, 2) := by decide +kernel
theorem dX4_leadAround_46 : decode cX4_leadAround 46 = .ok (.iload 6, 2) := by decide +kernel
theorem dX4_leadAround_48 : decode cX4_leadAround 48 = .ok (.iload_n 3, 1) := by decide +kernel
theorem dX4_leadAround_49 : decode cX4_leadAround 49 = .ok (.iconst 1, 1) := by decide +kernel
theorem dX4_leadAround_50 : decode cX4_leadAround 50 = .ok (.iadd, 1) := by decide +kernel
theorem dX4_leadAround_51 : decode cX4_leadAround 51 = .ok (.if_icmp .gt 35, 3) := by decide +kernel
theorem dX4_leadAround_54 : decode cX4_leadAround 54 = .ok (.iload 6, 2) := by decide +kernel
theorem dX4_leadAround_56 : decode cX4_leadAround 56 = .ok (.bipush 12, 2) := by decide +kernel
theorem dX4_leadAround_58 : decode cX4_leadAround 58 = .ok (.if_icmp .ge 28, 3) := by decide +kernel
theorem dX4_leadAround_61 : decode cX4_leadAround 61 = .ok (.aload_n 0, 1) := by decide +kernel
theorem dX4_leadAround_62 : decode cX4_leadAround 62 = .ok (.aload_n 1, 1) := by decide +kernel
theorem dX4_leadAround_63 : decode cX4_leadAround 63 = .ok (.bipush 12, 2) := by decide +kernel
theorem dX4_leadAround_65 : decode cX4_leadAround 65 = .ok (.iload 5, 2) := by decide +kernel
theorem dX4_leadAround_67 : decode cX4_leadAround 67 = .ok (.imul, 1) := by decide +kernel
theorem dX4_leadAround_68 : decode cX4_leadAround 68 = .ok (.iload 6, 2) := by decide +kernel
theorem dX4_leadAround_70 : decode cX4_leadAround 70 = .ok (.iadd, 1) := by decide +kernel
theorem dX4_leadAround_71 : decode cX4_leadAround 71 = .ok (.aload_n 0, 1) := by decide +kernel
theorem dX4_leadAround_72 : decode cX4_leadAround 72 = .ok (.getfield 9, 3) := by decide +kernel
theorem dX4_leadAround_75 : decode cX4_leadAround 75 = .ok (.iload_n 2, 1) := by decide +kernel
theorem dX4_leadAround_76 : decode cX4_leadAround 76 = .ok (.iaload, 1) := by decide +kernel
theorem dX4_leadAround_77 : decode cX4_leadAround 77 = .ok (.invokevirtual 48, 3) := by decide +kernel
theorem dX4_leadAround_80 : decode cX4_leadAround 80 = .ok (.iinc 6 1, 3) := by decide +kernel
theorem dX4_leadAround_83 : decode cX4_leadAround 83 = .ok (.goto (-37), 3) := by decide +kernel
theorem dX4_leadAround_86 : decode cX4_leadAround 86 = .ok (.iinc 5 1, 3) := by decide +kernel
theorem dX4_leadAround_89 : decode cX4_leadAround 89 = .ok (.goto (-68), 3) := by decide +kernel
theorem dX4_leadAround_92 : decode cX4_leadAround 92 = .ok (.return_, 1) := by decide +kernel
theorem dX4_lead_0 : decode cX4_lead 0 = .ok (.aload_n 0, 1) := by decide +kernel
theorem dX4_lead_1 : decode cX4_lead 1 = .ok (.getfield 9, 3) := by decide +kernel
theorem dX4_lead_4 : decode cX4_lead 4 = .ok (.iload_n 2, 1) := by decide +kernel
theorem dX4_lead_5 : decode cX4_lead 5 = .ok (.iaload, 1) := by decide +kernel
theorem dX4_lead_6 : decode cX4_lead 6 = .ok (.iconst (-1), 1) := by decide +kernel
theorem dX4_lead_7 : decode cX4_lead 7 = .ok (.if_icmp .eq 4, 3) := by decide +kernel
theorem dX4_lead_10 : decode cX4_lead 10 = .ok (.return_, 1) := by decide +kernel
theorem dX4_lead_11 : decode cX4_lead 11 = .ok (.aload_n 1, 1) := by decide +kernel
theorem dX4_lead_12 : decode cX4_lead 12 = .ok (.iload_n 2, 1) := by decide +kernel
theorem dX4_lead_13 : decode cX4_lead 13 = .ok (.invokevirtual 31, 3) := by decide +kernel
theorem dX4_lead_16 : decode cX4_lead 16 = .ok (.ifCond .eq 14, 3) := by decide +kernel
theorem dX4_lead_19 : decode cX4_lead 19 = .ok (.aload_n 0, 1) := by decide +kernel
theorem dX4_lead_20 : decode cX4_lead 20 = .ok (.iload_n 2, 1) := by decide +kernel
theorem dX4_lead_21 : decode cX4_lead 21 = .ok (.iload_n 3, 1) := by decide +kernel
theorem dX4_lead_22 : decode cX4_lead 22 = .ok (.iconst 1, 1) := by decide +kernel
theorem dX4_lead_23 : decode cX4_lead 23 = .ok (.iadd, 1) := by decide +kernel
theorem dX4_lead_24 : decode cX4_lead 24 = .ok (.invokevirtual 40, 3) := by decide +kernel
theorem dX4_lead_27 : decode cX4_lead 27 = .ok (.goto 9, 3) := by decide +kernel
theorem dX4_lead_30 : decode cX4_lead 30 = .ok (.aload_n 0, 1) := by decide +kernel
theorem dX4_lead_31 : decode cX4_lead 31 = .ok (.iload_n 2, 1) := by decide +kernel
theorem dX4_lead_32 : decode cX4_lead 32 = .ok (.iload_n 3, 1) := by decide +kernel
theorem dX4_lead_33 : decode cX4_lead 33 = .ok (.invokevirtual 64, 3) := by decide +kernel
theorem dX4_lead_36 : decode cX4_lead 36 = .ok (.return_, 1) := by decide +kernel
theorem dX4_putLast_0 : decode cX4_putLast 0 = .ok (.aload_n 0, 1) := by decide +kernel
theorem dX4_putLast_1 : decode cX4_putLast 1 = .ok (.getfield 28, 3) := by decide +kernel
theorem dX4_putLast_4 : decode cX4_putLast 4 = .ok (.aload_n 0, 1) := by decide +kernel
theorem dX4_putLast_5 : decode cX4_putLast 5 = .ok (.getfield 15, 3) := by decide +kernel
theorem dX4_putLast_8 : decode cX4_putLast 8 = .ok (.arraylength, 1) := by decide +kernel
theorem dX4_putLast_9 : decode cX4_putLast 9 = .ok (.if_icmp .ge 30, 3) := by decide +kernel
theorem dX4_putLast_12 : decode cX4_putLast 12 = .ok (.aload_n 0, 1) := by decide +kernel
theorem dX4_putLast_13 : decode cX4_putLast 13 = .ok (.getfield 9, 3) := by decide +kernel
theorem dX4_putLast_16 : decode cX4_putLast 16 = .ok (.iload_n 1, 1) := by decide +kernel
theorem dX4_putLast_17 : decode cX4_putLast 17 = .ok (.iload_n 2, 1) := by decide +kernel
theorem dX4_putLast_18 : decode cX4_putLast 18 = .ok (.iastore, 1) := by decide +kernel
theorem dX4_putLast_19 : decode cX4_putLast 19 = .ok (.aload_n 0, 1) := by decide +kernel
theorem dX4_putLast_20 : decode cX4_putLast 20 = .ok (.getfield 15, 3) := by decide +kernel
theorem dX4_putLast_23 : decode cX4_putLast 23 = .ok (.aload_n 0, 1) := by decide +kernel
theorem dX4_putLast_24 : decode cX4_putLast 24 = .ok (.getfield 28, 3) := by decide +kernel
theorem dX4_putLast_27 : decode cX4_putLast 27 = .ok (.iload_n 1, 1) := by decide +kernel
theorem dX4_putLast_28 : decode cX4_putLast 28 = .ok (.iastore, 1) := by decide +kernel
theorem dX4_putLast_29 : decode cX4_putLast 29 = .ok (.aload_n 0, 1) := by decide +kernel
theorem dX4_putLast_30 : decode cX4_putLast 30 = .ok (.dup, 1) := by decide +kernel
theorem dX4_putLast_31 : decode cX4_putLast 31 = .ok (.getfield 28, 3) := by decide +kernel
theorem dX4_putLast_34 : decode cX4_putLast 34 = .ok (.iconst 1, 1) := by decide +kernel
theorem dX4_putLast_35 : decode cX4_putLast 35 = .ok (.iadd, 1) := by decide +kernel
theorem dX4_putLast_36 : decode cX4_putLast 36 = .ok (.putfield 28, 3) := by decide +kernel
theorem dX4_putLast_39 : decode cX4_putLast 39 = .ok (.return_, 1) := by decide +kernel
theorem dX4_putFirst_0 : decode cX4_putFirst 0 = .ok (.aload_n 0, 1) := by decide +kernel
theorem dX4_putFirst_1 : decode cX4_putFirst 1 = .ok (.getfield 24, 3) := by decide +kernel
theorem dX4_putFirst_4 : decode cX4_putFirst 4 = .ok (.ifCond .le 30, 3) := by decide +kernel
theorem dX4_putFirst_7 : decode cX4_putFirst 7 = .ok (.aload_n 0, 1) := by decide +kernel
theorem dX4_putFirst_8 : decode cX4_putFirst 8 = .ok (.getfield 9, 3) := by decide +kernel
theorem dX4_putFirst_11 : decode cX4_putFirst 11 = .ok (.iload_n 1, 1) := by decide +kernel
theorem dX4_putFirst_12 : decode cX4_putFirst 12 = .ok (.iload_n 2, 1) := by decide +kernel
theorem dX4_putFirst_13 : decode cX4_putFirst 13 = .ok (.iastore, 1) := by decide +kernel
theorem dX4_putFirst_14 : decode cX4_putFirst 14 = .ok (.aload_n 0, 1) := by decide +kernel
theorem dX4_putFirst_15 : decode cX4_putFirst 15 = .ok (.dup, 1) := by decide +kernel
theorem dX4_putFirst_16 : decode cX4_putFirst 16 = .ok (.getfield 24, 3) := by decide +kernel
theorem dX4_putFirst_19 : decode cX4_putFirst 19 = .ok (.iconst 1, 1) := by decide +kernel
theorem dX4_putFirst_20 : decode cX4_putFirst 20 = .ok (.isub, 1) := by decide +kernel
theorem dX4_putFirst_21 : decode cX4_putFirst 21 = .ok (.putfield 24, 3) := by decide +kernel
theorem dX4_putFirst_24 : decode cX4_putFirst 24 = .ok (.aload_n 0, 1) := by decide +kernel
theorem dX4_putFirst_25 : decode cX4_putFirst 25 = .ok (.getfield 15, 3) := by decide +kernel
theorem dX4_putFirst_28 : decode cX4_putFirst 28 = .ok (.aload_n 0, 1) := by decide +kernel
theorem dX4_putFirst_29 : decode cX4_putFirst 29 = .ok (.getfield 24, 3) := by decide +kernel
theorem dX4_putFirst_32 : decode cX4_putFirst 32 = .ok (.iload_n 1, 1) := by decide +kernel
theorem dX4_putFirst_33 : decode cX4_putFirst 33 = .ok (.iastore, 1) := by decide +kernel
theorem dX4_putFirst_34 : decode cX4_putFirst 34 = .ok (.return_, 1) := by decide +kernel
end
section
theorem dX5_init_0 : decode cX5_init 0 = .ok (.aload_n 0, 1) := by decide +kernel
theorem dX5_init_1 : decode cX5_init 1 = .ok (.invokespecial 3, 3) := by decide +kernel
theorem dX5_init_4 : decode cX5_init 4 = .ok (.aload_n 0, 1) := by decide +kernel
theorem dX5_init_5 : decode cX5_init 5 = .ok (.new 9, 3) := by decide +kernel
theorem dX5_init_8 : decode cX5_init 8 = .ok (.dup, 1) := by decide +kernel
theorem dX5_init_9 : decode cX5_init 9 = .ok (.invokespecial 11, 3) := by decide +kernel
theorem dX5_init_12 : decode cX5_init 12 = .ok (.putfield 12, 3) := by decide +kernel
theorem dX5_init_15 : decode cX5_init 15 = .ok (.aload_n 0, 1) := by decide +kernel
theorem dX5_init_16 : decode cX5_init 16 = .ok (.new 9, 3) := by decide +kernel
theorem dX5_init_19 : decode cX5_init 19 = .ok (.dup, 1) := by decide +kernel
theorem dX5_init_20 : decode cX5_init 20 = .ok (.invokespecial 11, 3) := by decide +kernel
theorem dX5_init_23 : decode cX5_init 23 = .ok (.putfield 16, 3) := by decide +kernel
theorem dX5_init_26 : decode cX5_init 26 = .ok (.aload_n 0, 1) := by decide +kernel
theorem dX5_init_27 : decode cX5_init 27 = .ok (.new 19, 3) := by decide +kernel
theorem dX5_init_30 : decode cX5_init 30 = .ok (.dup, 1) := by decide +kernel
theorem dX5_init_31 : decode cX5_init 31 = .ok (.invokespecial 21, 3) := by decide +kernel
theorem dX5_init_34 : decode cX5_init 34 = .ok (.putfield 22, 3) := by decide +kernel
theorem dX5_init_37 : decode cX5_init 37 = .ok (.return_, 1) := by decide +kernel
theorem dX5_house_0 : decode cX5_house 0 = .ok (.iload_n 1, 1) := by decide +kernel
theorem dX5_house_1 : decode cX5_house 1 = .ok (.iload_n 2, 1) := by decide +kernel
theorem dX5_house_2 : decode cX5_house 2 = .ok (.invokestatic 26, 3) := by decide +kernel
theorem dX5_house_5 : decode cX5_house 5 = .ok (.istore_n 3, 1) := by decide +kernel
theorem dX5_house_6 : decode cX5_house 6 = .ok (.aload_n 0, 1) := by decide +kernel
theorem dX5_house_7 : decode cX5_house 7 = .ok (.getfield 12, 3) := by decide +kernel
theorem dX5_house_10 : decode cX5_house 10 = .ok (.getfield 30, 3) := by decide +kernel
theorem dX5_house_13 : decode cX5_house 13 = .ok (.iload_n 3, 1) := by decide +kernel
theorem dX5_house_14 : decode cX5_house 14 = .ok (.invokevirtual 34, 3) := by decide +kernel
theorem dX5_house_17 : decode cX5_house 17 = .ok (.istore 4, 2) := by decide +kernel
theorem dX5_house_19 : decode cX5_house 19 = .ok (.iload 4, 2) := by decide +kernel
theorem dX5_house_21 : decode cX5_house 21 = .ok (.ifCond .gt 14, 3) := by decide +kernel
theorem dX5_house_24 : decode cX5_house 24 = .ok (.aload_n 0, 1) := by decide +kernel
theorem dX5_house_25 : decode cX5_house 25 = .ok (.getfield 12, 3) := by decide +kernel
theorem dX5_house_28 : decode cX5_house 28 = .ok (.iload_n 3, 1) := by decide +kernel
theorem dX5_house_29 : decode cX5_house 29 = .ok (.invokevirtual 40, 3) := by decide +kernel
theorem dX5_house_32 : decode cX5_house 32 = .ok (.ifCond .eq 13, 3) := by decide +kernel
theorem dX5_house_35 : decode cX5_house 35 = .ok (.new 44, 3) := by decide +kernel
theorem dX5_house_38 : decode cX5_house 38 = .ok (.dup, 1) := by decide +kernel
theorem dX5_house_39 : decode cX5_house 39 = .ok (.ldc 46, 2) := by decide +kernel
theorem dX5_house_41 : decode cX5_house 41 = .ok (.invokespecial 48, 3) := by decide +kernel
theorem dX5_house_44 : decode cX5_house 44 = .ok (.athrow, 1) := by decide +kernel
theorem dX5_house_45 : decode cX5_house 45 = .ok (.iload 4, 2) := by decide +kernel
theorem dX5_house_47 : decode cX5_house 47 = .ok (.iconst (-1), 1) := by decide +kernel
theorem dX5_house_48 : decode cX5_house 48 = .ok (.if_icmp .eq 7, 3) := by decide +kernel
theorem dX5_house_51 : decode cX5_house 51 = .ok (.iconst 1, 1) := by decide +kernel
theorem dX5_house_52 : decode cX5_house 52 = .ok (.goto 4, 3) := by decide +kernel
theorem dX5_house_55 : decode cX5_house 55 = .ok (.iconst 0, 1) := by decide +kernel
theorem dX5_house_56 : decode cX5_house 56 = .ok (.istore 5, 2) := by decide +kernel
theorem dX5_house_58 : decode cX5_house 58 = .ok (.aload_n 0, 1) := by decide +kernel
theorem dX5_house_59 : decode cX5_house 59 = .ok (.getfield 12, 3) := by decide +kernel
theorem dX5_house_62 : decode cX5_house 62 = .ok (.getfield 30, 3) := by decide +kernel
theorem dX5_house_65 : decode cX5_house 65 = .ok (.iload_n 3, 1) := by decide +kernel
theorem dX5_house_66 : decode cX5_house 66 = .ok (.iload 5, 2) := by decide +kernel
theorem dX5_house_68 : decode cX5_house 68 = .ok (.ifCond .eq 7, 3) := by decide +kernel
theorem dX5_house_71 : decode cX5_house 71 = .ok (.iconst (-1), 1) := by decide +kernel
theorem dX5_house_72 : decode cX5_house 72 = .ok (.goto 4, 3) := by decide +kernel
theorem dX5_house_75 : decode cX5_house 75 = .ok (.iconst 0, 1) := by decide +kernel
theorem dX5_house_76 : decode cX5_house 76 = .ok (.invokevirtual 51, 3) := by decide +kernel
theorem dX5_house_79 : decode cX5_house 79 = .ok (.iload 5, 2) := by decide +kernel
theorem dX5_house_81 : decode cX5_house 81 = .ok (.ireturn, 1) := by decide +kernel
theorem dX5_block_0 : decode cX5_block 0 = .ok (.iload_n 1, 1) := by decide +kernel
theorem dX5_block_1 : decode cX5_block 1 = .ok (.iload_n 2, 1) := by decide +kernel
theorem dX5_block_2 : decode cX5_block 2 = .ok (.invokestatic 26, 3) := by decide +kernel
theorem dX5_block_5 : decode cX5_block 5 = .ok (.istore 4, 2) := by decide +kernel
theorem dX5_block_7 : decode cX5_block 7 = .ok (.iload_n 3, 1) := by decide +kernel
theorem dX5_block_8 : decode cX5_block 8 = .ok (.ifCond .lt 8, 3) := by decide +kernel
theorem dX5_block_11 : decode cX5_block 11 = .ok (.iload_n 3, 1) := by decide +kernel
theorem dX5_block_12 : decode cX5_block 12 = .ok (.iconst 3, 1) := by decide +kernel
theorem dX5_block_13 : decode cX5_block 13 = .ok (.if_icmp .le 13, 3) := by decide +kernel
theorem dX5_block_16 : decode cX5_block 16 = .ok (.new 55, 3) := by decide +kernel
theorem dX5_block_19 : decode cX5_block 19 = .ok (.dup, 1) := by decide +kernel
theorem dX5_block_20 : decode cX5_block 20 = .ok (.ldc 57, 2) := by decide +kernel
theorem dX5_block_22 : decode cX5_block 22 = .ok (.invokespecial 59, 3) := by decide +kernel
theorem dX5_block_25 : decode cX5_block 25 = .ok (.athrow, 1) := by decide +kernel
theorem dX5_block_26 : decode cX5_block 26 = .ok (.aload_n 0, 1) := by decide +kernel
theorem dX5_block_27 : decode cX5_block 27 = .ok (.getfield 12, 3) := by decide +kernel
theorem dX5_block_30 : decode cX5_block 30 = .ok (.getfield 30, 3) := by decide +kernel
theorem dX5_block_33 : decode cX5_block 33 = .ok (.iload 4, 2) := by decide +kernel
theorem dX5_block_35 : decode cX5_block 35 = .ok (.invokevirtual 34, 3) := by decide +kernel
theorem dX5_block_38 : decode cX5_block 38 = .ok (.istore 5, 2) := by decide +kernel
theorem dX5_block_40 : decode cX5_block 40 = .ok (.iload 5, 2) := by decide +kernel
theorem dX5_block_42 : decode cX5_block 42 = .ok (.iconst (-1), 1) := by decide +kernel
theorem dX5_block_43 : decode cX5_block 43 = .ok (.if_icmp .eq 15, 3) := by decide +kernel
theorem dX5_block_46 : decode cX5_block 46 = .ok (.aload_n 0, 1) := by decide +kernel
theorem dX5_block_47 : decode cX5_block 47 = .ok (.getfield 12, 3) := by decide +kernel
theorem dX5_block_50 : decode cX5_block 50 = .ok (.iload 4, 2) := by decide +kernel
theorem dX5_block_52 : decode cX5_block 52 = .ok (.invokevirtual 40, 3) := by decide +kernel
theorem dX5_block_55 : decode cX5_block 55 = .ok (.ifCond .eq 13, 3) := by decide +kernel
theorem dX5_block_58 : decode cX5_block 58 = .ok (.new 44, 3) := by decide +kernel
theorem dX5_block_61 : decode cX5_block 61 = .ok (.dup, 1) := by decide +kernel
theorem dX5_block_62 : decode cX5_block 62 = .ok (.ldc 60, 2) := by decide +kernel
theorem dX5_block_64 : decode cX5_block 64 = .ok (.invokespecial 48, 3) := by decide +kernel
theorem dX5_block_67 : decode cX5_block 67 = .ok (.athrow, 1) := by decide +kernel
theorem dX5_block_68 : decode cX5_block 68 = .ok (.aload_n 0, 1) := by decide +kernel
theorem dX5_block_69 : decode cX5_block 69 = .ok (.getfield 12, 3) := by decide +kernel
theorem dX5_block_72 : decode cX5_block 72 = .ok (.getfield 30, 3) := by decide +kernel
theorem dX5_block_75 : decode cX5_block 75 = .ok (.iload 4, 2) := by decide +kernel
theorem dX5_block_77 : decode cX5_block 77 = .ok (.iload_n 3, 1) := by decide +kernel
theorem dX5_block_78 : decode cX5_block 78 = .ok (.invokevirtual 51, 3) := by decide +kernel
theorem dX5_block_81 : decode cX5_block 81 = .ok (.iload 5, 2) := by decide +kernel
theorem dX5_block_83 : decode cX5_block 83 = .ok (.ireturn, 1) := by decide +kernel
theorem dX5_cell_0 : decode cX5_cell 0 = .ok (.aload_n 0, 1) := by decide +kernel
theorem dX5_cell_1 : decode cX5_cell 1 = .ok (.getfield 12, 3) := by decide +kernel
theorem dX5_cell_4 : decode cX5_cell 4 = .ok (.getfield 30, 3) := by decide +kernel
theorem dX5_cell_7 : decode cX5_cell 7 = .ok (.iload_n 1, 1) := by decide +kernel
theorem dX5_cell_8 : decode cX5_cell 8 = .ok (.iload_n 2, 1) := by decide +kernel
theorem dX5_cell_9 : decode cX5_cell 9 = .ok (.invokestatic 26, 3) := by decide +kernel
theorem dX5_cell_12 : decode cX5_cell 12 = .ok (.invokevirtual 34, 3) := by decide +kernel
theorem dX5_cell_15 : decode cX5_cell 15 = .ok (.ireturn, 1) := by decide +kernel
theorem dX5_gather_0 : decode cX5_gather 0 = .ok (.iload_n 1, 1) := by decide +kernel
theorem dX5_gather_1 : decode cX5_gather 1 = .ok (.iload_n 2, 1) := by decide +kernel
theorem dX5_gather_2 : decode cX5_gather 2 = .ok (.invokestatic 26, 3) := by decide +kernel
theorem dX5_gather_5 : decode cX5_gather 5 = .ok (.istore 4, 2) := by decide +kernel
theorem dX5_gather_7 : decode cX5_gather 7 = .ok (.iload_n 3, 1) := by decide +kernel
theorem dX5_gather_8 : decode cX5_gather 8 = .ok (.iconst 1, 1) := by decide +kernel
theorem dX5_gather_9 : decode cX5_gather 9 = .ok (.if_icmp .lt 9, 3) := by decide +kernel
theorem dX5_gather_12 : decode cX5_gather 12 = .ok (.iload_n 3, 1) := by decide +kernel
theorem dX5_gather_13 : decode cX5_gather 13 = .ok (.bipush 9, 2) := by decide +kernel
theorem dX5_gather_15 : decode cX5_gather 15 = .ok (.if_icmp .le 13, 3) := by decide +kernel
theorem dX5_gather_18 : decode cX5_gather 18 = .ok (.new 55, 3) := by decide +kernel
theorem dX5_gather_21 : decode cX5_gather 21 = .ok (.dup, 1) := by decide +kernel
theorem dX5_gather_22 : decode cX5_gather 22 = .ok (.ldc 62, 2) := by decide +kernel
theorem dX5_gather_24 : decode cX5_gather 24 = .ok (.invokespecial 59, 3) := by decide +kernel
theorem dX5_gather_27 : decode cX5_gather 27 = .ok (.athrow, 1) := by decide +kernel
theorem dX5_gather_28 : decode cX5_gather 28 = .ok (.aload_n 0, 1) := by decide +kernel
theorem dX5_gather_29 : decode cX5_gather 29 = .ok (.getfield 12, 3) := by decide +kernel
theorem dX5_gather_32 : decode cX5_gather 32 = .ok (.getfield 64, 3) := by decide +kernel
theorem dX5_gather_35 : decode cX5_gather 35 = .ok (.bipush 6, 2) := by decide +kernel
theorem dX5_gather_37 : decode cX5_gather 37 = .ok (.if_icmp .ge 18, 3) := by decide +kernel
theorem dX5_gather_40 : decode cX5_gather 40 = .ok (.aload_n 0, 1) := by decide +kernel
theorem dX5_gather_41 : decode cX5_gather 41 = .ok (.getfield 12, 3) := by decide +kernel
theorem dX5_gather_44 : decode cX5_gather 44 = .ok (.getfield 30, 3) := by decide +kernel
theorem dX5_gather_47 : decode cX5_gather 47 = .ok (.iload 4, 2) := by decide +kernel
theorem dX5_gather_49 : decode cX5_gather 49 = .ok (.invokevirtual 68, 3) := by decide +kernel
theorem dX5_gather_52 : decode cX5_gather 52 = .ok (.ifCond .ne 13, 3) := by decide +kernel
theorem dX5_gather_55 : decode cX5_gather 55 = .ok (.new 44, 3) := by decide +kernel
theorem dX5_gather_58 : decode cX5_gather 58 = .ok (.dup, 1) := by decide +kernel
theorem dX5_gather_59 : decode cX5_gather 59 = .ok (.ldc 71, 2) := by decide +kernel
theorem dX5_gather_61 : decode cX5_gather 61 = .ok (.invokespecial 48, 3) := by decide +kernel
theorem dX5_gather_64 : decode cX5_gather 64 = .ok (.athrow, 1) := by decide +kernel
theorem dX5_gather_65 : decode cX5_gather 65 = .ok (.aload_n 0, 1) := by decide +kernel
theorem dX5_gather_66 : decode cX5_gather 66 = .ok (.getfield 12, 3) := by decide +kernel
theorem dX5_gather_69 : decode cX5_gather 69 = .ok (.iload 4, 2) := by decide +kernel
theorem dX5_gather_71 : decode cX5_gather 71 = .ok (.iload_n 3, 1) := by decide +kernel
theorem dX5_gather_72 : decode cX5_gather 72 = .ok (.invokevirtual 73, 3) := by decide +kernel
theorem dX5_gather_75 : decode cX5_gather 75 = .ok (.ireturn, 1) := by decide +kernel
theorem dX5_order_0 : decode cX5_order 0 = .ok (.aload_n 0, 1) := by decide +kernel
theorem dX5_order_1 : decode cX5_order 1 = .ok (.iload_n 1, 1) := by decide +kernel
theorem dX5_order_2 : decode cX5_order 2 = .ok (.invokevirtual 76, 3) := by decide +kernel
theorem dX5_order_5 : decode cX5_order 5 = .ok (.iload_n 2, 1) := by decide +kernel
theorem dX5_order_6 : decode cX5_order 6 = .ok (.ifCond .lt 9, 3) := by decide +kernel
theorem dX5_order_9 : decode cX5_order 9 = .ok (.iload_n 2, 1) := by decide +kernel
theorem dX5_order_10 : decode cX5_order 10 = .ok (.bipush 12, 2) := by decide +kernel
theorem dX5_order_12 : decode cX5_order 12 = .ok (.if_icmp .lt 13, 3) := by decide +kernel
theorem dX5_order_15 : decode cX5_order 15 = .ok (.new 55, 3) := by decide +kernel
theorem dX5_order_18 : decode cX5_order 18 = .ok (.dup, 1) := by decide +kernel
theorem dX5_order_19 : decode cX5_order 19 = .ok (.ldc 80, 2) := by decide +kernel
theorem dX5_order_21 : decode cX5_order 21 = .ok (.invokespecial 59, 3) := by decide +kernel
theorem dX5_order_24 : decode cX5_order 24 = .ok (.athrow, 1) := by decide +kernel
theorem dX5_order_25 : decode cX5_order 25 = .ok (.aload_n 0, 1) := by decide +kernel
theorem dX5_order_26 : decode cX5_order 26 = .ok (.getfield 12, 3) := by decide +kernel
theorem dX5_order_29 : decode cX5_order 29 = .ok (.getfield 82, 3) := by decide +kernel
theorem dX5_order_32 : decode cX5_order 32 = .ok (.iload_n 1, 1) := by decide +kernel
theorem dX5_order_33 : decode cX5_order 33 = .ok (.aaload, 1) := by decide +kernel
theorem dX5_order_34 : decode cX5_order 34 = .ok (.astore_n 3, 1) := by decide +kernel
theorem dX5_order_35 : decode cX5_order 35 = .ok (.aload_n 3, 1) := by decide +kernel
theorem dX5_order_36 : decode cX5_order 36 = .ok (.invokevirtual 86, 3) := by decide +kernel
theorem dX5_order_39 : decode cX5_order 39 = .ok (.ifCond .ne 12, 3) := by decide +kernel
theorem dX5_order_42 : decode cX5_order 42 = .ok (.aload_n 3, 1) := by decide +kernel
theorem dX5_order_43 : decode cX5_order 43 = .ok (.getfield 92, 3) := by decide +kernel
theorem dX5_order_46 : decode cX5_order 46 = .ok (.bipush 24, 2) := by decide +kernel
theorem dX5_order_48 : decode cX5_order 48 = .ok (.if_icmp .lt 13, 3) := by decide +kernel
theorem dX5_order_51 : decode cX5_order 51 = .ok (.new 44, 3) := by decide +kernel
theorem dX5_order_54 : decode cX5_order 54 = .ok (.dup, 1) := by decide +kernel
theorem dX5_order_55 : decode cX5_order 55 = .ok (.ldc 95, 2) := by decide +kernel
theorem dX5_order_57 : decode cX5_order 57 = .ok (.invokespecial 48, 3) := by decide +kernel
theorem dX5_order_60 : decode cX5_order 60 = .ok (.athrow, 1) := by decide +kernel
theorem dX5_order_61 : decode cX5_order 61 = .ok (.aload_n 3, 1) := by decide +kernel
theorem dX5_order_62 : decode cX5_order 62 = .ok (.iload_n 2, 1) := by decide +kernel
theorem dX5_order_63 : decode cX5_order 63 = .ok (.invokevirtual 97, 3) := by decide +kernel
theorem dX5_order_66 : decode cX5_order 66 = .ok (.aload_n 3, 1) := by decide +kernel
theorem dX5_order_67 : decode cX5_order 67 = .ok (.getfield 92, 3) := by decide +kernel
theorem dX5_order_70 : decode cX5_order 70 = .ok (.ireturn, 1) := by decide +kernel
theorem dX5_torch_0 : decode cX5_torch 0 = .ok (.aload_n 0, 1) := by decide +kernel
theorem dX5_torch_1 : decode cX5_torch 1 = .ok (.iload_n 1, 1) := by decide +kernel
theorem dX5_torch_2 : decode cX5_torch 2 = .ok (.invokevirtual 76, 3) := by decide +kernel
theorem dX5_torch_5 : decode cX5_torch 5 = .ok (.aload_n 0, 1) := by decide +kernel
theorem dX5_torch_6 : decode cX5_torch 6 = .ok (.getfield 12, 3) := by decide +kernel
theorem dX5_torch_9 : decode cX5_torch 9 = .ok (.getfield 82, 3) := by decide +kernel
theorem dX5_torch_12 : decode cX5_torch 12 = .ok (.iload_n 1, 1) := by decide +kernel
theorem dX5_torch_13 : decode cX5_torch 13 = .ok (.aaload, 1) := by decide +kernel
theorem dX5_torch_14 : decode cX5_torch 14 = .ok (.astore_n 2, 1) := by decide +kernel
theorem dX5_torch_15 : decode cX5_torch 15 = .ok (.aload_n 2, 1) := by decide +kernel
theorem dX5_torch_16 : decode cX5_torch 16 = .ok (.invokevirtual 86, 3) := by decide +kernel
theorem dX5_torch_19 : decode cX5_torch 19 = .ok (.ifCond .eq 13, 3) := by decide +kernel
theorem dX5_torch_22 : decode cX5_torch 22 = .ok (.new 44, 3) := by decide +kernel
theorem dX5_torch_25 : decode cX5_torch 25 = .ok (.dup, 1) := by decide +kernel
theorem dX5_torch_26 : decode cX5_torch 26 = .ok (.ldc 100, 2) := by decide +kernel
theorem dX5_torch_28 : decode cX5_torch 28 = .ok (.invokespecial 48, 3) := by decide +kernel
theorem dX5_torch_31 : decode cX5_torch 31 = .ok (.athrow, 1) := by decide +kernel
theorem dX5_torch_32 : decode cX5_torch 32 = .ok (.aload_n 2, 1) := by decide +kernel
theorem dX5_torch_33 : decode cX5_torch 33 = .ok (.aload_n 2, 1) := by decide +kernel
theorem dX5_torch_34 : decode cX5_torch 34 = .ok (.getfield 102, 3) := by decide +kernel
theorem dX5_torch_37 : decode cX5_torch 37 = .ok (.ifCond .ne 7, 3) := by decide +kernel
theorem dX5_torch_40 : decode cX5_torch 40 = .ok (.iconst 1, 1) := by decide +kernel
theorem dX5_torch_41 : decode cX5_torch 41 = .ok (.goto 4, 3) := by decide +kernel
theorem dX5_torch_44 : decode cX5_torch 44 = .ok (.iconst 0, 1) := by decide +kernel
theorem dX5_torch_45 : decode cX5_torch 45 = .ok (.putfield 102, 3) := by decide +kernel
theorem dX5_torch_48 : decode cX5_torch 48 = .ok (.aload_n 2, 1) := by decide +kernel
theorem dX5_torch_49 : decode cX5_torch 49 = .ok (.getfield 102, 3) := by decide +kernel
theorem dX5_torch_52 : decode cX5_torch 52 = .ok (.ireturn, 1) := by decide +kernel
theorem dX5_patrol_0 : decode cX5_patrol 0 = .ok (.iload_n 1, 1) := by decide +kernel
theorem dX5_patrol_1 : decode cX5_patrol 1 = .ok (.iload_n 2, 1) := by decide +kernel
theorem dX5_patrol_2 : decode cX5_patrol 2 = .ok (.invokestatic 26, 3) := by decide +kernel
theorem dX5_patrol_5 : decode cX5_patrol 5 = .ok (.istore 5, 2) := by decide +kernel
theorem dX5_patrol_7 : decode cX5_patrol 7 = .ok (.iload_n 3, 1) := by decide +kernel
theorem dX5_patrol_8 : decode cX5_patrol 8 = .ok (.iconst 1, 1) := by decide +kernel
theorem dX5_patrol_9 : decode cX5_patrol 9 = .ok (.if_icmp .lt 24, 3) := by decide +kernel
theorem dX5_patrol_12 : decode cX5_patrol 12 = .ok (.iload_n 3, 1) := by decide +kernel
theorem dX5_patrol_13 : decode cX5_patrol 13 = .ok (.bipush 12, 2) := by decide +kernel
theorem dX5_patrol_15 : decode cX5_patrol 15 = .ok (.if_icmp .gt 18, 3) := by decide +kernel
theorem dX5_patrol_18 : decode cX5_patrol 18 = .ok (.iload 4, 2) := by decide +kernel
theorem dX5_patrol_20 : decode cX5_patrol 20 = .ok (.ifCond .lt 13, 3) := by decide +kernel
theorem dX5_patrol_23 : decode cX5_patrol 23 = .ok (.iload 4, 2) := by decide +kernel
theorem dX5_patrol_25 : decode cX5_patrol 25 = .ok (.iconst 1, 1) := by decide +kernel
theorem dX5_patrol_26 : decode cX5_patrol 26 = .ok (.iconst 2, 1) := by decide +kernel
theorem dX5_patrol_27 : decode cX5_patrol 27 = .ok (.iload_n 3, 1) := by decide +kernel
theorem dX5_patrol_28 : decode cX5_patrol 28 = .ok (.imul, 1) := by decide +kernel
theorem dX5_patrol_29 : decode cX5_patrol 29 = .ok (.ishl, 1) := by decide +kernel
theorem dX5_patrol_30 : decode cX5_patrol 30 = .ok (.if_icmp .lt 13, 3) := by decide +kernel
theorem dX5_patrol_33 : decode cX5_patrol 33 = .ok (.new 55, 3) := by decide +kernel
theorem dX5_patrol_36 : decode cX5_patrol 36 = .ok (.dup, 1) := by decide +kernel
theorem dX5_patrol_37 : decode cX5_patrol 37 = .ok (.ldc 106, 2) := by decide +kernel
theorem dX5_patrol_39 : decode cX5_patrol 39 = .ok (.invokespecial 59, 3) := by decide +kernel
theorem dX5_patrol_42 : decode cX5_patrol 42 = .ok (.athrow, 1) := by decide +kernel
theorem dX5_patrol_43 : decode cX5_patrol 43 = .ok (.aload_n 0, 1) := by decide +kernel
theorem dX5_patrol_44 : decode cX5_patrol 44 = .ok (.getfield 12, 3) := by decide +kernel
theorem dX5_patrol_47 : decode cX5_patrol 47 = .ok (.getfield 108, 3) := by decide +kernel
theorem dX5_patrol_50 : decode cX5_patrol 50 = .ok (.iconst 3, 1) := by decide +kernel
theorem dX5_patrol_51 : decode cX5_patrol 51 = .ok (.if_icmp .ge 18, 3) := by decide +kernel
theorem dX5_patrol_54 : decode cX5_patrol 54 = .ok (.aload_n 0, 1) := by decide +kernel
theorem dX5_patrol_55 : decode cX5_patrol 55 = .ok (.getfield 12, 3) := by decide +kernel
theorem dX5_patrol_58 : decode cX5_patrol 58 = .ok (.getfield 30, 3) := by decide +kernel
theorem dX5_patrol_61 : decode cX5_patrol 61 = .ok (.iload 5, 2) := by decide +kernel
theorem dX5_patrol_63 : decode cX5_patrol 63 = .ok (.invokevirtual 68, 3) := by decide +kernel
theorem dX5_patrol_66 : decode cX5_patrol 66 = .ok (.ifCond .ne 13, 3) := by decide +kernel
theorem dX5_patrol_69 : decode cX5_patrol 69 = .ok (.new 44, 3) := by decide +kernel
theorem dX5_patrol_72 : decode cX5_patrol 72 = .ok (.dup, 1) := by decide +kernel
theorem dX5_patrol_73 : decode cX5_patrol 73 = .ok (.ldc 111, 2) := by decide +kernel
theorem dX5_patrol_75 : decode cX5_patrol 75 = .ok (.invokespecial 48, 3) := by decide +kernel
theorem dX5_patrol_78 : decode cX5_patrol 78 = .ok (.athrow, 1) := by decide +kernel
theorem dX5_patrol_79 : decode cX5_patrol 79 = .ok (.aload_n 0, 1) := by decide +kernel
theorem dX5_patrol_80 : decode cX5_patrol 80 = .ok (.getfield 12, 3) := by decide +kernel
theorem dX5_patrol_83 : decode cX5_patrol 83 = .ok (.iload 5, 2) := by decide +kernel
theorem dX5_patrol_85 : decode cX5_patrol 85 = .ok (.iload_n 3, 1) := by decide +kernel
theorem dX5_patrol_86 : decode cX5_patrol 86 = .ok (.iload 4, 2) := by decide +kernel
theorem dX5_patrol_88 : decode cX5_patrol 88 = .ok (.invokevirtual 113, 3) := by decide +kernel
theorem dX5_patrol_91 : decode cX5_patrol 91 = .ok (.ireturn, 1) := by decide +kernel
theorem dX5_crowd_0 : decode cX5_crowd 0 = .ok (.aload_n 0, 1) := by decide +kernel
theorem dX5_crowd_1 : decode cX5_crowd 1 = .ok (.iload_n 1, 1) := by decide +kernel
theorem dX5_crowd_2 : decode cX5_crowd 2 = .ok (.invokevirtual 76, 3) := by decide +kernel
theorem dX5_crowd_5 : decode cX5_crowd 5 = .ok (.iload_n 2, 1) := by decide +kernel
theorem dX5_crowd_6 : decode cX5_crowd 6 = .ok (.bipush 8, 2) := by decide +kernel
theorem dX5_crowd_8 : decode cX5_crowd 8 = .ok (.invokestatic 117, 3) := by decide +kernel
theorem dX5_crowd_11 : decode cX5_crowd 11 = .ok (.aload_n 0, 1) := by decide +kernel
theorem dX5_crowd_12 : decode cX5_crowd 12 = .ok (.getfield 12, 3) := by decide +kernel
theorem dX5_crowd_15 : decode cX5_crowd 15 = .ok (.aload_n 0, 1) := by decide +kernel
theorem dX5_crowd_16 : decode cX5_crowd 16 = .ok (.getfield 12, 3) := by decide +kernel
theorem dX5_crowd_19 : decode cX5_crowd 19 = .ok (.getfield 82, 3) := by decide +kernel
theorem dX5_crowd_22 : decode cX5_crowd 22 = .ok (.iload_n 1, 1) := by decide +kernel
theorem dX5_crowd_23 : decode cX5_crowd 23 = .ok (.aaload, 1) := by decide +kernel
theorem dX5_crowd_24 : decode cX5_crowd 24 = .ok (.iload_n 2, 1) := by decide +kernel
theorem dX5_crowd_25 : decode cX5_crowd 25 = .ok (.invokevirtual 120, 3) := by decide +kernel
theorem dX5_crowd_28 : decode cX5_crowd 28 = .ok (.ireturn, 1) := by decide +kernel
theorem dX5_guard_0 : decode cX5_guard 0 = .ok (.aload_n 0, 1) := by decide +kernel
theorem dX5_guard_1 : decode cX5_guard 1 = .ok (.iload_n 1, 1) := by decide +kernel
theorem dX5_guard_2 : decode cX5_guard 2 = .ok (.invokevirtual 124, 3) := by decide +kernel
theorem dX5_guard_5 : decode cX5_guard 5 = .ok (.iload_n 2, 1) := by decide +kernel
theorem dX5_guard_6 : decode cX5_guard 6 = .ok (.iconst 4, 1) := by decide +kernel
theorem dX5_guard_7 : decode cX5_guard 7 = .ok (.invokestatic 117, 3) := by decide +kernel
theorem dX5_guard_10 : decode cX5_guard 10 = .ok (.aload_n 0, 1) := by decide +kernel
theorem dX5_guard_11 : decode cX5_guard 11 = .ok (.getfield 12, 3) := by decide +kernel
theorem dX5_guard_14 : decode cX5_guard 14 = .ok (.aload_n 0, 1) := by decide +kernel
theorem dX5_guard_15 : decode cX5_guard 15 = .ok (.getfield 12, 3) := by decide +kernel
theorem dX5_guard_18 : decode cX5_guard 18 = .ok (.getfield 127, 3) := by decide +kernel
theorem dX5_guard_21 : decode cX5_guard 21 = .ok (.iload_n 1, 1) := by decide +kernel
theorem dX5_guard_22 : decode cX5_guard 22 = .ok (.aaload, 1) := by decide +kernel
theorem dX5_guard_23 : decode cX5_guard 23 = .ok (.iload_n 2, 1) := by decide +kernel
theorem dX5_guard_24 : decode cX5_guard 24 = .ok (.invokevirtual 131, 3) := by decide +kernel
theorem dX5_guard_27 : decode cX5_guard 27 = .ok (.ireturn, 1) := by decide +kernel
theorem dX5_sees_0 : decode cX5_sees 0 = .ok (.aload_n 0, 1) := by decide +kernel
theorem dX5_sees_1 : decode cX5_sees 1 = .ok (.iload_n 1, 1) := by decide +kernel
theorem dX5_sees_2 : decode cX5_sees 2 = .ok (.invokevirtual 124, 3) := by decide +kernel
theorem dX5_sees_5 : decode cX5_sees 5 = .ok (.aload_n 0, 1) := by decide +kernel
theorem dX5_sees_6 : decode cX5_sees 6 = .ok (.iload_n 2, 1) := by decide +kernel
theorem dX5_sees_7 : decode cX5_sees 7 = .ok (.invokevirtual 76, 3) := by decide +kernel
theorem dX5_sees_10 : decode cX5_sees 10 = .ok (.aload_n 0, 1) := by decide +kernel
theorem dX5_sees_11 : decode cX5_sees 11 = .ok (.getfield 12, 3) := by decide +kernel
theorem dX5_sees_14 : decode cX5_sees 14 = .ok (.aload_n 0, 1) := by decide +kernel
theorem dX5_sees_15 : decode cX5_sees 15 = .ok (.getfield 12, 3) := by decide +kernel
theorem dX5_sees_18 : decode cX5_sees 18 = .ok (.getfield 127, 3) := by decide +kernel
theorem dX5_sees_21 : decode cX5_sees 21 = .ok (.iload_n 1, 1) := by decide +kernel
theorem dX5_sees_22 : decode cX5_sees 22 = .ok (.aaload, 1) := by decide +kernel
theorem dX5_sees_23 : decode cX5_sees 23 = .ok (.aload_n 0, 1) := by decide +kernel
theorem dX5_sees_24 : decode cX5_sees 24 = .ok (.getfield 12, 3) := by decide +kernel
theorem dX5_sees_27 : decode cX5_sees 27 = .ok (.getfield 82, 3) := by decide +kernel
theorem dX5_sees_30 : decode cX5_sees 30 = .ok (.iload_n 2, 1) := by decide +kernel
theorem dX5_sees_31 : decode cX5_sees 31 = .ok (.aaload, 1) := by decide +kernel
theorem dX5_sees_32 : decode cX5_sees 32 = .ok (.invokevirtual 135, 3) := by decide +kernel
theorem dX5_sees_35 : decode cX5_sees 35 = .ok (.ireturn, 1) := by decide +kernel
theorem dX5_count_0 : decode cX5_count 0 = .ok (.iload_n 1, 1) := by decide +kernel
theorem dX5_count_1 : decode cX5_count 1 = .ok (.bipush 8, 2) := by decide +kernel
theorem dX5_count_3 : decode cX5_count 3 = .ok (.invokestatic 117, 3) := by decide +kernel
theorem dX5_count_6 : decode cX5_count 6 = .ok (.aload_n 0, 1) := by decide +kernel
theorem dX5_count_7 : decode cX5_count 7 = .ok (.getfield 12, 3) := by decide +kernel
theorem dX5_count_10 : decode cX5_count 10 = .ok (.iload_n 1, 1) := by decide +kernel
theorem dX5_count_11 : decode cX5_count 11 = .ok (.invokevirtual 139, 3) := by decide +kernel
theorem dX5_count_14 : decode cX5_count 14 = .ok (.ireturn, 1) := by decide +kernel
theorem dX5_way_0 : decode cX5_way 0 = .ok (.aload_n 0, 1) := by decide +kernel
theorem dX5_way_1 : decode cX5_way 1 = .ok (.getfield 22, 3) := by decide +kernel
theorem dX5_way_4 : decode cX5_way 4 = .ok (.aload_n 0, 1) := by decide +kernel
theorem dX5_way_5 : decode cX5_way 5 = .ok (.getfield 12, 3) := by decide +kernel
theorem dX5_way_8 : decode cX5_way 8 = .ok (.getfield 30, 3) := by decide +kernel
theorem dX5_way_11 : decode cX5_way 11 = .ok (.iload_n 1, 1) := by decide +kernel
theorem dX5_way_12 : decode cX5_way 12 = .ok (.iload_n 2, 1) := by decide +kernel
theorem dX5_way_13 : decode cX5_way 13 = .ok (.invokestatic 26, 3) := by decide +kernel
theorem dX5_way_16 : decode cX5_way 16 = .ok (.iload_n 3, 1) := by decide +kernel
theorem dX5_way_17 : decode cX5_way 17 = .ok (.iload 4, 2) := by decide +kernel
theorem dX5_way_19 : decode cX5_way 19 = .ok (.invokestatic 26, 3) := by decide +kernel
theorem dX5_way_22 : decode cX5_way 22 = .ok (.invokevirtual 142, 3) := by decide +kernel
theorem dX5_way_25 : decode cX5_way 25 = .ok (.ireturn, 1) := by decide +kernel
theorem dX5_shuts_0 : decode cX5_shuts 0 = .ok (.aload_n 0, 1) := by decide +kernel
theorem dX5_shuts_1 : decode cX5_shuts 1 = .ok (.getfield 22, 3) := by decide +kernel
theorem dX5_shuts_4 : decode cX5_shuts 4 = .ok (.aload_n 0, 1) := by decide +kernel
theorem dX5_shuts_5 : decode cX5_shuts 5 = .ok (.getfield 12, 3) := by decide +kernel
theorem dX5_shuts_8 : decode cX5_shuts 8 = .ok (.getfield 30, 3) := by decide +kernel
theorem dX5_shuts_11 : decode cX5_shuts 11 = .ok (.invokevirtual 146, 3) := by decide +kernel
theorem dX5_shuts_14 : decode cX5_shuts 14 = .ok (.ireturn, 1) := by decide +kernel
theorem dX5_pass_0 : decode cX5_pass 0 = .ok (.iload_n 1, 1) := by decide +kernel
theorem dX5_pass_1 : decode cX5_pass 1 = .ok (.invokestatic 150, 3) := by decide +kernel
theorem dX5_pass_4 : decode cX5_pass 4 = .ok (.aload_n 0, 1) := by decide +kernel
theorem dX5_pass_5 : decode cX5_pass 5 = .ok (.getfield 12, 3) := by decide +kernel
theorem dX5_pass_8 : decode cX5_pass 8 = .ok (.invokevirtual 153, 3) := by decide +kernel
theorem dX5_pass_11 : decode cX5_pass 11 = .ok (.istore_n 2, 1) := by decide +kernel
theorem dX5_pass_12 : decode cX5_pass 12 = .ok (.aload_n 0, 1) := by decide +kernel
theorem dX5_pass_13 : decode cX5_pass 13 = .ok (.getfield 12, 3) := by decide +kernel
theorem dX5_pass_16 : decode cX5_pass 16 = .ok (.iload_n 1, 1) := by decide +kernel
theorem dX5_pass_17 : decode cX5_pass 17 = .ok (.invokevirtual 157, 3) := by decide +kernel
theorem dX5_pass_20 : decode cX5_pass 20 = .ok (.iload_n 2, 1) := by decide +kernel
theorem dX5_pass_21 : decode cX5_pass 21 = .ok (.aload_n 0, 1) := by decide +kernel
theorem dX5_pass_22 : decode cX5_pass 22 = .ok (.getfield 12, 3) := by decide +kernel
theorem dX5_pass_25 : decode cX5_pass 25 = .ok (.invokevirtual 153, 3) := by decide +kernel
theorem dX5_pass_28 : decode cX5_pass 28 = .ok (.isub, 1) := by decide +kernel
theorem dX5_pass_29 : decode cX5_pass 29 = .ok (.ireturn, 1) := by decide +kernel
theorem dX5_foresee_0 : decode cX5_foresee 0 = .ok (.iload_n 1, 1) := by decide +kernel
theorem dX5_foresee_1 : decode cX5_foresee 1 = .ok (.invokestatic 150, 3) := by decide +kernel
theorem dX5_foresee_4 : decode cX5_foresee 4 = .ok (.iload_n 2, 1) := by decide +kernel
theorem dX5_foresee_5 : decode cX5_foresee 5 = .ok (.iconst 3, 1) := by decide +kernel
theorem dX5_foresee_6 : decode cX5_foresee 6 = .ok (.invokestatic 117, 3) := by decide +kernel
theorem dX5_foresee_9 : decode cX5_foresee 9 = .ok (.aload_n 0, 1) := by decide +kernel
theorem dX5_foresee_10 : decode cX5_foresee 10 = .ok (.getfield 16, 3) := by decide +kernel
theorem dX5_foresee_13 : decode cX5_foresee 13 = .ok (.aload_n 0, 1) := by decide +kernel
theorem dX5_foresee_14 : decode cX5_foresee 14 = .ok (.getfield 12, 3) := by decide +kernel
theorem dX5_foresee_17 : decode cX5_foresee 17 = .ok (.invokevirtual 160, 3) := by decide +kernel
theorem dX5_foresee_20 : decode cX5_foresee 20 = .ok (.aload_n 0, 1) := by decide +kernel
theorem dX5_foresee_21 : decode cX5_foresee 21 = .ok (.getfield 16, 3) := by decide +kernel
theorem dX5_foresee_24 : decode cX5_foresee 24 = .ok (.iload_n 1, 1) := by decide +kernel
theorem dX5_foresee_25 : decode cX5_foresee 25 = .ok (.invokevirtual 157, 3) := by decide +kernel
theorem dX5_foresee_28 : decode cX5_foresee 28 = .ok (.iload_n 2, 1) := by decide +kernel
theorem dX5_foresee_29 : decode cX5_foresee 29 = .ok (.lookupswitch 46 #[(0, 27), (1, 35)], 27) := by decide +kernel
theorem dX5_foresee_56 : decode cX5_foresee 56 = .ok (.aload_n 0, 1) := by decide +kernel
theorem dX5_foresee_57 : decode cX5_foresee 57 = .ok (.getfield 16, 3) := by decide +kernel
theorem dX5_foresee_60 : decode cX5_foresee 60 = .ok (.invokevirtual 153, 3) := by decide +kernel
theorem dX5_foresee_63 : decode cX5_foresee 63 = .ok (.ireturn, 1) := by decide +kernel
theorem dX5_foresee_64 : decode cX5_foresee 64 = .ok (.aload_n 0, 1) := by decide +kernel
theorem dX5_foresee_65 : decode cX5_foresee 65 = .ok (.getfield 16, 3) := by decide +kernel
theorem dX5_foresee_68 : decode cX5_foresee 68 = .ok (.getfield 30, 3) := by decide +kernel
theorem dX5_foresee_71 : decode cX5_foresee 71 = .ok (.invokevirtual 164, 3) := by decide +kernel
theorem dX5_foresee_74 : decode cX5_foresee 74 = .ok (.ireturn, 1) := by decide +kernel
theorem dX5_foresee_75 : decode cX5_foresee 75 = .ok (.aload_n 0, 1) := by decide +kernel
theorem dX5_foresee_76 : decode cX5_foresee 76 = .ok (.getfield 22, 3) := by decide +kernel
theorem dX5_foresee_79 : decode cX5_foresee 79 = .ok (.aload_n 0, 1) := by decide +kernel
theorem dX5_foresee_80 : decode cX5_foresee 80 = .ok (.getfield 16, 3) := by decide +kernel
theorem dX5_foresee_83 : decode cX5_foresee 83 = .ok (.getfield 30, 3) := by decide +kernel
theorem dX5_foresee_86 : decode cX5_foresee 86 = .ok (.invokevirtual 146, 3) := by decide +kernel
theorem dX5_foresee_89 : decode cX5_foresee 89 = .ok (.ireturn, 1) := by decide +kernel
theorem dX5_advise_0 : decode cX5_advise 0 = .ok (.aload_n 0, 1) := by decide +kernel
theorem dX5_advise_1 : decode cX5_advise 1 = .ok (.iload_n 1, 1) := by decide +kernel
theorem dX5_advise_2 : decode cX5_advise 2 = .ok (.invokevirtual 76, 3) := by decide +kernel
theorem dX5_advise_5 : decode cX5_advise 5 = .ok (.aload_n 0, 1) := by decide +kernel
theorem dX5_advise_6 : decode cX5_advise 6 = .ok (.getfield 12, 3) := by decide +kernel
theorem dX5_advise_9 : decode cX5_advise 9 = .ok (.getfield 82, 3) := by decide +kernel
theorem dX5_advise_12 : decode cX5_advise 12 = .ok (.iload_n 1, 1) := by decide +kernel
theorem dX5_advise_13 : decode cX5_advise 13 = .ok (.aaload, 1) := by decide +kernel
theorem dX5_advise_14 : decode cX5_advise 14 = .ok (.invokevirtual 86, 3) := by decide +kernel
theorem dX5_advise_17 : decode cX5_advise 17 = .ok (.ifCond .eq 5, 3) := by decide +kernel
theorem dX5_advise_20 : decode cX5_advise 20 = .ok (.iconst (-1), 1) := by decide +kernel
theorem dX5_advise_21 : decode cX5_advise 21 = .ok (.ireturn, 1) := by decide +kernel
theorem dX5_advise_22 : decode cX5_advise 22 = .ok (.iconst (-1), 1) := by decide +kernel
theorem dX5_advise_23 : decode cX5_advise 23 = .ok (.istore_n 2, 1) := by decide +kernel
theorem dX5_advise_24 : decode cX5_advise 24 = .ok (.bipush 108, 2) := by decide +kernel
theorem dX5_advise_26 : decode cX5_advise 26 = .ok (.istore_n 3, 1) := by decide +kernel
theorem dX5_advise_27 : decode cX5_advise 27 = .ok (.iconst 0, 1) := by decide +kernel
theorem dX5_advise_28 : decode cX5_advise 28 = .ok (.istore 4, 2) := by decide +kernel
theorem dX5_advise_30 : decode cX5_advise 30 = .ok (.iload 4, 2) := by decide +kernel
theorem dX5_advise_32 : decode cX5_advise 32 = .ok (.bipush 12, 2) := by decide +kernel
theorem dX5_advise_34 : decode cX5_advise 34 = .ok (.if_icmp .ge 30, 3) := by decide +kernel
theorem dX5_advise_37 : decode cX5_advise 37 = .ok (.aload_n 0, 1) := by decide +kernel
theorem dX5_advise_38 : decode cX5_advise 38 = .ok (.iload_n 1, 1) := by decide +kernel
theorem dX5_advise_39 : decode cX5_advise 39 = .ok (.iload 4, 2) := by decide +kernel
theorem dX5_advise_41 : decode cX5_advise 41 = .ok (.invokevirtual 167, 3) := by decide +kernel
theorem dX5_advise_44 : decode cX5_advise 44 = .ok (.istore 5, 2) := by decide +kernel
theorem dX5_advise_46 : decode cX5_advise 46 = .ok (.iload 5, 2) := by decide +kernel
theorem dX5_advise_48 : decode cX5_advise 48 = .ok (.iload_n 3, 1) := by decide +kernel
theorem dX5_advise_49 : decode cX5_advise 49 = .ok (.if_icmp .ge 9, 3) := by decide +kernel
theorem dX5_advise_52 : decode cX5_advise 52 = .ok (.iload 5, 2) := by decide +kernel
theorem dX5_advise_54 : decode cX5_advise 54 = .ok (.istore_n 3, 1) := by decide +kernel
theorem dX5_advise_55 : decode cX5_advise 55 = .ok (.iload 4, 2) := by decide +kernel
theorem dX5_advise_57 : decode cX5_advise 57 = .ok (.istore_n 2, 1) := by decide +kernel
theorem dX5_advise_58 : decode cX5_advise 58 = .ok (.iinc 4 1, 3) := by decide +kernel
theorem dX5_advise_61 : decode cX5_advise 61 = .ok (.goto (-31), 3) := by decide +kernel
theorem dX5_advise_64 : decode cX5_advise 64 = .ok (.iload_n 2, 1) := by decide +kernel
theorem dX5_advise_65 : decode cX5_advise 65 = .ok (.ireturn, 1) := by decide +kernel
theorem dX5_mean_0 : decode cX5_mean 0 = .ok (.aload_n 0, 1) := by decide +kernel
theorem dX5_mean_1 : decode cX5_mean 1 = .ok (.getfield 12, 3) := by decide +kernel
theorem dX5_mean_4 : decode cX5_mean 4 = .ok (.invokevirtual 170, 3) := by decide +kernel
theorem dX5_mean_7 : decode cX5_mean 7 = .ok (.istore_n 1, 1) := by decide +kernel
theorem dX5_mean_8 : decode cX5_mean 8 = .ok (.iload_n 1, 1) := by decide +kernel
theorem dX5_mean_9 : decode cX5_mean 9 = .ok (.ifCond .ne 7, 3) := by decide +kernel
theorem dX5_mean_12 : decode cX5_mean 12 = .ok (.dconst 0, 1) := by decide +kernel
theorem dX5_mean_13 : decode cX5_mean 13 = .ok (.goto 14, 3) := by decide +kernel
theorem dX5_mean_16 : decode cX5_mean 16 = .ok (.aload_n 0, 1) := by decide +kernel
theorem dX5_mean_17 : decode cX5_mean 17 = .ok (.getfield 12, 3) := by decide +kernel
theorem dX5_mean_20 : decode cX5_mean 20 = .ok (.invokevirtual 153, 3) := by decide +kernel
theorem dX5_mean_23 : decode cX5_mean 23 = .ok (.i2d, 1) := by decide +kernel
theorem dX5_mean_24 : decode cX5_mean 24 = .ok (.iload_n 1, 1) := by decide +kernel
theorem dX5_mean_25 : decode cX5_mean 25 = .ok (.i2d, 1) := by decide +kernel
theorem dX5_mean_26 : decode cX5_mean 26 = .ok (.ddiv, 1) := by decide +kernel
theorem dX5_mean_27 : decode cX5_mean 27 = .ok (.dreturn, 1) := by decide +kernel
theorem dX5_digest_0 : decode cX5_digest 0 = .ok (.ldc2_w 173, 3) := by decide +kernel
theorem dX5_digest_3 : decode cX5_digest 3 = .ok (.lstore_n 1, 1) := by decide +kernel
theorem dX5_digest_4 : decode cX5_digest 4 = .ok (.iconst 0, 1) := by decide +kernel
theorem dX5_digest_5 : decode cX5_digest 5 = .ok (.istore_n 3, 1) := by decide +kernel
theorem dX5_digest_6 : decode cX5_digest 6 = .ok (.iload_n 3, 1) := by decide +kernel
theorem dX5_digest_7 : decode cX5_digest 7 = .ok (.bipush 8, 2) := by decide +kernel
theorem dX5_digest_9 : decode cX5_digest 9 = .ok (.if_icmp .ge 25, 3) := by decide +kernel
theorem dX5_digest_12 : decode cX5_digest 12 = .ok (.lload_n 1, 1) := by decide +kernel
theorem dX5_digest_13 : decode cX5_digest 13 = .ok (.ldc2_w 175, 3) := by decide +kernel
theorem dX5_digest_16 : decode cX5_digest 16 = .ok (.lmul, 1) := by decide +kernel
theorem dX5_digest_17 : decode cX5_digest 17 = .ok (.aload_n 0, 1) := by decide +kernel
theorem dX5_digest_18 : decode cX5_digest 18 = .ok (.getfield 12, 3) := by decide +kernel
theorem dX5_digest_21 : decode cX5_digest 21 = .ok (.iload_n 3, 1) := by decide +kernel
theorem dX5_digest_22 : decode cX5_digest 22 = .ok (.invokevirtual 139, 3) := by decide +kernel
theorem dX5_digest_25 : decode cX5_digest 25 = .ok (.i2l, 1) := by decide +kernel
theorem dX5_digest_26 : decode cX5_digest 26 = .ok (.ladd, 1) := by decide +kernel
theorem dX5_digest_27 : decode cX5_digest 27 = .ok (.lstore_n 1, 1) := by decide +kernel
theorem dX5_digest_28 : decode cX5_digest 28 = .ok (.iinc 3 1, 3) := by decide +kernel
theorem dX5_digest_31 : decode cX5_digest 31 = .ok (.goto (-25), 3) := by decide +kernel
theorem dX5_digest_34 : decode cX5_digest 34 = .ok (.aload_n 0, 1) := by decide +kernel
theorem dX5_digest_35 : decode cX5_digest 35 = .ok (.getfield 12, 3) := by decide +kernel
theorem dX5_digest_38 : decode cX5_digest 38 = .ok (.getfield 30, 3) := by decide +kernel
theorem dX5_digest_41 : decode cX5_digest 41 = .ok (.lload_n 1, 1) := by decide +kernel
theorem dX5_digest_42 : decode cX5_digest 42 = .ok (.invokevirtual 177, 3) := by decide +kernel
theorem dX5_digest_45 : decode cX5_digest 45 = .ok (.lstore_n 1, 1) := by decide +kernel
theorem dX5_digest_46 : decode cX5_digest 46 = .ok (.iconst 0, 1) := by decide +kernel
theorem dX5_digest_47 : decode cX5_digest 47 = .ok (.istore_n 3, 1) := by decide +kernel
theorem dX5_digest_48 : decode cX5_digest 48 = .ok (.iload_n 3, 1) := by decide +kernel
theorem dX5_digest_49 : decode cX5_digest 49 = .ok (.aload_n 0, 1) := by decide +kernel
theorem dX5_digest_50 : decode cX5_digest 50 = .ok (.getfield 12, 3) := by decide +kernel
theorem dX5_digest_53 : decode cX5_digest 53 = .ok (.getfield 64, 3) := by decide +kernel
theorem dX5_digest_56 : decode cX5_digest 56 = .ok (.if_icmp .ge 27, 3) := by decide +kernel
theorem dX5_digest_59 : decode cX5_digest 59 = .ok (.aload_n 0, 1) := by decide +kernel
theorem dX5_digest_60 : decode cX5_digest 60 = .ok (.getfield 12, 3) := by decide +kernel
theorem dX5_digest_63 : decode cX5_digest 63 = .ok (.lload_n 1, 1) := by decide +kernel
theorem dX5_digest_64 : decode cX5_digest 64 = .ok (.aload_n 0, 1) := by decide +kernel
theorem dX5_digest_65 : decode cX5_digest 65 = .ok (.getfield 12, 3) := by decide +kernel
theorem dX5_digest_68 : decode cX5_digest 68 = .ok (.getfield 82, 3) := by decide +kernel
theorem dX5_digest_71 : decode cX5_digest 71 = .ok (.iload_n 3, 1) := by decide +kernel
theorem dX5_digest_72 : decode cX5_digest 72 = .ok (.aaload, 1) := by decide +kernel
theorem dX5_digest_73 : decode cX5_digest 73 = .ok (.invokevirtual 181, 3) := by decide +kernel
theorem dX5_digest_76 : decode cX5_digest 76 = .ok (.lstore_n 1, 1) := by decide +kernel
theorem dX5_digest_77 : decode cX5_digest 77 = .ok (.iinc 3 1, 3) := by decide +kernel
theorem dX5_digest_80 : decode cX5_digest 80 = .ok (.goto (-32), 3) := by decide +kernel
theorem dX5_digest_83 : decode cX5_digest 83 = .ok (.iconst 0, 1) := by decide +kernel
theorem dX5_digest_84 : decode cX5_digest 84 = .ok (.istore_n 3, 1) := by decide +kernel
theorem dX5_digest_85 : decode cX5_digest 85 = .ok (.iload_n 3, 1) := by decide +kernel
theorem dX5_digest_86 : decode cX5_digest 86 = .ok (.aload_n 0, 1) := by decide +kernel
theorem dX5_digest_87 : decode cX5_digest 87 = .ok (.getfield 12, 3) := by decide +kernel
theorem dX5_digest_90 : decode cX5_digest 90 = .ok (.getfield 108, 3) := by decide +kernel
theorem dX5_digest_93 : decode cX5_digest 93 = .ok (.if_icmp .ge 27, 3) := by decide +kernel
theorem dX5_digest_96 : decode cX5_digest 96 = .ok (.aload_n 0, 1) := by decide +kernel
theorem dX5_digest_97 : decode cX5_digest 97 = .ok (.getfield 12, 3) := by decide +kernel
theorem dX5_digest_100 : decode cX5_digest 100 = .ok (.lload_n 1, 1) := by decide +kernel
theorem dX5_digest_101 : decode cX5_digest 101 = .ok (.aload_n 0, 1) := by decide +kernel
theorem dX5_digest_102 : decode cX5_digest 102 = .ok (.getfield 12, 3) := by decide +kernel
theorem dX5_digest_105 : decode cX5_digest 105 = .ok (.getfield 127, 3) := by decide +kernel
theorem dX5_digest_108 : decode cX5_digest 108 = .ok (.iload_n 3, 1) := by decide +kernel
theorem dX5_digest_109 : decode cX5_digest 109 = .ok (.aaload, 1) := by decide +kernel
theorem dX5_digest_110 : decode cX5_digest 110 = .ok (.invokevirtual 185, 3) := by decide +kernel
theorem dX5_digest_113 : decode cX5_digest 113 = .ok (.lstore_n 1, 1) := by decide +kernel
theorem dX5_digest_114 : decode cX5_digest 114 = .ok (.iinc 3 1, 3) := by decide +kernel
theorem dX5_digest_117 : decode cX5_digest 117 = .ok (.goto (-32), 3) := by decide +kernel
theorem dX5_digest_120 : decode cX5_digest 120 = .ok (.lload_n 1, 1) := by decide +kernel
theorem dX5_digest_121 : decode cX5_digest 121 = .ok (.lreturn, 1) := by decide +kernel
theorem dX5_shutsBehind_0 : decode cX5_shutsBehind 0 = .ok (.aload_n 0, 1) := by decide +kernel
theorem dX5_shutsBehind_1 : decode cX5_shutsBehind 1 = .ok (.getfield 16, 3) := by decide +kernel
theorem dX5_shutsBehind_4 : decode cX5_shutsBehind 4 = .ok (.aload_n 0, 1) := by decide +kernel
theorem dX5_shutsBehind_5 : decode cX5_shutsBehind 5 = .ok (.getfield 12, 3) := by decide +kernel
theorem dX5_shutsBehind_8 : decode cX5_shutsBehind 8 = .ok (.invokevirtual 160, 3) := by decide +kernel
theorem dX5_shutsBehind_11 : decode cX5_shutsBehind 11 = .ok (.aload_n 0, 1) := by decide +kernel
theorem dX5_shutsBehind_12 : decode cX5_shutsBehind 12 = .ok (.getfield 16, 3) := by decide +kernel
theorem dX5_shutsBehind_15 : decode cX5_shutsBehind 15 = .ok (.getfield 82, 3) := by decide +kernel
theorem dX5_shutsBehind_18 : decode cX5_shutsBehind 18 = .ok (.iload_n 1, 1) := by decide +kernel
theorem dX5_shutsBehind_19 : decode cX5_shutsBehind 19 = .ok (.aaload, 1) := by decide +kernel
theorem dX5_shutsBehind_20 : decode cX5_shutsBehind 20 = .ok (.iconst 0, 1) := by decide +kernel
theorem dX5_shutsBehind_21 : decode cX5_shutsBehind 21 = .ok (.putfield 92, 3) := by decide +kernel
theorem dX5_shutsBehind_24 : decode cX5_shutsBehind 24 = .ok (.aload_n 0, 1) := by decide +kernel
theorem dX5_shutsBehind_25 : decode cX5_shutsBehind 25 = .ok (.getfield 16, 3) := by decide +kernel
theorem dX5_shutsBehind_28 : decode cX5_shutsBehind 28 = .ok (.getfield 82, 3) := by decide +kernel
theorem dX5_shutsBehind_31 : decode cX5_shutsBehind 31 = .ok (.iload_n 1, 1) := by decide +kernel
theorem dX5_shutsBehind_32 : decode cX5_shutsBehind 32 = .ok (.aaload, 1) := by decide +kernel
theorem dX5_shutsBehind_33 : decode cX5_shutsBehind 33 = .ok (.iload_n 2, 1) := by decide +kernel
theorem dX5_shutsBehind_34 : decode cX5_shutsBehind 34 = .ok (.invokevirtual 97, 3) := by decide +kernel
theorem dX5_shutsBehind_37 : decode cX5_shutsBehind 37 = .ok (.aload_n 0, 1) := by decide +kernel
theorem dX5_shutsBehind_38 : decode cX5_shutsBehind 38 = .ok (.getfield 16, 3) := by decide +kernel
theorem dX5_shutsBehind_41 : decode cX5_shutsBehind 41 = .ok (.iconst 1, 1) := by decide +kernel
theorem dX5_shutsBehind_42 : decode cX5_shutsBehind 42 = .ok (.invokevirtual 157, 3) := by decide +kernel
theorem dX5_shutsBehind_45 : decode cX5_shutsBehind 45 = .ok (.aload_n 0, 1) := by decide +kernel
theorem dX5_shutsBehind_46 : decode cX5_shutsBehind 46 = .ok (.getfield 22, 3) := by decide +kernel
theorem dX5_shutsBehind_49 : decode cX5_shutsBehind 49 = .ok (.aload_n 0, 1) := by decide +kernel
theorem dX5_shutsBehind_50 : decode cX5_shutsBehind 50 = .ok (.getfield 16, 3) := by decide +kernel
theorem dX5_shutsBehind_53 : decode cX5_shutsBehind 53 = .ok (.getfield 30, 3) := by decide +kernel
theorem dX5_shutsBehind_56 : decode cX5_shutsBehind 56 = .ok (.invokevirtual 146, 3) := by decide +kernel
theorem dX5_shutsBehind_59 : decode cX5_shutsBehind 59 = .ok (.ireturn, 1) := by decide +kernel
theorem dX5_placeOf_0 : decode cX5_placeOf 0 = .ok (.iload_n 0, 1) := by decide +kernel
theorem dX5_placeOf_1 : decode cX5_placeOf 1 = .ok (.ifCond .lt 19, 3) := by decide +kernel
theorem dX5_placeOf_4 : decode cX5_placeOf 4 = .ok (.iload_n 0, 1) := by decide +kernel
theorem dX5_placeOf_5 : decode cX5_placeOf 5 = .ok (.bipush 12, 2) := by decide +kernel
theorem dX5_placeOf_7 : decode cX5_placeOf 7 = .ok (.if_icmp .ge 13, 3) := by decide +kernel
theorem dX5_placeOf_10 : decode cX5_placeOf 10 = .ok (.iload_n 1, 1) := by decide +kernel
theorem dX5_placeOf_11 : decode cX5_placeOf 11 = .ok (.ifCond .lt 9, 3) := by decide +kernel
theorem dX5_placeOf_14 : decode cX5_placeOf 14 = .ok (.iload_n 1, 1) := by decide +kernel
theorem dX5_placeOf_15 : decode cX5_placeOf 15 = .ok (.bipush 9, 2) := by decide +kernel
theorem dX5_placeOf_17 : decode cX5_placeOf 17 = .ok (.if_icmp .lt 13, 3) := by decide +kernel
theorem dX5_placeOf_20 : decode cX5_placeOf 20 = .ok (.new 189, 3) := by decide +kernel
theorem dX5_placeOf_23 : decode cX5_placeOf 23 = .ok (.dup, 1) := by decide +kernel
theorem dX5_placeOf_24 : decode cX5_placeOf 24 = .ok (.ldc 191, 2) := by decide +kernel
theorem dX5_placeOf_26 : decode cX5_placeOf 26 = .ok (.invokespecial 193, 3) := by decide +kernel
theorem dX5_placeOf_29 : decode cX5_placeOf 29 = .ok (.athrow, 1) := by decide +kernel
theorem dX5_placeOf_30 : decode cX5_placeOf 30 = .ok (.bipush 12, 2) := by decide +kernel
theorem dX5_placeOf_32 : decode cX5_placeOf 32 = .ok (.iload_n 1, 1) := by decide +kernel
theorem dX5_placeOf_33 : decode cX5_placeOf 33 = .ok (.imul, 1) := by decide +kernel
theorem dX5_placeOf_34 : decode cX5_placeOf 34 = .ok (.iload_n 0, 1) := by decide +kernel
theorem dX5_placeOf_35 : decode cX5_placeOf 35 = .ok (.iadd, 1) := by decide +kernel
theorem dX5_placeOf_36 : decode cX5_placeOf 36 = .ok (.ireturn, 1) := by decide +kernel
theorem dX5_needCrowd_0 : decode cX5_needCrowd 0 = .ok (.iload_n 1, 1) := by decide +kernel
theorem dX5_needCrowd_1 : decode cX5_needCrowd 1 = .ok (.ifCond .lt 14, 3) := by decide +kernel
theorem dX5_needCrowd_4 : decode cX5_needCrowd 4 = .ok (.iload_n 1, 1) := by decide +kernel
theorem dX5_needCrowd_5 : decode cX5_needCrowd 5 = .ok (.aload_n 0, 1) := by decide +kernel
theorem dX5_needCrowd_6 : decode cX5_needCrowd 6 = .ok (.getfield 12, 3) := by decide +kernel
theorem dX5_needCrowd_9 : decode cX5_needCrowd 9 = .ok (.getfield 64, 3) := by decide +kernel
theorem dX5_needCrowd_12 : decode cX5_needCrowd 12 = .ok (.if_icmp .lt 13, 3) := by decide +kernel
theorem dX5_needCrowd_15 : decode cX5_needCrowd 15 = .ok (.new 189, 3) := by decide +kernel
theorem dX5_needCrowd_18 : decode cX5_needCrowd 18 = .ok (.dup, 1) := by decide +kernel
theorem dX5_needCrowd_19 : decode cX5_needCrowd 19 = .ok (.ldc 194, 2) := by decide +kernel
theorem dX5_needCrowd_21 : decode cX5_needCrowd 21 = .ok (.invokespecial 193, 3) := by decide +kernel
theorem dX5_needCrowd_24 : decode cX5_needCrowd 24 = .ok (.athrow, 1) := by decide +kernel
theorem dX5_needCrowd_25 : decode cX5_needCrowd 25 = .ok (.return_, 1) := by decide +kernel
theorem dX5_needPatrol_0 : decode cX5_needPatrol 0 = .ok (.iload_n 1, 1) := by decide +kernel
theorem dX5_needPatrol_1 : decode cX5_needPatrol 1 = .ok (.ifCond .lt 14, 3) := by decide +kernel
theorem dX5_needPatrol_4 : decode cX5_needPatrol 4 = .ok (.iload_n 1, 1) := by decide +kernel
theorem dX5_needPatrol_5 : decode cX5_needPatrol 5 = .ok (.aload_n 0, 1) := by decide +kernel
theorem dX5_needPatrol_6 : decode cX5_needPatrol 6 = .ok (.getfield 12, 3) := by decide +kernel
theorem dX5_needPatrol_9 : decode cX5_needPatrol 9 = .ok (.getfield 108, 3) := by decide +kernel
theorem dX5_needPatrol_12 : decode cX5_needPatrol 12 = .ok (.if_icmp .lt 13, 3) := by decide +kernel
theorem dX5_needPatrol_15 : decode cX5_needPatrol 15 = .ok (.new 189, 3) := by decide +kernel
theorem dX5_needPatrol_18 : decode cX5_needPatrol 18 = .ok (.dup, 1) := by decide +kernel
theorem dX5_needPatrol_19 : decode cX5_needPatrol 19 = .ok (.ldc 196, 2) := by decide +kernel
theorem dX5_needPatrol_21 : decode cX5_needPatrol 21 = .ok (.invokespecial 193, 3) := by decide +kernel
theorem dX5_needPatrol_24 : decode cX5_needPatrol 24 = .ok (.athrow, 1) := by decide +kernel
theorem dX5_needPatrol_25 : decode cX5_needPatrol 25 = .ok (.return_, 1) := by decide +kernel
theorem dX5_needWhat_0 : decode cX5_needWhat 0 = .ok (.iload_n 0, 1) := by decide +kernel
theorem dX5_needWhat_1 : decode cX5_needWhat 1 = .ok (.ifCond .lt 8, 3) := by decide +kernel
theorem dX5_needWhat_4 : decode cX5_needWhat 4 = .ok (.iload_n 0, 1) := by decide +kernel
theorem dX5_needWhat_5 : decode cX5_needWhat 5 = .ok (.iload_n 1, 1) := by decide +kernel
theorem dX5_needWhat_6 : decode cX5_needWhat 6 = .ok (.if_icmp .lt 13, 3) := by decide +kernel
theorem dX5_needWhat_9 : decode cX5_needWhat 9 = .ok (.new 189, 3) := by decide +kernel
theorem dX5_needWhat_12 : decode cX5_needWhat 12 = .ok (.dup, 1) := by decide +kernel
theorem dX5_needWhat_13 : decode cX5_needWhat 13 = .ok (.ldc 198, 2) := by decide +kernel
theorem dX5_needWhat_15 : decode cX5_needWhat 15 = .ok (.invokespecial 193, 3) := by decide +kernel
theorem dX5_needWhat_18 : decode cX5_needWhat 18 = .ok (.athrow, 1) := by decide +kernel
theorem dX5_needWhat_19 : decode cX5_needWhat 19 = .ok (.return_, 1) := by decide +kernel
theorem dX5_needSteps_0 : decode cX5_needSteps 0 = .ok (.iload_n 0, 1) := by decide +kernel
theorem dX5_needSteps_1 : decode cX5_needSteps 1 = .ok (.iconst 1, 1) := by decide +kernel
theorem dX5_needSteps_2 : decode cX5_needSteps 2 = .ok (.if_icmp .lt 9, 3) := by decide +kernel
theorem dX5_needSteps_5 : decode cX5_needSteps 5 = .ok (.iload_n 0, 1) := by decide +kernel
theorem dX5_needSteps_6 : decode cX5_needSteps 6 = .ok (.bipush 60, 2) := by decide +kernel
theorem dX5_needSteps_8 : decode cX5_needSteps 8 = .ok (.if_icmp .le 13, 3) := by decide +kernel
theorem dX5_needSteps_11 : decode cX5_needSteps 11 = .ok (.new 55, 3) := by decide +kernel
theorem dX5_needSteps_14 : decode cX5_needSteps 14 = .ok (.dup, 1) := by decide +kernel
theorem dX5_needSteps_15 : decode cX5_needSteps 15 = .ok (.ldc 200, 2) := by decide +kernel
theorem dX5_needSteps_17 : decode cX5_needSteps 17 = .ok (.invokespecial 59, 3) := by decide +kernel
theorem dX5_needSteps_20 : decode cX5_needSteps 20 = .ok (.athrow, 1) := by decide +kernel
theorem dX5_needSteps_21 : decode cX5_needSteps 21 = .ok (.return_, 1) := by decide +kernel
end
section
theorem dX6_init_0 : decode cX6_init 0 = .ok (.aload_n 0, 1) := by decide +kernel
theorem dX6_init_1 : decode cX6_init 1 = .ok (.aload_n 1, 1) := by decide +kernel
theorem dX6_init_2 : decode cX6_init 2 = .ok (.putfield 3, 3) := by decide +kernel
theorem dX6_init_5 : decode cX6_init 5 = .ok (.aload_n 0, 1) := by decide +kernel
theorem dX6_init_6 : decode cX6_init 6 = .ok (.invokespecial 9, 3) := by decide +kernel
theorem dX6_init_9 : decode cX6_init 9 = .ok (.aload_n 0, 1) := by decide +kernel
theorem dX6_init_10 : decode cX6_init 10 = .ok (.bipush 108, 2) := by decide +kernel
theorem dX6_init_12 : decode cX6_init 12 = .ok (.newarray .int, 2) := by decide +kernel
theorem dX6_init_14 : decode cX6_init 14 = .ok (.putfield 15, 3) := by decide +kernel
theorem dX6_init_17 : decode cX6_init 17 = .ok (.aload_n 0, 1) := by decide +kernel
theorem dX6_init_18 : decode cX6_init 18 = .ok (.bipush 6, 2) := by decide +kernel
theorem dX6_init_20 : decode cX6_init 20 = .ok (.newarray .int, 2) := by decide +kernel
theorem dX6_init_22 : decode cX6_init 22 = .ok (.putfield 19, 3) := by decide +kernel
theorem dX6_init_25 : decode cX6_init 25 = .ok (.aload_n 0, 1) := by decide +kernel
theorem dX6_init_26 : decode cX6_init 26 = .ok (.bipush 6, 2) := by decide +kernel
theorem dX6_init_28 : decode cX6_init 28 = .ok (.newarray .int, 2) := by decide +kernel
theorem dX6_init_30 : decode cX6_init 30 = .ok (.putfield 22, 3) := by decide +kernel
theorem dX6_init_33 : decode cX6_init 33 = .ok (.aload_n 0, 1) := by decide +kernel
theorem dX6_init_34 : decode cX6_init 34 = .ok (.bipush 6, 2) := by decide +kernel
theorem dX6_init_36 : decode cX6_init 36 = .ok (.newarray .int, 2) := by decide +kernel
theorem dX6_init_38 : decode cX6_init 38 = .ok (.putfield 25, 3) := by decide +kernel
theorem dX6_init_41 : decode cX6_init 41 = .ok (.aload_n 0, 1) := by decide +kernel
theorem dX6_init_42 : decode cX6_init 42 = .ok (.bipush 6, 2) := by decide +kernel
theorem dX6_init_44 : decode cX6_init 44 = .ok (.newarray .int, 2) := by decide +kernel
theorem dX6_init_46 : decode cX6_init 46 = .ok (.putfield 28, 3) := by decide +kernel
theorem dX6_init_49 : decode cX6_init 49 = .ok (.aload_n 0, 1) := by decide +kernel
theorem dX6_init_50 : decode cX6_init 50 = .ok (.sipush 144, 3) := by decide +kernel
theorem dX6_init_53 : decode cX6_init 53 = .ok (.newarray .int, 2) := by decide +kernel
theorem dX6_init_55 : decode cX6_init 55 = .ok (.putfield 31, 3) := by decide +kernel
theorem dX6_init_58 : decode cX6_init 58 = .ok (.aload_n 0, 1) := by decide +kernel
theorem dX6_init_59 : decode cX6_init 59 = .ok (.bipush 6, 2) := by decide +kernel
theorem dX6_init_61 : decode cX6_init 61 = .ok (.newarray .int, 2) := by decide +kernel
theorem dX6_init_63 : decode cX6_init 63 = .ok (.putfield 34, 3) := by decide +kernel
theorem dX6_init_66 : decode cX6_init 66 = .ok (.aload_n 0, 1) := by decide +kernel
theorem dX6_init_67 : decode cX6_init 67 = .ok (.iconst 3, 1) := by decide +kernel
theorem dX6_init_68 : decode cX6_init 68 = .ok (.newarray .int, 2) := by decide +kernel
theorem dX6_init_70 : decode cX6_init 70 = .ok (.putfield 37, 3) := by decide +kernel
theorem dX6_init_73 : decode cX6_init 73 = .ok (.aload_n 0, 1) := by decide +kernel
theorem dX6_init_74 : decode cX6_init 74 = .ok (.iconst 3, 1) := by decide +kernel
theorem dX6_init_75 : decode cX6_init 75 = .ok (.newarray .int, 2) := by decide +kernel
theorem dX6_init_77 : decode cX6_init 77 = .ok (.putfield 40, 3) := by decide +kernel
theorem dX6_init_80 : decode cX6_init 80 = .ok (.return_, 1) := by decide +kernel
theorem dX6_copy_0 : decode cX6_copy 0 = .ok (.aload_n 1, 1) := by decide +kernel
theorem dX6_copy_1 : decode cX6_copy 1 = .ok (.iconst 0, 1) := by decide +kernel
theorem dX6_copy_2 : decode cX6_copy 2 = .ok (.aload_n 2, 1) := by decide +kernel
theorem dX6_copy_3 : decode cX6_copy 3 = .ok (.iconst 0, 1) := by decide +kernel
theorem dX6_copy_4 : decode cX6_copy 4 = .ok (.aload_n 1, 1) := by decide +kernel
theorem dX6_copy_5 : decode cX6_copy 5 = .ok (.arraylength, 1) := by decide +kernel
theorem dX6_copy_6 : decode cX6_copy 6 = .ok (.invokestatic 43, 3) := by decide +kernel
theorem dX6_copy_9 : decode cX6_copy 9 = .ok (.return_, 1) := by decide +kernel
theorem dX6_become_0 : decode cX6_become 0 = .ok (.aload_n 0, 1) := by decide +kernel
theorem dX6_become_1 : decode cX6_become 1 = .ok (.aload_n 1, 1) := by decide +kernel
theorem dX6_become_2 : decode cX6_become 2 = .ok (.getfield 49, 3) := by decide +kernel
theorem dX6_become_5 : decode cX6_become 5 = .ok (.putfield 49, 3) := by decide +kernel
theorem dX6_become_8 : decode cX6_become 8 = .ok (.aload_n 0, 1) := by decide +kernel
theorem dX6_become_9 : decode cX6_become 9 = .ok (.aload_n 1, 1) := by decide +kernel
theorem dX6_become_10 : decode cX6_become 10 = .ok (.getfield 15, 3) := by decide +kernel
theorem dX6_become_13 : decode cX6_become 13 = .ok (.aload_n 0, 1) := by decide +kernel
theorem dX6_become_14 : decode cX6_become 14 = .ok (.getfield 15, 3) := by decide +kernel
theorem dX6_become_17 : decode cX6_become 17 = .ok (.invokevirtual 53, 3) := by decide +kernel
theorem dX6_become_20 : decode cX6_become 20 = .ok (.aload_n 0, 1) := by decide +kernel
theorem dX6_become_21 : decode cX6_become 21 = .ok (.aload_n 1, 1) := by decide +kernel
theorem dX6_become_22 : decode cX6_become 22 = .ok (.getfield 19, 3) := by decide +kernel
theorem dX6_become_25 : decode cX6_become 25 = .ok (.aload_n 0, 1) := by decide +kernel
theorem dX6_become_26 : decode cX6_become 26 = .ok (.getfield 19, 3) := by decide +kernel
theorem dX6_become_29 : decode cX6_become 29 = .ok (.invokevirtual 53, 3) := by decide +kernel
theorem dX6_become_32 : decode cX6_become 32 = .ok (.aload_n 0, 1) := by decide +kernel
theorem dX6_become_33 : decode cX6_become 33 = .ok (.aload_n 1, 1) := by decide +kernel
theorem dX6_become_34 : decode cX6_become 34 = .ok (.getfield 22, 3) := by decide +kernel
theorem dX6_become_37 : decode cX6_become 37 = .ok (.aload_n 0, 1) := by decide +kernel
theorem dX6_become_38 : decode cX6_become 38 = .ok (.getfield 22, 3) := by decide +kernel
theorem dX6_become_41 : decode cX6_become 41 = .ok (.invokevirtual 53, 3) := by decide +kernel
theorem dX6_become_44 : decode cX6_become 44 = .ok (.aload_n 0, 1) := by decide +kernel
theorem dX6_become_45 : decode cX6_become 45 = .ok (.aload_n 1, 1) := by decide +kernel
theorem dX6_become_46 : decode cX6_become 46 = .ok (.getfield 25, 3) := by decide +kernel
theorem dX6_become_49 : decode cX6_become 49 = .ok (.aload_n 0, 1) := by decide +kernel
theorem dX6_become_50 : decode cX6_become 50 = .ok (.getfield 25, 3) := by decide +kernel
theorem dX6_become_53 : decode cX6_become 53 = .ok (.invokevirtual 53, 3) := by decide +kernel
theorem dX6_become_56 : decode cX6_become 56 = .ok (.aload_n 0, 1) := by decide +kernel
theorem dX6_become_57 : decode cX6_become 57 = .ok (.aload_n 1, 1) := by decide +kernel
theorem dX6_become_58 : decode cX6_become 58 = .ok (.getfield 28, 3) := by decide +kernel
theorem dX6_become_61 : decode cX6_become 61 = .ok (.aload_n 0, 1) := by decide +kernel
theorem dX6_become_62 : decode cX6_become 62 = .ok (.getfield 28, 3) := by decide +kernel
theorem dX6_become_65 : decode cX6_become 65 = .ok (.invokevirtual 53, 3) := by decide +kernel
theorem dX6_become_68 : decode cX6_become 68 = .ok (.aload_n 0, 1) := by decide +kernel
theorem dX6_become_69 : decode cX6_become 69 = .ok (.aload_n 1, 1) := by decide +kernel
theorem dX6_become_70 : decode cX6_become 70 = .ok (.getfield 31, 3) := by decide +kernel
theorem dX6_become_73 : decode cX6_become 73 = .ok (.aload_n 0, 1) := by decide +kernel
theorem dX6_become_74 : decode cX6_become 74 = .ok (.getfield 31, 3) := by decide +kernel
theorem dX6_become_77 : decode cX6_become 77 = .ok (.invokevirtual 53, 3) := by decide +kernel
theorem dX6_become_80 : decode cX6_become 80 = .ok (.aload_n 0, 1) := by decide +kernel
theorem dX6_become_81 : decode cX6_become 81 = .ok (.aload_n 1, 1) := by decide +kernel
theorem dX6_become_82 : decode cX6_become 82 = .ok (.getfield 34, 3) := by decide +kernel
theorem dX6_become_85 : decode cX6_become 85 = .ok (.aload_n 0, 1) := by decide +kernel
theorem dX6_become_86 : decode cX6_become 86 = .ok (.getfield 34, 3) := by decide +kernel
theorem dX6_become_89 : decode cX6_become 89 = .ok (.invokevirtual 53, 3) := by decide +kernel
theorem dX6_become_92 : decode cX6_become 92 = .ok (.aload_n 0, 1) := by decide +kernel
theorem dX6_become_93 : decode cX6_become 93 = .ok (.aload_n 1, 1) := by decide +kernel
theorem dX6_become_94 : decode cX6_become 94 = .ok (.getfield 37, 3) := by decide +kernel
theorem dX6_become_97 : decode cX6_become 97 = .ok (.aload_n 0, 1) := by decide +kernel
theorem dX6_become_98 : decode cX6_become 98 = .ok (.getfield 37, 3) := by decide +kernel
theorem dX6_become_101 : decode cX6_become 101 = .ok (.invokevirtual 53, 3) := by decide +kernel
theorem dX6_become_104 : decode cX6_become 104 = .ok (.aload_n 0, 1) := by decide +kernel
theorem dX6_become_105 : decode cX6_become 105 = .ok (.aload_n 1, 1) := by decide +kernel
theorem dX6_become_106 : decode cX6_become 106 = .ok (.getfield 40, 3) := by decide +kernel
theorem dX6_become_109 : decode cX6_become 109 = .ok (.aload_n 0, 1) := by decide +kernel
theorem dX6_become_110 : decode cX6_become 110 = .ok (.getfield 40, 3) := by decide +kernel
theorem dX6_become_113 : decode cX6_become 113 = .ok (.invokevirtual 53, 3) := by decide +kernel
theorem dX6_become_116 : decode cX6_become 116 = .ok (.return_, 1) := by decide +kernel
theorem dX6_isBusy_0 : decode cX6_isBusy 0 = .ok (.iconst 0, 1) := by decide +kernel
theorem dX6_isBusy_1 : decode cX6_isBusy 1 = .ok (.istore_n 2, 1) := by decide +kernel
theorem dX6_isBusy_2 : decode cX6_isBusy 2 = .ok (.iload_n 2, 1) := by decide +kernel
theorem dX6_isBusy_3 : decode cX6_isBusy 3 = .ok (.aload_n 0, 1) := by decide +kernel
theorem dX6_isBusy_4 : decode cX6_isBusy 4 = .ok (.getfield 3, 3) := by decide +kernel
theorem dX6_isBusy_7 : decode cX6_isBusy 7 = .ok (.getfield 57, 3) := by decide +kernel
theorem dX6_isBusy_10 : decode cX6_isBusy 10 = .ok (.if_icmp .ge 30, 3) := by decide +kernel
theorem dX6_isBusy_13 : decode cX6_isBusy 13 = .ok (.aload_n 0, 1) := by decide +kernel
theorem dX6_isBusy_14 : decode cX6_isBusy 14 = .ok (.getfield 22, 3) := by decide +kernel
theorem dX6_isBusy_17 : decode cX6_isBusy 17 = .ok (.iload_n 2, 1) := by decide +kernel
theorem dX6_isBusy_18 : decode cX6_isBusy 18 = .ok (.iaload, 1) := by decide +kernel
theorem dX6_isBusy_19 : decode cX6_isBusy 19 = .ok (.ifCond .le 15, 3) := by decide +kernel
theorem dX6_isBusy_22 : decode cX6_isBusy 22 = .ok (.aload_n 0, 1) := by decide +kernel
theorem dX6_isBusy_23 : decode cX6_isBusy 23 = .ok (.getfield 19, 3) := by decide +kernel
theorem dX6_isBusy_26 : decode cX6_isBusy 26 = .ok (.iload_n 2, 1) := by decide +kernel
theorem dX6_isBusy_27 : decode cX6_isBusy 27 = .ok (.iaload, 1) := by decide +kernel
theorem dX6_isBusy_28 : decode cX6_isBusy 28 = .ok (.iload_n 1, 1) := by decide +kernel
theorem dX6_isBusy_29 : decode cX6_isBusy 29 = .ok (.if_icmp .ne 5, 3) := by decide +kernel
theorem dX6_isBusy_32 : decode cX6_isBusy 32 = .ok (.iconst 1, 1) := by decide +kernel
theorem dX6_isBusy_33 : decode cX6_isBusy 33 = .ok (.ireturn, 1) := by decide +kernel
theorem dX6_isBusy_34 : decode cX6_isBusy 34 = .ok (.iinc 2 1, 3) := by decide +kernel
theorem dX6_isBusy_37 : decode cX6_isBusy 37 = .ok (.goto (-35), 3) := by decide +kernel
theorem dX6_isBusy_40 : decode cX6_isBusy 40 = .ok (.iconst 0, 1) := by decide +kernel
theorem dX6_isBusy_41 : decode cX6_isBusy 41 = .ok (.istore_n 2, 1) := by decide +kernel
theorem dX6_isBusy_42 : decode cX6_isBusy 42 = .ok (.iload_n 2, 1) := by decide +kernel
theorem dX6_isBusy_43 : decode cX6_isBusy 43 = .ok (.aload_n 0, 1) := by decide +kernel
theorem dX6_isBusy_44 : decode cX6_isBusy 44 = .ok (.getfield 3, 3) := by decide +kernel
theorem dX6_isBusy_47 : decode cX6_isBusy 47 = .ok (.getfield 60, 3) := by decide +kernel
theorem dX6_isBusy_50 : decode cX6_isBusy 50 = .ok (.if_icmp .ge 21, 3) := by decide +kernel
theorem dX6_isBusy_53 : decode cX6_isBusy 53 = .ok (.aload_n 0, 1) := by decide +kernel
theorem dX6_isBusy_54 : decode cX6_isBusy 54 = .ok (.getfield 37, 3) := by decide +kernel
theorem dX6_isBusy_57 : decode cX6_isBusy 57 = .ok (.iload_n 2, 1) := by decide +kernel
theorem dX6_isBusy_58 : decode cX6_isBusy 58 = .ok (.iaload, 1) := by decide +kernel
theorem dX6_isBusy_59 : decode cX6_isBusy 59 = .ok (.iload_n 1, 1) := by decide +kernel
theorem dX6_isBusy_60 : decode cX6_isBusy 60 = .ok (.if_icmp .ne 5, 3) := by decide +kernel
theorem dX6_isBusy_63 : decode cX6_isBusy 63 = .ok (.iconst 1, 1) := by decide +kernel
theorem dX6_isBusy_64 : decode cX6_isBusy 64 = .ok (.ireturn, 1) := by decide +kernel
theorem dX6_isBusy_65 : decode cX6_isBusy 65 = .ok (.iinc 2 1, 3) := by decide +kernel
theorem dX6_isBusy_68 : decode cX6_isBusy 68 = .ok (.goto (-26), 3) := by decide +kernel
theorem dX6_isBusy_71 : decode cX6_isBusy 71 = .ok (.iconst 0, 1) := by decide +kernel
theorem dX6_isBusy_72 : decode cX6_isBusy 72 = .ok (.ireturn, 1) := by decide +kernel
theorem dX6_isLane_0 : decode cX6_isLane 0 = .ok (.iload_n 1, 1) := by decide +kernel
theorem dX6_isLane_1 : decode cX6_isLane 1 = .ok (.iconst (-1), 1) := by decide +kernel
theorem dX6_isLane_2 : decode cX6_isLane 2 = .ok (.if_icmp .eq 17, 3) := by decide +kernel
theorem dX6_isLane_5 : decode cX6_isLane 5 = .ok (.aload_n 0, 1) := by decide +kernel
theorem dX6_isLane_6 : decode cX6_isLane 6 = .ok (.getfield 15, 3) := by decide +kernel
theorem dX6_isLane_9 : decode cX6_isLane 9 = .ok (.iload_n 1, 1) := by decide +kernel
theorem dX6_isLane_10 : decode cX6_isLane 10 = .ok (.iaload, 1) := by decide +kernel
theorem dX6_isLane_11 : decode cX6_isLane 11 = .ok (.iconst (-1), 1) := by decide +kernel
theorem dX6_isLane_12 : decode cX6_isLane 12 = .ok (.if_icmp .eq 7, 3) := by decide +kernel
theorem dX6_isLane_15 : decode cX6_isLane 15 = .ok (.iconst 1, 1) := by decide +kernel
theorem dX6_isLane_16 : decode cX6_isLane 16 = .ok (.goto 4, 3) := by decide +kernel
theorem dX6_isLane_19 : decode cX6_isLane 19 = .ok (.iconst 0, 1) := by decide +kernel
theorem dX6_isLane_20 : decode cX6_isLane 20 = .ok (.ireturn, 1) := by decide +kernel
theorem dX6_goes_0 : decode cX6_goes 0 = .ok (.aload_n 0, 1) := by decide +kernel
theorem dX6_goes_1 : decode cX6_goes 1 = .ok (.iload_n 2, 1) := by decide +kernel
theorem dX6_goes_2 : decode cX6_goes 2 = .ok (.invokevirtual 63, 3) := by decide +kernel
theorem dX6_goes_5 : decode cX6_goes 5 = .ok (.ifCond .ne 5, 3) := by decide +kernel
theorem dX6_goes_8 : decode cX6_goes 8 = .ok (.iconst 0, 1) := by decide +kernel
theorem dX6_goes_9 : decode cX6_goes 9 = .ok (.ireturn, 1) := by decide +kernel
theorem dX6_goes_10 : decode cX6_goes 10 = .ok (.aload_n 0, 1) := by decide +kernel
theorem dX6_goes_11 : decode cX6_goes 11 = .ok (.getfield 15, 3) := by decide +kernel
theorem dX6_goes_14 : decode cX6_goes 14 = .ok (.iload_n 2, 1) := by decide +kernel
theorem dX6_goes_15 : decode cX6_goes 15 = .ok (.iaload, 1) := by decide +kernel
theorem dX6_goes_16 : decode cX6_goes 16 = .ok (.istore 4, 2) := by decide +kernel
theorem dX6_goes_18 : decode cX6_goes 18 = .ok (.iload 4, 2) := by decide +kernel
theorem dX6_goes_20 : decode cX6_goes 20 = .ok (.ifCond .le 65, 3) := by decide +kernel
theorem dX6_goes_23 : decode cX6_goes 23 = .ok (.aload_n 0, 1) := by decide +kernel
theorem dX6_goes_24 : decode cX6_goes 24 = .ok (.getfield 22, 3) := by decide +kernel
theorem dX6_goes_27 : decode cX6_goes 27 = .ok (.iload_n 1, 1) := by decide +kernel
theorem dX6_goes_28 : decode cX6_goes 28 = .ok (.iaload, 1) := by decide +kernel
theorem dX6_goes_29 : decode cX6_goes 29 = .ok (.iconst 2, 1) := by decide +kernel
theorem dX6_goes_30 : decode cX6_goes 30 = .ok (.iload 4, 2) := by decide +kernel
theorem dX6_goes_32 : decode cX6_goes 32 = .ok (.imul, 1) := by decide +kernel
theorem dX6_goes_33 : decode cX6_goes 33 = .ok (.if_icmp .lt 32, 3) := by decide +kernel
theorem dX6_goes_36 : decode cX6_goes 36 = .ok (.aload_n 0, 1) := by decide +kernel
theorem dX6_goes_37 : decode cX6_goes 37 = .ok (.iload_n 3, 1) := by decide +kernel
theorem dX6_goes_38 : decode cX6_goes 38 = .ok (.invokevirtual 63, 3) := by decide +kernel
theorem dX6_goes_41 : decode cX6_goes 41 = .ok (.ifCond .eq 24, 3) := by decide +kernel
theorem dX6_goes_44 : decode cX6_goes 44 = .ok (.aload_n 0, 1) := by decide +kernel
theorem dX6_goes_45 : decode cX6_goes 45 = .ok (.getfield 15, 3) := by decide +kernel
theorem dX6_goes_48 : decode cX6_goes 48 = .ok (.iload_n 3, 1) := by decide +kernel
theorem dX6_goes_49 : decode cX6_goes 49 = .ok (.iaload, 1) := by decide +kernel
theorem dX6_goes_50 : decode cX6_goes 50 = .ok (.iconst 3, 1) := by decide +kernel
theorem dX6_goes_51 : decode cX6_goes 51 = .ok (.iload 4, 2) := by decide +kernel
theorem dX6_goes_53 : decode cX6_goes 53 = .ok (.isub, 1) := by decide +kernel
theorem dX6_goes_54 : decode cX6_goes 54 = .ok (.if_icmp .gt 11, 3) := by decide +kernel
theorem dX6_goes_57 : decode cX6_goes 57 = .ok (.aload_n 0, 1) := by decide +kernel
theorem dX6_goes_58 : decode cX6_goes 58 = .ok (.iload_n 3, 1) := by decide +kernel
theorem dX6_goes_59 : decode cX6_goes 59 = .ok (.invokevirtual 67, 3) := by decide +kernel
theorem dX6_goes_62 : decode cX6_goes 62 = .ok (.ifCond .eq 5, 3) := by decide +kernel
theorem dX6_goes_65 : decode cX6_goes 65 = .ok (.iconst 0, 1) := by decide +kernel
theorem dX6_goes_66 : decode cX6_goes 66 = .ok (.ireturn, 1) := by decide +kernel
theorem dX6_goes_67 : decode cX6_goes 67 = .ok (.aload_n 0, 1) := by decide +kernel
theorem dX6_goes_68 : decode cX6_goes 68 = .ok (.getfield 15, 3) := by decide +kernel
theorem dX6_goes_71 : decode cX6_goes 71 = .ok (.iload_n 3, 1) := by decide +kernel
theorem dX6_goes_72 : decode cX6_goes 72 = .ok (.dup2, 1) := by decide +kernel
theorem dX6_goes_73 : decode cX6_goes 73 = .ok (.iaload, 1) := by decide +kernel
theorem dX6_goes_74 : decode cX6_goes 74 = .ok (.iload 4, 2) := by decide +kernel
theorem dX6_goes_76 : decode cX6_goes 76 = .ok (.iadd, 1) := by decide +kernel
theorem dX6_goes_77 : decode cX6_goes 77 = .ok (.iastore, 1) := by decide +kernel
theorem dX6_goes_78 : decode cX6_goes 78 = .ok (.aload_n 0, 1) := by decide +kernel
theorem dX6_goes_79 : decode cX6_goes 79 = .ok (.getfield 15, 3) := by decide +kernel
theorem dX6_goes_82 : decode cX6_goes 82 = .ok (.iload_n 2, 1) := by decide +kernel
theorem dX6_goes_83 : decode cX6_goes 83 = .ok (.iconst 0, 1) := by decide +kernel
theorem dX6_goes_84 : decode cX6_goes 84 = .ok (.iastore, 1) := by decide +kernel
theorem dX6_goes_85 : decode cX6_goes 85 = .ok (.aload_n 0, 1) := by decide +kernel
theorem dX6_goes_86 : decode cX6_goes 86 = .ok (.getfield 19, 3) := by decide +kernel
theorem dX6_goes_89 : decode cX6_goes 89 = .ok (.iload_n 1, 1) := by decide +kernel
theorem dX6_goes_90 : decode cX6_goes 90 = .ok (.iload_n 2, 1) := by decide +kernel
theorem dX6_goes_91 : decode cX6_goes 91 = .ok (.iastore, 1) := by decide +kernel
theorem dX6_goes_92 : decode cX6_goes 92 = .ok (.iconst 1, 1) := by decide +kernel
theorem dX6_goes_93 : decode cX6_goes 93 = .ok (.ireturn, 1) := by decide +kernel
theorem dX6_raises_0 : decode cX6_raises 0 = .ok (.aload_n 0, 1) := by decide +kernel
theorem dX6_raises_1 : decode cX6_raises 1 = .ok (.getfield 22, 3) := by decide +kernel
theorem dX6_raises_4 : decode cX6_raises 4 = .ok (.iload_n 1, 1) := by decide +kernel
theorem dX6_raises_5 : decode cX6_raises 5 = .ok (.iaload, 1) := by decide +kernel
theorem dX6_raises_6 : decode cX6_raises 6 = .ok (.iconst 3, 1) := by decide +kernel
theorem dX6_raises_7 : decode cX6_raises 7 = .ok (.if_icmp .lt 29, 3) := by decide +kernel
theorem dX6_raises_10 : decode cX6_raises 10 = .ok (.aload_n 0, 1) := by decide +kernel
theorem dX6_raises_11 : decode cX6_raises 11 = .ok (.iload_n 2, 1) := by decide +kernel
theorem dX6_raises_12 : decode cX6_raises 12 = .ok (.invokevirtual 63, 3) := by decide +kernel
theorem dX6_raises_15 : decode cX6_raises 15 = .ok (.ifCond .eq 21, 3) := by decide +kernel
theorem dX6_raises_18 : decode cX6_raises 18 = .ok (.aload_n 0, 1) := by decide +kernel
theorem dX6_raises_19 : decode cX6_raises 19 = .ok (.getfield 15, 3) := by decide +kernel
theorem dX6_raises_22 : decode cX6_raises 22 = .ok (.iload_n 2, 1) := by decide +kernel
theorem dX6_raises_23 : decode cX6_raises 23 = .ok (.iaload, 1) := by decide +kernel
theorem dX6_raises_24 : decode cX6_raises 24 = .ok (.iconst 3, 1) := by decide +kernel
theorem dX6_raises_25 : decode cX6_raises 25 = .ok (.if_icmp .eq 11, 3) := by decide +kernel
theorem dX6_raises_28 : decode cX6_raises 28 = .ok (.aload_n 0, 1) := by decide +kernel
theorem dX6_raises_29 : decode cX6_raises 29 = .ok (.iload_n 2, 1) := by decide +kernel
theorem dX6_raises_30 : decode cX6_raises 30 = .ok (.invokevirtual 67, 3) := by decide +kernel
theorem dX6_raises_33 : decode cX6_raises 33 = .ok (.ifCond .eq 5, 3) := by decide +kernel
theorem dX6_raises_36 : decode cX6_raises 36 = .ok (.iconst 0, 1) := by decide +kernel
theorem dX6_raises_37 : decode cX6_raises 37 = .ok (.ireturn, 1) := by decide +kernel
theorem dX6_raises_38 : decode cX6_raises 38 = .ok (.aload_n 0, 1) := by decide +kernel
theorem dX6_raises_39 : decode cX6_raises 39 = .ok (.getfield 15, 3) := by decide +kernel
theorem dX6_raises_42 : decode cX6_raises 42 = .ok (.iload_n 2, 1) := by decide +kernel
theorem dX6_raises_43 : decode cX6_raises 43 = .ok (.dup2, 1) := by decide +kernel
theorem dX6_raises_44 : decode cX6_raises 44 = .ok (.iaload, 1) := by decide +kernel
theorem dX6_raises_45 : decode cX6_raises 45 = .ok (.iconst 1, 1) := by decide +kernel
theorem dX6_raises_46 : decode cX6_raises 46 = .ok (.iadd, 1) := by decide +kernel
theorem dX6_raises_47 : decode cX6_raises 47 = .ok (.iastore, 1) := by decide +kernel
theorem dX6_raises_48 : decode cX6_raises 48 = .ok (.iconst 1, 1) := by decide +kernel
theorem dX6_raises_49 : decode cX6_raises 49 = .ok (.ireturn, 1) := by decide +kernel
theorem dX6_pulls_0 : decode cX6_pulls 0 = .ok (.aload_n 0, 1) := by decide +kernel
theorem dX6_pulls_1 : decode cX6_pulls 1 = .ok (.iload_n 1, 1) := by decide +kernel
theorem dX6_pulls_2 : decode cX6_pulls 2 = .ok (.invokevirtual 63, 3) := by decide +kernel
theorem dX6_pulls_5 : decode cX6_pulls 5 = .ok (.ifCond .eq 12, 3) := by decide +kernel
theorem dX6_pulls_8 : decode cX6_pulls 8 = .ok (.aload_n 0, 1) := by decide +kernel
theorem dX6_pulls_9 : decode cX6_pulls 9 = .ok (.getfield 15, 3) := by decide +kernel
theorem dX6_pulls_12 : decode cX6_pulls 12 = .ok (.iload_n 1, 1) := by decide +kernel
theorem dX6_pulls_13 : decode cX6_pulls 13 = .ok (.iaload, 1) := by decide +kernel
theorem dX6_pulls_14 : decode cX6_pulls 14 = .ok (.ifCond .ne 5, 3) := by decide +kernel
theorem dX6_pulls_17 : decode cX6_pulls 17 = .ok (.iconst 0, 1) := by decide +kernel
theorem dX6_pulls_18 : decode cX6_pulls 18 = .ok (.ireturn, 1) := by decide +kernel
theorem dX6_pulls_19 : decode cX6_pulls 19 = .ok (.aload_n 0, 1) := by decide +kernel
theorem dX6_pulls_20 : decode cX6_pulls 20 = .ok (.getfield 15, 3) := by decide +kernel
theorem dX6_pulls_23 : decode cX6_pulls 23 = .ok (.iload_n 1, 1) := by decide +kernel
theorem dX6_pulls_24 : decode cX6_pulls 24 = .ok (.dup2, 1) := by decide +kernel
theorem dX6_pulls_25 : decode cX6_pulls 25 = .ok (.iaload, 1) := by decide +kernel
theorem dX6_pulls_26 : decode cX6_pulls 26 = .ok (.iconst 1, 1) := by decide +kernel
theorem dX6_pulls_27 : decode cX6_pulls 27 = .ok (.isub, 1) := by decide +kernel
theorem dX6_pulls_28 : decode cX6_pulls 28 = .ok (.iastore, 1) := by decide +kernel
theorem dX6_pulls_29 : decode cX6_pulls 29 = .ok (.iconst 1, 1) := by decide +kernel
theorem dX6_pulls_30 : decode cX6_pulls 30 = .ok (.ireturn, 1) := by decide +kernel
theorem dX6_carriesOut_0 : decode cX6_carriesOut 0 = .ok (.aload_n 0, 1) := by decide +kernel
theorem dX6_carriesOut_1 : decode cX6_carriesOut 1 = .ok (.getfield 19, 3) := by decide +kernel
theorem dX6_carriesOut_4 : decode cX6_carriesOut 4 = .ok (.iload_n 1, 1) := by decide +kernel
theorem dX6_carriesOut_5 : decode cX6_carriesOut 5 = .ok (.iaload, 1) := by decide +kernel
theorem dX6_carriesOut_6 : decode cX6_carriesOut 6 = .ok (.iload_n 2, 1) := by decide +kernel
theorem dX6_carriesOut_7 : decode cX6_carriesOut 7 = .ok (.iconst 4, 1) := by decide +kernel
theorem dX6_carriesOut_8 : decode cX6_carriesOut 8 = .ok (.irem, 1) := by decide +kernel
theorem dX6_carriesOut_9 : decode cX6_carriesOut 9 = .ok (.invokestatic 70, 3) := by decide +kernel
theorem dX6_carriesOut_12 : decode cX6_carriesOut 12 = .ok (.istore_n 3, 1) := by decide +kernel
theorem dX6_carriesOut_13 : decode cX6_carriesOut 13 = .ok (.iload_n 2, 1) := by decide +kernel
theorem dX6_carriesOut_14 : decode cX6_carriesOut 14 = .ok (.bipush 7, 2) := by decide +kernel
theorem dX6_carriesOut_16 : decode cX6_carriesOut 16 = .ok (.if_icmp .le 9, 3) := by decide +kernel
theorem dX6_carriesOut_19 : decode cX6_carriesOut 19 = .ok (.aload_n 0, 1) := by decide +kernel
theorem dX6_carriesOut_20 : decode cX6_carriesOut 20 = .ok (.iload_n 3, 1) := by decide +kernel
theorem dX6_carriesOut_21 : decode cX6_carriesOut 21 = .ok (.invokevirtual 74, 3) := by decide +kernel
theorem dX6_carriesOut_24 : decode cX6_carriesOut 24 = .ok (.ireturn, 1) := by decide +kernel
theorem dX6_carriesOut_25 : decode cX6_carriesOut 25 = .ok (.iload_n 2, 1) := by decide +kernel
theorem dX6_carriesOut_26 : decode cX6_carriesOut 26 = .ok (.iconst 3, 1) := by decide +kernel
theorem dX6_carriesOut_27 : decode cX6_carriesOut 27 = .ok (.if_icmp .le 12, 3) := by decide +kernel
theorem dX6_carriesOut_30 : decode cX6_carriesOut 30 = .ok (.aload_n 0, 1) := by decide +kernel
theorem dX6_carriesOut_31 : decode cX6_carriesOut 31 = .ok (.iload_n 1, 1) := by decide +kernel
theorem dX6_carriesOut_32 : decode cX6_carriesOut 32 = .ok (.iload_n 3, 1) := by decide +kernel
theorem dX6_carriesOut_33 : decode cX6_carriesOut 33 = .ok (.invokevirtual 77, 3) := by decide +kernel
theorem dX6_carriesOut_36 : decode cX6_carriesOut 36 = .ok (.goto 23, 3) := by decide +kernel
theorem dX6_carriesOut_39 : decode cX6_carriesOut 39 = .ok (.aload_n 0, 1) := by decide +kernel
theorem dX6_carriesOut_40 : decode cX6_carriesOut 40 = .ok (.iload_n 1, 1) := by decide +kernel
theorem dX6_carriesOut_41 : decode cX6_carriesOut 41 = .ok (.iload_n 3, 1) := by decide +kernel
theorem dX6_carriesOut_42 : decode cX6_carriesOut 42 = .ok (.iload_n 3, 1) := by decide +kernel
theorem dX6_carriesOut_43 : decode cX6_carriesOut 43 = .ok (.iconst (-1), 1) := by decide +kernel
theorem dX6_carriesOut_44 : decode cX6_carriesOut 44 = .ok (.if_icmp .ne 7, 3) := by decide +kernel
theorem dX6_carriesOut_47 : decode cX6_carriesOut 47 = .ok (.iconst (-1), 1) := by decide +kernel
theorem dX6_carriesOut_48 : decode cX6_carriesOut 48 = .ok (.goto 8, 3) := by decide +kernel
theorem dX6_carriesOut_51 : decode cX6_carriesOut 51 = .ok (.iload_n 3, 1) := by decide +kernel
theorem dX6_carriesOut_52 : decode cX6_carriesOut 52 = .ok (.iload_n 2, 1) := by decide +kernel
theorem dX6_carriesOut_53 : decode cX6_carriesOut 53 = .ok (.invokestatic 70, 3) := by decide +kernel
theorem dX6_carriesOut_56 : decode cX6_carriesOut 56 = .ok (.invokevirtual 81, 3) := by decide +kernel
theorem dX6_carriesOut_59 : decode cX6_carriesOut 59 = .ok (.ireturn, 1) := by decide +kernel
theorem dX6_act_0 : decode cX6_act 0 = .ok (.aload_n 0, 1) := by decide +kernel
theorem dX6_act_1 : decode cX6_act 1 = .ok (.getfield 22, 3) := by decide +kernel
theorem dX6_act_4 : decode cX6_act 4 = .ok (.iload_n 1, 1) := by decide +kernel
theorem dX6_act_5 : decode cX6_act 5 = .ok (.iaload, 1) := by decide +kernel
theorem dX6_act_6 : decode cX6_act 6 = .ok (.ifCond .eq 12, 3) := by decide +kernel
theorem dX6_act_9 : decode cX6_act 9 = .ok (.aload_n 0, 1) := by decide +kernel
theorem dX6_act_10 : decode cX6_act 10 = .ok (.getfield 28, 3) := by decide +kernel
theorem dX6_act_13 : decode cX6_act 13 = .ok (.iload_n 1, 1) := by decide +kernel
theorem dX6_act_14 : decode cX6_act 14 = .ok (.iaload, 1) := by decide +kernel
theorem dX6_act_15 : decode cX6_act 15 = .ok (.ifCond .ne 4, 3) := by decide +kernel
theorem dX6_act_18 : decode cX6_act 18 = .ok (.return_, 1) := by decide +kernel
theorem dX6_act_19 : decode cX6_act 19 = .ok (.aload_n 0, 1) := by decide +kernel
theorem dX6_act_20 : decode cX6_act 20 = .ok (.getfield 31, 3) := by decide +kernel
theorem dX6_act_23 : decode cX6_act 23 = .ok (.bipush 24, 2) := by decide +kernel
theorem dX6_act_25 : decode cX6_act 25 = .ok (.iload_n 1, 1) := by decide +kernel
theorem dX6_act_26 : decode cX6_act 26 = .ok (.imul, 1) := by decide +kernel
theorem dX6_act_27 : decode cX6_act 27 = .ok (.iaload, 1) := by decide +kernel
theorem dX6_act_28 : decode cX6_act 28 = .ok (.istore_n 2, 1) := by decide +kernel
theorem dX6_act_29 : decode cX6_act 29 = .ok (.aload_n 0, 1) := by decide +kernel
theorem dX6_act_30 : decode cX6_act 30 = .ok (.getfield 28, 3) := by decide +kernel
theorem dX6_act_33 : decode cX6_act 33 = .ok (.iload_n 1, 1) := by decide +kernel
theorem dX6_act_34 : decode cX6_act 34 = .ok (.dup2, 1) := by decide +kernel
theorem dX6_act_35 : decode cX6_act 35 = .ok (.iaload, 1) := by decide +kernel
theorem dX6_act_36 : decode cX6_act 36 = .ok (.iconst 1, 1) := by decide +kernel
theorem dX6_act_37 : decode cX6_act 37 = .ok (.isub, 1) := by decide +kernel
theorem dX6_act_38 : decode cX6_act 38 = .ok (.iastore, 1) := by decide +kernel
theorem dX6_act_39 : decode cX6_act 39 = .ok (.aload_n 0, 1) := by decide +kernel
theorem dX6_act_40 : decode cX6_act 40 = .ok (.getfield 31, 3) := by decide +kernel
theorem dX6_act_43 : decode cX6_act 43 = .ok (.bipush 24, 2) := by decide +kernel
theorem dX6_act_45 : decode cX6_act 45 = .ok (.iload_n 1, 1) := by decide +kernel
theorem dX6_act_46 : decode cX6_act 46 = .ok (.imul, 1) := by decide +kernel
theorem dX6_act_47 : decode cX6_act 47 = .ok (.iconst 1, 1) := by decide +kernel
theorem dX6_act_48 : decode cX6_act 48 = .ok (.iadd, 1) := by decide +kernel
theorem dX6_act_49 : decode cX6_act 49 = .ok (.aload_n 0, 1) := by decide +kernel
theorem dX6_act_50 : decode cX6_act 50 = .ok (.getfield 31, 3) := by decide +kernel
theorem dX6_act_53 : decode cX6_act 53 = .ok (.bipush 24, 2) := by decide +kernel
theorem dX6_act_55 : decode cX6_act 55 = .ok (.iload_n 1, 1) := by decide +kernel
theorem dX6_act_56 : decode cX6_act 56 = .ok (.imul, 1) := by decide +kernel
theorem dX6_act_57 : decode cX6_act 57 = .ok (.aload_n 0, 1) := by decide +kernel
theorem dX6_act_58 : decode cX6_act 58 = .ok (.getfield 28, 3) := by decide +kernel
theorem dX6_act_61 : decode cX6_act 61 = .ok (.iload_n 1, 1) := by decide +kernel
theorem dX6_act_62 : decode cX6_act 62 = .ok (.iaload, 1) := by decide +kernel
theorem dX6_act_63 : decode cX6_act 63 = .ok (.invokestatic 43, 3) := by decide +kernel
theorem dX6_act_66 : decode cX6_act 66 = .ok (.aload_n 0, 1) := by decide +kernel
theorem dX6_act_67 : decode cX6_act 67 = .ok (.iload_n 1, 1) := by decide +kernel
theorem dX6_act_68 : decode cX6_act 68 = .ok (.iload_n 2, 1) := by decide +kernel
theorem dX6_act_69 : decode cX6_act 69 = .ok (.invokevirtual 85, 3) := by decide +kernel
theorem dX6_act_72 : decode cX6_act 72 = .ok (.ifCond .ne 13, 3) := by decide +kernel
theorem dX6_act_75 : decode cX6_act 75 = .ok (.aload_n 0, 1) := by decide +kernel
theorem dX6_act_76 : decode cX6_act 76 = .ok (.getfield 34, 3) := by decide +kernel
theorem dX6_act_79 : decode cX6_act 79 = .ok (.iload_n 1, 1) := by decide +kernel
theorem dX6_act_80 : decode cX6_act 80 = .ok (.dup2, 1) := by decide +kernel
theorem dX6_act_81 : decode cX6_act 81 = .ok (.iaload, 1) := by decide +kernel
theorem dX6_act_82 : decode cX6_act 82 = .ok (.iconst 1, 1) := by decide +kernel
theorem dX6_act_83 : decode cX6_act 83 = .ok (.iadd, 1) := by decide +kernel
theorem dX6_act_84 : decode cX6_act 84 = .ok (.iastore, 1) := by decide +kernel
theorem dX6_act_85 : decode cX6_act 85 = .ok (.return_, 1) := by decide +kernel
theorem dX6_patrol_0 : decode cX6_patrol 0 = .ok (.aload_n 0, 1) := by decide +kernel
theorem dX6_patrol_1 : decode cX6_patrol 1 = .ok (.getfield 37, 3) := by decide +kernel
theorem dX6_patrol_4 : decode cX6_patrol 4 = .ok (.iload_n 1, 1) := by decide +kernel
theorem dX6_patrol_5 : decode cX6_patrol 5 = .ok (.iaload, 1) := by decide +kernel
theorem dX6_patrol_6 : decode cX6_patrol 6 = .ok (.aload_n 0, 1) := by decide +kernel
theorem dX6_patrol_7 : decode cX6_patrol 7 = .ok (.getfield 3, 3) := by decide +kernel
theorem dX6_patrol_10 : decode cX6_patrol 10 = .ok (.getfield 88, 3) := by decide +kernel
theorem dX6_patrol_13 : decode cX6_patrol 13 = .ok (.bipush 12, 2) := by decide +kernel
theorem dX6_patrol_15 : decode cX6_patrol 15 = .ok (.iload_n 1, 1) := by decide +kernel
theorem dX6_patrol_16 : decode cX6_patrol 16 = .ok (.imul, 1) := by decide +kernel
theorem dX6_patrol_17 : decode cX6_patrol 17 = .ok (.aload_n 0, 1) := by decide +kernel
theorem dX6_patrol_18 : decode cX6_patrol 18 = .ok (.getfield 40, 3) := by decide +kernel
theorem dX6_patrol_21 : decode cX6_patrol 21 = .ok (.iload_n 1, 1) := by decide +kernel
theorem dX6_patrol_22 : decode cX6_patrol 22 = .ok (.iaload, 1) := by decide +kernel
theorem dX6_patrol_23 : decode cX6_patrol 23 = .ok (.iadd, 1) := by decide +kernel
theorem dX6_patrol_24 : decode cX6_patrol 24 = .ok (.iaload, 1) := by decide +kernel
theorem dX6_patrol_25 : decode cX6_patrol 25 = .ok (.invokestatic 70, 3) := by decide +kernel
theorem dX6_patrol_28 : decode cX6_patrol 28 = .ok (.istore_n 2, 1) := by decide +kernel
theorem dX6_patrol_29 : decode cX6_patrol 29 = .ok (.aload_n 0, 1) := by decide +kernel
theorem dX6_patrol_30 : decode cX6_patrol 30 = .ok (.iload_n 2, 1) := by decide +kernel
theorem dX6_patrol_31 : decode cX6_patrol 31 = .ok (.invokevirtual 63, 3) := by decide +kernel
theorem dX6_patrol_34 : decode cX6_patrol 34 = .ok (.ifCond .eq 19, 3) := by decide +kernel
theorem dX6_patrol_37 : decode cX6_patrol 37 = .ok (.aload_n 0, 1) := by decide +kernel
theorem dX6_patrol_38 : decode cX6_patrol 38 = .ok (.getfield 15, 3) := by decide +kernel
theorem dX6_patrol_41 : decode cX6_patrol 41 = .ok (.iload_n 2, 1) := by decide +kernel
theorem dX6_patrol_42 : decode cX6_patrol 42 = .ok (.iaload, 1) := by decide +kernel
theorem dX6_patrol_43 : decode cX6_patrol 43 = .ok (.ifCond .ne 10, 3) := by decide +kernel
theorem dX6_patrol_46 : decode cX6_patrol 46 = .ok (.aload_n 0, 1) := by decide +kernel
theorem dX6_patrol_47 : decode cX6_patrol 47 = .ok (.getfield 37, 3) := by decide +kernel
theorem dX6_patrol_50 : decode cX6_patrol 50 = .ok (.iload_n 1, 1) := by decide +kernel
theorem dX6_patrol_51 : decode cX6_patrol 51 = .ok (.iload_n 2, 1) := by decide +kernel
theorem dX6_patrol_52 : decode cX6_patrol 52 = .ok (.iastore, 1) := by decide +kernel
theorem dX6_patrol_53 : decode cX6_patrol 53 = .ok (.aload_n 0, 1) := by decide +kernel
theorem dX6_patrol_54 : decode cX6_patrol 54 = .ok (.getfield 40, 3) := by decide +kernel
theorem dX6_patrol_57 : decode cX6_patrol 57 = .ok (.iload_n 1, 1) := by decide +kernel
theorem dX6_patrol_58 : decode cX6_patrol 58 = .ok (.aload_n 0, 1) := by decide +kernel
theorem dX6_patrol_59 : decode cX6_patrol 59 = .ok (.getfield 40, 3) := by decide +kernel
theorem dX6_patrol_62 : decode cX6_patrol 62 = .ok (.iload_n 1, 1) := by decide +kernel
theorem dX6_patrol_63 : decode cX6_patrol 63 = .ok (.iaload, 1) := by decide +kernel
theorem dX6_patrol_64 : decode cX6_patrol 64 = .ok (.iconst 1, 1) := by decide +kernel
theorem dX6_patrol_65 : decode cX6_patrol 65 = .ok (.iadd, 1) := by decide +kernel
theorem dX6_patrol_66 : decode cX6_patrol 66 = .ok (.aload_n 0, 1) := by decide +kernel
theorem dX6_patrol_67 : decode cX6_patrol 67 = .ok (.getfield 3, 3) := by decide +kernel
theorem dX6_patrol_70 : decode cX6_patrol 70 = .ok (.getfield 91, 3) := by decide +kernel
theorem dX6_patrol_73 : decode cX6_patrol 73 = .ok (.iload_n 1, 1) := by decide +kernel
theorem dX6_patrol_74 : decode cX6_patrol 74 = .ok (.iaload, 1) := by decide +kernel
theorem dX6_patrol_75 : decode cX6_patrol 75 = .ok (.irem, 1) := by decide +kernel
theorem dX6_patrol_76 : decode cX6_patrol 76 = .ok (.iastore, 1) := by decide +kernel
theorem dX6_patrol_77 : decode cX6_patrol 77 = .ok (.return_, 1) := by decide +kernel
theorem dX6_sees_0 : decode cX6_sees 0 = .ok (.aload_n 0, 1) := by decide +kernel
theorem dX6_sees_1 : decode cX6_sees 1 = .ok (.getfield 22, 3) := by decide +kernel
theorem dX6_sees_4 : decode cX6_sees 4 = .ok (.iload_n 2, 1) := by decide +kernel
theorem dX6_sees_5 : decode cX6_sees 5 = .ok (.iaload, 1) := by decide +kernel
theorem dX6_sees_6 : decode cX6_sees 6 = .ok (.ifCond .ne 5, 3) := by decide +kernel
theorem dX6_sees_9 : decode cX6_sees 9 = .ok (.iconst 0, 1) := by decide +kernel
theorem dX6_sees_10 : decode cX6_sees 10 = .ok (.ireturn, 1) := by decide +kernel
theorem dX6_sees_11 : decode cX6_sees 11 = .ok (.aload_n 0, 1) := by decide +kernel
theorem dX6_sees_12 : decode cX6_sees 12 = .ok (.getfield 19, 3) := by decide +kernel
theorem dX6_sees_15 : decode cX6_sees 15 = .ok (.iload_n 2, 1) := by decide +kernel
theorem dX6_sees_16 : decode cX6_sees 16 = .ok (.iaload, 1) := by decide +kernel
theorem dX6_sees_17 : decode cX6_sees 17 = .ok (.bipush 12, 2) := by decide +kernel
theorem dX6_sees_19 : decode cX6_sees 19 = .ok (.irem, 1) := by decide +kernel
theorem dX6_sees_20 : decode cX6_sees 20 = .ok (.aload_n 0, 1) := by decide +kernel
theorem dX6_sees_21 : decode cX6_sees 21 = .ok (.getfield 37, 3) := by decide +kernel
theorem dX6_sees_24 : decode cX6_sees 24 = .ok (.iload_n 1, 1) := by decide +kernel
theorem dX6_sees_25 : decode cX6_sees 25 = .ok (.iaload, 1) := by decide +kernel
theorem dX6_sees_26 : decode cX6_sees 26 = .ok (.bipush 12, 2) := by decide +kernel
theorem dX6_sees_28 : decode cX6_sees 28 = .ok (.irem, 1) := by decide +kernel
theorem dX6_sees_29 : decode cX6_sees 29 = .ok (.isub, 1) := by decide +kernel
theorem dX6_sees_30 : decode cX6_sees 30 = .ok (.istore_n 3, 1) := by decide +kernel
theorem dX6_sees_31 : decode cX6_sees 31 = .ok (.aload_n 0, 1) := by decide +kernel
theorem dX6_sees_32 : decode cX6_sees 32 = .ok (.getfield 19, 3) := by decide +kernel
theorem dX6_sees_35 : decode cX6_sees 35 = .ok (.iload_n 2, 1) := by decide +kernel
theorem dX6_sees_36 : decode cX6_sees 36 = .ok (.iaload, 1) := by decide +kernel
theorem dX6_sees_37 : decode cX6_sees 37 = .ok (.bipush 12, 2) := by decide +kernel
theorem dX6_sees_39 : decode cX6_sees 39 = .ok (.idiv, 1) := by decide +kernel
theorem dX6_sees_40 : decode cX6_sees 40 = .ok (.aload_n 0, 1) := by decide +kernel
theorem dX6_sees_41 : decode cX6_sees 41 = .ok (.getfield 37, 3) := by decide +kernel
theorem dX6_sees_44 : decode cX6_sees 44 = .ok (.iload_n 1, 1) := by decide +kernel
theorem dX6_sees_45 : decode cX6_sees 45 = .ok (.iaload, 1) := by decide +kernel
theorem dX6_sees_46 : decode cX6_sees 46 = .ok (.bipush 12, 2) := by decide +kernel
theorem dX6_sees_48 : decode cX6_sees 48 = .ok (.idiv, 1) := by decide +kernel
theorem dX6_sees_49 : decode cX6_sees 49 = .ok (.isub, 1) := by decide +kernel
theorem dX6_sees_50 : decode cX6_sees 50 = .ok (.istore 4, 2) := by decide +kernel
theorem dX6_sees_52 : decode cX6_sees 52 = .ok (.iload_n 3, 1) := by decide +kernel
theorem dX6_sees_53 : decode cX6_sees 53 = .ok (.invokestatic 94, 3) := by decide +kernel
theorem dX6_sees_56 : decode cX6_sees 56 = .ok (.iload 4, 2) := by decide +kernel
theorem dX6_sees_58 : decode cX6_sees 58 = .ok (.invokestatic 94, 3) := by decide +kernel
theorem dX6_sees_61 : decode cX6_sees 61 = .ok (.iadd, 1) := by decide +kernel
theorem dX6_sees_62 : decode cX6_sees 62 = .ok (.istore 5, 2) := by decide +kernel
theorem dX6_sees_64 : decode cX6_sees 64 = .ok (.iload_n 3, 1) := by decide +kernel
theorem dX6_sees_65 : decode cX6_sees 65 = .ok (.ifCond .eq 8, 3) := by decide +kernel
theorem dX6_sees_68 : decode cX6_sees 68 = .ok (.iload 4, 2) := by decide +kernel
theorem dX6_sees_70 : decode cX6_sees 70 = .ok (.ifCond .ne 23, 3) := by decide +kernel
theorem dX6_sees_73 : decode cX6_sees 73 = .ok (.iload 5, 2) := by decide +kernel
theorem dX6_sees_75 : decode cX6_sees 75 = .ok (.aload_n 0, 1) := by decide +kernel
theorem dX6_sees_76 : decode cX6_sees 76 = .ok (.getfield 25, 3) := by decide +kernel
theorem dX6_sees_79 : decode cX6_sees 79 = .ok (.iload_n 2, 1) := by decide +kernel
theorem dX6_sees_80 : decode cX6_sees 80 = .ok (.iaload, 1) := by decide +kernel
theorem dX6_sees_81 : decode cX6_sees 81 = .ok (.iconst 1, 1) := by decide +kernel
theorem dX6_sees_82 : decode cX6_sees 82 = .ok (.if_icmp .ne 7, 3) := by decide +kernel
theorem dX6_sees_85 : decode cX6_sees 85 = .ok (.iconst 4, 1) := by decide +kernel
theorem dX6_sees_86 : decode cX6_sees 86 = .ok (.goto 4, 3) := by decide +kernel
theorem dX6_sees_89 : decode cX6_sees 89 = .ok (.iconst 1, 1) := by decide +kernel
theorem dX6_sees_90 : decode cX6_sees 90 = .ok (.if_icmp .le 5, 3) := by decide +kernel
theorem dX6_sees_93 : decode cX6_sees 93 = .ok (.iconst 0, 1) := by decide +kernel
theorem dX6_sees_94 : decode cX6_sees 94 = .ok (.ireturn, 1) := by decide +kernel
theorem dX6_sees_95 : decode cX6_sees 95 = .ok (.iload_n 3, 1) := by decide +kernel
theorem dX6_sees_96 : decode cX6_sees 96 = .ok (.invokestatic 100, 3) := by decide +kernel
theorem dX6_sees_99 : decode cX6_sees 99 = .ok (.bipush 12, 2) := by decide +kernel
theorem dX6_sees_101 : decode cX6_sees 101 = .ok (.iload 4, 2) := by decide +kernel
theorem dX6_sees_103 : decode cX6_sees 103 = .ok (.invokestatic 100, 3) := by decide +kernel
theorem dX6_sees_106 : decode cX6_sees 106 = .ok (.imul, 1) := by decide +kernel
theorem dX6_sees_107 : decode cX6_sees 107 = .ok (.iadd, 1) := by decide +kernel
theorem dX6_sees_108 : decode cX6_sees 108 = .ok (.istore 6, 2) := by decide +kernel
theorem dX6_sees_110 : decode cX6_sees 110 = .ok (.iconst 1, 1) := by decide +kernel
theorem dX6_sees_111 : decode cX6_sees 111 = .ok (.istore 7, 2) := by decide +kernel
theorem dX6_sees_113 : decode cX6_sees 113 = .ok (.iload 7, 2) := by decide +kernel
theorem dX6_sees_115 : decode cX6_sees 115 = .ok (.iload 5, 2) := by decide +kernel
theorem dX6_sees_117 : decode cX6_sees 117 = .ok (.if_icmp .ge 31, 3) := by decide +kernel
theorem dX6_sees_120 : decode cX6_sees 120 = .ok (.aload_n 0, 1) := by decide +kernel
theorem dX6_sees_121 : decode cX6_sees 121 = .ok (.getfield 15, 3) := by decide +kernel
theorem dX6_sees_124 : decode cX6_sees 124 = .ok (.aload_n 0, 1) := by decide +kernel
theorem dX6_sees_125 : decode cX6_sees 125 = .ok (.getfield 37, 3) := by decide +kernel
theorem dX6_sees_128 : decode cX6_sees 128 = .ok (.iload_n 1, 1) := by decide +kernel
theorem dX6_sees_129 : decode cX6_sees 129 = .ok (.iaload, 1) := by decide +kernel
theorem dX6_sees_130 : decode cX6_sees 130 = .ok (.iload 7, 2) := by decide +kernel
theorem dX6_sees_132 : decode cX6_sees 132 = .ok (.iload 6, 2) := by decide +kernel
theorem dX6_sees_134 : decode cX6_sees 134 = .ok (.imul, 1) := by decide +kernel
theorem dX6_sees_135 : decode cX6_sees 135 = .ok (.iadd, 1) := by decide +kernel
theorem dX6_sees_136 : decode cX6_sees 136 = .ok (.iaload, 1) := by decide +kernel
theorem dX6_sees_137 : decode cX6_sees 137 = .ok (.ifCond .eq 5, 3) := by decide +kernel
theorem dX6_sees_140 : decode cX6_sees 140 = .ok (.iconst 0, 1) := by decide +kernel
theorem dX6_sees_141 : decode cX6_sees 141 = .ok (.ireturn, 1) := by decide +kernel
theorem dX6_sees_142 : decode cX6_sees 142 = .ok (.iinc 7 1, 3) := by decide +kernel
theorem dX6_sees_145 : decode cX6_sees 145 = .ok (.goto (-32), 3) := by decide +kernel
theorem dX6_sees_148 : decode cX6_sees 148 = .ok (.iconst 1, 1) := by decide +kernel
theorem dX6_sees_149 : decode cX6_sees 149 = .ok (.ireturn, 1) := by decide +kernel
theorem dX6_seenBy_0 : decode cX6_seenBy 0 = .ok (.iconst 0, 1) := by decide +kernel
theorem dX6_seenBy_1 : decode cX6_seenBy 1 = .ok (.istore_n 2, 1) := by decide +kernel
theorem dX6_seenBy_2 : decode cX6_seenBy 2 = .ok (.iconst 0, 1) := by decide +kernel
theorem dX6_seenBy_3 : decode cX6_seenBy 3 = .ok (.istore_n 3, 1) := by decide +kernel
theorem dX6_seenBy_4 : decode cX6_seenBy 4 = .ok (.iload_n 3, 1) := by decide +kernel
theorem dX6_seenBy_5 : decode cX6_seenBy 5 = .ok (.aload_n 0, 1) := by decide +kernel
theorem dX6_seenBy_6 : decode cX6_seenBy 6 = .ok (.getfield 3, 3) := by decide +kernel
theorem dX6_seenBy_9 : decode cX6_seenBy 9 = .ok (.getfield 60, 3) := by decide +kernel
theorem dX6_seenBy_12 : decode cX6_seenBy 12 = .ok (.if_icmp .ge 26, 3) := by decide +kernel
theorem dX6_seenBy_15 : decode cX6_seenBy 15 = .ok (.iload_n 2, 1) := by decide +kernel
theorem dX6_seenBy_16 : decode cX6_seenBy 16 = .ok (.aload_n 0, 1) := by decide +kernel
theorem dX6_seenBy_17 : decode cX6_seenBy 17 = .ok (.iload_n 3, 1) := by decide +kernel
theorem dX6_seenBy_18 : decode cX6_seenBy 18 = .ok (.iload_n 1, 1) := by decide +kernel
theorem dX6_seenBy_19 : decode cX6_seenBy 19 = .ok (.invokevirtual 105, 3) := by decide +kernel
theorem dX6_seenBy_22 : decode cX6_seenBy 22 = .ok (.ifCond .eq 7, 3) := by decide +kernel
theorem dX6_seenBy_25 : decode cX6_seenBy 25 = .ok (.iconst 1, 1) := by decide +kernel
theorem dX6_seenBy_26 : decode cX6_seenBy 26 = .ok (.goto 4, 3) := by decide +kernel
theorem dX6_seenBy_29 : decode cX6_seenBy 29 = .ok (.iconst 0, 1) := by decide +kernel
theorem dX6_seenBy_30 : decode cX6_seenBy 30 = .ok (.iadd, 1) := by decide +kernel
theorem dX6_seenBy_31 : decode cX6_seenBy 31 = .ok (.istore_n 2, 1) := by decide +kernel
theorem dX6_seenBy_32 : decode cX6_seenBy 32 = .ok (.iinc 3 1, 3) := by decide +kernel
theorem dX6_seenBy_35 : decode cX6_seenBy 35 = .ok (.goto (-31), 3) := by decide +kernel
theorem dX6_seenBy_38 : decode cX6_seenBy 38 = .ok (.iload_n 2, 1) := by decide +kernel
theorem dX6_seenBy_39 : decode cX6_seenBy 39 = .ok (.ireturn, 1) := by decide +kernel
theorem dX6_pass_0 : decode cX6_pass 0 = .ok (.iconst 0, 1) := by decide +kernel
theorem dX6_pass_1 : decode cX6_pass 1 = .ok (.istore_n 1, 1) := by decide +kernel
theorem dX6_pass_2 : decode cX6_pass 2 = .ok (.iload_n 1, 1) := by decide +kernel
theorem dX6_pass_3 : decode cX6_pass 3 = .ok (.aload_n 0, 1) := by decide +kernel
theorem dX6_pass_4 : decode cX6_pass 4 = .ok (.getfield 3, 3) := by decide +kernel
theorem dX6_pass_7 : decode cX6_pass 7 = .ok (.getfield 57, 3) := by decide +kernel
theorem dX6_pass_10 : decode cX6_pass 10 = .ok (.if_icmp .ge 14, 3) := by decide +kernel
theorem dX6_pass_13 : decode cX6_pass 13 = .ok (.aload_n 0, 1) := by decide +kernel
theorem dX6_pass_14 : decode cX6_pass 14 = .ok (.iload_n 1, 1) := by decide +kernel
theorem dX6_pass_15 : decode cX6_pass 15 = .ok (.invokevirtual 108, 3) := by decide +kernel
theorem dX6_pass_18 : decode cX6_pass 18 = .ok (.iinc 1 1, 3) := by decide +kernel
theorem dX6_pass_21 : decode cX6_pass 21 = .ok (.goto (-19), 3) := by decide +kernel
theorem dX6_pass_24 : decode cX6_pass 24 = .ok (.iconst 0, 1) := by decide +kernel
theorem dX6_pass_25 : decode cX6_pass 25 = .ok (.istore_n 1, 1) := by decide +kernel
theorem dX6_pass_26 : decode cX6_pass 26 = .ok (.iload_n 1, 1) := by decide +kernel
theorem dX6_pass_27 : decode cX6_pass 27 = .ok (.aload_n 0, 1) := by decide +kernel
theorem dX6_pass_28 : decode cX6_pass 28 = .ok (.getfield 3, 3) := by decide +kernel
theorem dX6_pass_31 : decode cX6_pass 31 = .ok (.getfield 60, 3) := by decide +kernel
theorem dX6_pass_34 : decode cX6_pass 34 = .ok (.if_icmp .ge 14, 3) := by decide +kernel
theorem dX6_pass_37 : decode cX6_pass 37 = .ok (.aload_n 0, 1) := by decide +kernel
theorem dX6_pass_38 : decode cX6_pass 38 = .ok (.iload_n 1, 1) := by decide +kernel
theorem dX6_pass_39 : decode cX6_pass 39 = .ok (.invokevirtual 112, 3) := by decide +kernel
theorem dX6_pass_42 : decode cX6_pass 42 = .ok (.iinc 1 1, 3) := by decide +kernel
theorem dX6_pass_45 : decode cX6_pass 45 = .ok (.goto (-19), 3) := by decide +kernel
theorem dX6_pass_48 : decode cX6_pass 48 = .ok (.iconst 0, 1) := by decide +kernel
theorem dX6_pass_49 : decode cX6_pass 49 = .ok (.istore_n 1, 1) := by decide +kernel
theorem dX6_pass_50 : decode cX6_pass 50 = .ok (.iload_n 1, 1) := by decide +kernel
theorem dX6_pass_51 : decode cX6_pass 51 = .ok (.aload_n 0, 1) := by decide +kernel
theorem dX6_pass_52 : decode cX6_pass 52 = .ok (.getfield 3, 3) := by decide +kernel
theorem dX6_pass_55 : decode cX6_pass 55 = .ok (.getfield 57, 3) := by decide +kernel
theorem dX6_pass_58 : decode cX6_pass 58 = .ok (.if_icmp .ge 31, 3) := by decide +kernel
theorem dX6_pass_61 : decode cX6_pass 61 = .ok (.aload_n 0, 1) := by decide +kernel
theorem dX6_pass_62 : decode cX6_pass 62 = .ok (.getfield 22, 3) := by decide +kernel
theorem dX6_pass_65 : decode cX6_pass 65 = .ok (.iload_n 1, 1) := by decide +kernel
theorem dX6_pass_66 : decode cX6_pass 66 = .ok (.iconst 0, 1) := by decide +kernel
theorem dX6_pass_67 : decode cX6_pass 67 = .ok (.aload_n 0, 1) := by decide +kernel
theorem dX6_pass_68 : decode cX6_pass 68 = .ok (.getfield 22, 3) := by decide +kernel
theorem dX6_pass_71 : decode cX6_pass 71 = .ok (.iload_n 1, 1) := by decide +kernel
theorem dX6_pass_72 : decode cX6_pass 72 = .ok (.iaload, 1) := by decide +kernel
theorem dX6_pass_73 : decode cX6_pass 73 = .ok (.aload_n 0, 1) := by decide +kernel
theorem dX6_pass_74 : decode cX6_pass 74 = .ok (.iload_n 1, 1) := by decide +kernel
theorem dX6_pass_75 : decode cX6_pass 75 = .ok (.invokevirtual 115, 3) := by decide +kernel
theorem dX6_pass_78 : decode cX6_pass 78 = .ok (.isub, 1) := by decide +kernel
theorem dX6_pass_79 : decode cX6_pass 79 = .ok (.invokestatic 118, 3) := by decide +kernel
theorem dX6_pass_82 : decode cX6_pass 82 = .ok (.iastore, 1) := by decide +kernel
theorem dX6_pass_83 : decode cX6_pass 83 = .ok (.iinc 1 1, 3) := by decide +kernel
theorem dX6_pass_86 : decode cX6_pass 86 = .ok (.goto (-36), 3) := by decide +kernel
theorem dX6_pass_89 : decode cX6_pass 89 = .ok (.aload_n 0, 1) := by decide +kernel
theorem dX6_pass_90 : decode cX6_pass 90 = .ok (.dup, 1) := by decide +kernel
theorem dX6_pass_91 : decode cX6_pass 91 = .ok (.getfield 49, 3) := by decide +kernel
theorem dX6_pass_94 : decode cX6_pass 94 = .ok (.iconst 1, 1) := by decide +kernel
theorem dX6_pass_95 : decode cX6_pass 95 = .ok (.iadd, 1) := by decide +kernel
theorem dX6_pass_96 : decode cX6_pass 96 = .ok (.putfield 49, 3) := by decide +kernel
theorem dX6_pass_99 : decode cX6_pass 99 = .ok (.return_, 1) := by decide +kernel
theorem dX6_allPeople_0 : decode cX6_allPeople 0 = .ok (.iconst 0, 1) := by decide +kernel
theorem dX6_allPeople_1 : decode cX6_allPeople 1 = .ok (.istore_n 1, 1) := by decide +kernel
theorem dX6_allPeople_2 : decode cX6_allPeople 2 = .ok (.iconst 0, 1) := by decide +kernel
theorem dX6_allPeople_3 : decode cX6_allPeople 3 = .ok (.istore_n 2, 1) := by decide +kernel
theorem dX6_allPeople_4 : decode cX6_allPeople 4 = .ok (.iload_n 2, 1) := by decide +kernel
theorem dX6_allPeople_5 : decode cX6_allPeople 5 = .ok (.aload_n 0, 1) := by decide +kernel
theorem dX6_allPeople_6 : decode cX6_allPeople 6 = .ok (.getfield 3, 3) := by decide +kernel
theorem dX6_allPeople_9 : decode cX6_allPeople 9 = .ok (.getfield 57, 3) := by decide +kernel
theorem dX6_allPeople_12 : decode cX6_allPeople 12 = .ok (.if_icmp .ge 18, 3) := by decide +kernel
theorem dX6_allPeople_15 : decode cX6_allPeople 15 = .ok (.iload_n 1, 1) := by decide +kernel
theorem dX6_allPeople_16 : decode cX6_allPeople 16 = .ok (.aload_n 0, 1) := by decide +kernel
theorem dX6_allPeople_17 : decode cX6_allPeople 17 = .ok (.getfield 22, 3) := by decide +kernel
theorem dX6_allPeople_20 : decode cX6_allPeople 20 = .ok (.iload_n 2, 1) := by decide +kernel
theorem dX6_allPeople_21 : decode cX6_allPeople 21 = .ok (.iaload, 1) := by decide +kernel
theorem dX6_allPeople_22 : decode cX6_allPeople 22 = .ok (.iadd, 1) := by decide +kernel
theorem dX6_allPeople_23 : decode cX6_allPeople 23 = .ok (.istore_n 1, 1) := by decide +kernel
theorem dX6_allPeople_24 : decode cX6_allPeople 24 = .ok (.iinc 2 1, 3) := by decide +kernel
theorem dX6_allPeople_27 : decode cX6_allPeople 27 = .ok (.goto (-23), 3) := by decide +kernel
theorem dX6_allPeople_30 : decode cX6_allPeople 30 = .ok (.iload_n 1, 1) := by decide +kernel
theorem dX6_allPeople_31 : decode cX6_allPeople 31 = .ok (.ireturn, 1) := by decide +kernel
theorem dX6_barricades_0 : decode cX6_barricades 0 = .ok (.iconst 0, 1) := by decide +kernel
theorem dX6_barricades_1 : decode cX6_barricades 1 = .ok (.istore_n 1, 1) := by decide +kernel
theorem dX6_barricades_2 : decode cX6_barricades 2 = .ok (.aload_n 0, 1) := by decide +kernel
theorem dX6_barricades_3 : decode cX6_barricades 3 = .ok (.getfield 15, 3) := by decide +kernel
theorem dX6_barricades_6 : decode cX6_barricades 6 = .ok (.astore_n 2, 1) := by decide +kernel
theorem dX6_barricades_7 : decode cX6_barricades 7 = .ok (.aload_n 2, 1) := by decide +kernel
theorem dX6_barricades_8 : decode cX6_barricades 8 = .ok (.arraylength, 1) := by decide +kernel
theorem dX6_barricades_9 : decode cX6_barricades 9 = .ok (.istore_n 3, 1) := by decide +kernel
theorem dX6_barricades_10 : decode cX6_barricades 10 = .ok (.iconst 0, 1) := by decide +kernel
theorem dX6_barricades_11 : decode cX6_barricades 11 = .ok (.istore 4, 2) := by decide +kernel
theorem dX6_barricades_13 : decode cX6_barricades 13 = .ok (.iload 4, 2) := by decide +kernel
theorem dX6_barricades_15 : decode cX6_barricades 15 = .ok (.iload_n 3, 1) := by decide +kernel
theorem dX6_barricades_16 : decode cX6_barricades 16 = .ok (.if_icmp .ge 24, 3) := by decide +kernel
theorem dX6_barricades_19 : decode cX6_barricades 19 = .ok (.aload_n 2, 1) := by decide +kernel
theorem dX6_barricades_20 : decode cX6_barricades 20 = .ok (.iload 4, 2) := by decide +kernel
theorem dX6_barricades_22 : decode cX6_barricades 22 = .ok (.iaload, 1) := by decide +kernel
theorem dX6_barricades_23 : decode cX6_barricades 23 = .ok (.istore 5, 2) := by decide +kernel
theorem dX6_barricades_25 : decode cX6_barricades 25 = .ok (.iload_n 1, 1) := by decide +kernel
theorem dX6_barricades_26 : decode cX6_barricades 26 = .ok (.iconst 0, 1) := by decide +kernel
theorem dX6_barricades_27 : decode cX6_barricades 27 = .ok (.iload 5, 2) := by decide +kernel
theorem dX6_barricades_29 : decode cX6_barricades 29 = .ok (.invokestatic 118, 3) := by decide +kernel
theorem dX6_barricades_32 : decode cX6_barricades 32 = .ok (.iadd, 1) := by decide +kernel
theorem dX6_barricades_33 : decode cX6_barricades 33 = .ok (.istore_n 1, 1) := by decide +kernel
theorem dX6_barricades_34 : decode cX6_barricades 34 = .ok (.iinc 4 1, 3) := by decide +kernel
theorem dX6_barricades_37 : decode cX6_barricades 37 = .ok (.goto (-24), 3) := by decide +kernel
theorem dX6_barricades_40 : decode cX6_barricades 40 = .ok (.iload_n 1, 1) := by decide +kernel
theorem dX6_barricades_41 : decode cX6_barricades 41 = .ok (.ireturn, 1) := by decide +kernel
theorem dX6_shuts_0 : decode cX6_shuts 0 = .ok (.iconst 0, 1) := by decide +kernel
theorem dX6_shuts_1 : decode cX6_shuts 1 = .ok (.istore_n 1, 1) := by decide +kernel
theorem dX6_shuts_2 : decode cX6_shuts 2 = .ok (.iload_n 1, 1) := by decide +kernel
theorem dX6_shuts_3 : decode cX6_shuts 3 = .ok (.bipush 108, 2) := by decide +kernel
theorem dX6_shuts_5 : decode cX6_shuts 5 = .ok (.if_icmp .ge 35, 3) := by decide +kernel
theorem dX6_shuts_8 : decode cX6_shuts 8 = .ok (.aload_n 0, 1) := by decide +kernel
theorem dX6_shuts_9 : decode cX6_shuts 9 = .ok (.getfield 3, 3) := by decide +kernel
theorem dX6_shuts_12 : decode cX6_shuts 12 = .ok (.getfield 121, 3) := by decide +kernel
theorem dX6_shuts_15 : decode cX6_shuts 15 = .ok (.iload_n 1, 1) := by decide +kernel
theorem dX6_shuts_16 : decode cX6_shuts 16 = .ok (.iload_n 1, 1) := by decide +kernel
theorem dX6_shuts_17 : decode cX6_shuts 17 = .ok (.bipush 12, 2) := by decide +kernel
theorem dX6_shuts_19 : decode cX6_shuts 19 = .ok (.if_icmp .ge 11, 3) := by decide +kernel
theorem dX6_shuts_22 : decode cX6_shuts 22 = .ok (.aload_n 0, 1) := by decide +kernel
theorem dX6_shuts_23 : decode cX6_shuts 23 = .ok (.iload_n 1, 1) := by decide +kernel
theorem dX6_shuts_24 : decode cX6_shuts 24 = .ok (.invokevirtual 124, 3) := by decide +kernel
theorem dX6_shuts_27 : decode cX6_shuts 27 = .ok (.goto 6, 3) := by decide +kernel
theorem dX6_shuts_30 : decode cX6_shuts 30 = .ok (.sipush 9999, 3) := by decide +kernel
theorem dX6_shuts_33 : decode cX6_shuts 33 = .ok (.iastore, 1) := by decide +kernel
theorem dX6_shuts_34 : decode cX6_shuts 34 = .ok (.iinc 1 1, 3) := by decide +kernel
theorem dX6_shuts_37 : decode cX6_shuts 37 = .ok (.goto (-35), 3) := by decide +kernel
theorem dX6_shuts_40 : decode cX6_shuts 40 = .ok (.iconst 1, 1) := by decide +kernel
theorem dX6_shuts_41 : decode cX6_shuts 41 = .ok (.istore_n 1, 1) := by decide +kernel
theorem dX6_shuts_42 : decode cX6_shuts 42 = .ok (.iload_n 1, 1) := by decide +kernel
theorem dX6_shuts_43 : decode cX6_shuts 43 = .ok (.ifCond .eq 77, 3) := by decide +kernel
theorem dX6_shuts_46 : decode cX6_shuts 46 = .ok (.iconst 0, 1) := by decide +kernel
theorem dX6_shuts_47 : decode cX6_shuts 47 = .ok (.istore_n 1, 1) := by decide +kernel
theorem dX6_shuts_48 : decode cX6_shuts 48 = .ok (.iconst 0, 1) := by decide +kernel
theorem dX6_shuts_49 : decode cX6_shuts 49 = .ok (.istore_n 2, 1) := by decide +kernel
theorem dX6_shuts_50 : decode cX6_shuts 50 = .ok (.iload_n 2, 1) := by decide +kernel
theorem dX6_shuts_51 : decode cX6_shuts 51 = .ok (.bipush 108, 2) := by decide +kernel
theorem dX6_shuts_53 : decode cX6_shuts 53 = .ok (.if_icmp .ge 64, 3) := by decide +kernel
theorem dX6_shuts_56 : decode cX6_shuts 56 = .ok (.aload_n 0, 1) := by decide +kernel
theorem dX6_shuts_57 : decode cX6_shuts 57 = .ok (.getfield 3, 3) := by decide +kernel
theorem dX6_shuts_60 : decode cX6_shuts 60 = .ok (.getfield 121, 3) := by decide +kernel
theorem dX6_shuts_63 : decode cX6_shuts 63 = .ok (.iload_n 2, 1) := by decide +kernel
theorem dX6_shuts_64 : decode cX6_shuts 64 = .ok (.iaload, 1) := by decide +kernel
theorem dX6_shuts_65 : decode cX6_shuts 65 = .ok (.aload_n 0, 1) := by decide +kernel
theorem dX6_shuts_66 : decode cX6_shuts 66 = .ok (.iload_n 2, 1) := by decide +kernel
theorem dX6_shuts_67 : decode cX6_shuts 67 = .ok (.invokevirtual 127, 3) := by decide +kernel
theorem dX6_shuts_70 : decode cX6_shuts 70 = .ok (.aload_n 0, 1) := by decide +kernel
theorem dX6_shuts_71 : decode cX6_shuts 71 = .ok (.iload_n 2, 1) := by decide +kernel
theorem dX6_shuts_72 : decode cX6_shuts 72 = .ok (.invokevirtual 124, 3) := by decide +kernel
theorem dX6_shuts_75 : decode cX6_shuts 75 = .ok (.iadd, 1) := by decide +kernel
theorem dX6_shuts_76 : decode cX6_shuts 76 = .ok (.invokestatic 130, 3) := by decide +kernel
theorem dX6_shuts_79 : decode cX6_shuts 79 = .ok (.istore_n 3, 1) := by decide +kernel
theorem dX6_shuts_80 : decode cX6_shuts 80 = .ok (.iload_n 1, 1) := by decide +kernel
theorem dX6_shuts_81 : decode cX6_shuts 81 = .ok (.iload_n 3, 1) := by decide +kernel
theorem dX6_shuts_82 : decode cX6_shuts 82 = .ok (.aload_n 0, 1) := by decide +kernel
theorem dX6_shuts_83 : decode cX6_shuts 83 = .ok (.getfield 3, 3) := by decide +kernel
theorem dX6_shuts_86 : decode cX6_shuts 86 = .ok (.getfield 121, 3) := by decide +kernel
theorem dX6_shuts_89 : decode cX6_shuts 89 = .ok (.iload_n 2, 1) := by decide +kernel
theorem dX6_shuts_90 : decode cX6_shuts 90 = .ok (.iaload, 1) := by decide +kernel
theorem dX6_shuts_91 : decode cX6_shuts 91 = .ok (.if_icmp .ge 7, 3) := by decide +kernel
theorem dX6_shuts_94 : decode cX6_shuts 94 = .ok (.iconst 1, 1) := by decide +kernel
theorem dX6_shuts_95 : decode cX6_shuts 95 = .ok (.goto 4, 3) := by decide +kernel
theorem dX6_shuts_98 : decode cX6_shuts 98 = .ok (.iconst 0, 1) := by decide +kernel
theorem dX6_shuts_99 : decode cX6_shuts 99 = .ok (.ior, 1) := by decide +kernel
theorem dX6_shuts_100 : decode cX6_shuts 100 = .ok (.istore_n 1, 1) := by decide +kernel
theorem dX6_shuts_101 : decode cX6_shuts 101 = .ok (.aload_n 0, 1) := by decide +kernel
theorem dX6_shuts_102 : decode cX6_shuts 102 = .ok (.getfield 3, 3) := by decide +kernel
theorem dX6_shuts_105 : decode cX6_shuts 105 = .ok (.getfield 121, 3) := by decide +kernel
theorem dX6_shuts_108 : decode cX6_shuts 108 = .ok (.iload_n 2, 1) := by decide +kernel
theorem dX6_shuts_109 : decode cX6_shuts 109 = .ok (.iload_n 3, 1) := by decide +kernel
theorem dX6_shuts_110 : decode cX6_shuts 110 = .ok (.iastore, 1) := by decide +kernel
theorem dX6_shuts_111 : decode cX6_shuts 111 = .ok (.iinc 2 1, 3) := by decide +kernel
theorem dX6_shuts_114 : decode cX6_shuts 114 = .ok (.goto (-64), 3) := by decide +kernel
theorem dX6_shuts_117 : decode cX6_shuts 117 = .ok (.goto (-75), 3) := by decide +kernel
theorem dX6_shuts_120 : decode cX6_shuts 120 = .ok (.sipush 9999, 3) := by decide +kernel
theorem dX6_shuts_123 : decode cX6_shuts 123 = .ok (.istore_n 2, 1) := by decide +kernel
theorem dX6_shuts_124 : decode cX6_shuts 124 = .ok (.bipush 96, 2) := by decide +kernel
theorem dX6_shuts_126 : decode cX6_shuts 126 = .ok (.istore_n 3, 1) := by decide +kernel
theorem dX6_shuts_127 : decode cX6_shuts 127 = .ok (.iload_n 3, 1) := by decide +kernel
theorem dX6_shuts_128 : decode cX6_shuts 128 = .ok (.bipush 108, 2) := by decide +kernel
theorem dX6_shuts_130 : decode cX6_shuts 130 = .ok (.if_icmp .ge 23, 3) := by decide +kernel
theorem dX6_shuts_133 : decode cX6_shuts 133 = .ok (.iload_n 2, 1) := by decide +kernel
theorem dX6_shuts_134 : decode cX6_shuts 134 = .ok (.aload_n 0, 1) := by decide +kernel
theorem dX6_shuts_135 : decode cX6_shuts 135 = .ok (.getfield 3, 3) := by decide +kernel
theorem dX6_shuts_138 : decode cX6_shuts 138 = .ok (.getfield 121, 3) := by decide +kernel
theorem dX6_shuts_141 : decode cX6_shuts 141 = .ok (.iload_n 3, 1) := by decide +kernel
theorem dX6_shuts_142 : decode cX6_shuts 142 = .ok (.iaload, 1) := by decide +kernel
theorem dX6_shuts_143 : decode cX6_shuts 143 = .ok (.invokestatic 130, 3) := by decide +kernel
theorem dX6_shuts_146 : decode cX6_shuts 146 = .ok (.istore_n 2, 1) := by decide +kernel
theorem dX6_shuts_147 : decode cX6_shuts 147 = .ok (.iinc 3 1, 3) := by decide +kernel
theorem dX6_shuts_150 : decode cX6_shuts 150 = .ok (.goto (-23), 3) := by decide +kernel
theorem dX6_shuts_153 : decode cX6_shuts 153 = .ok (.iload_n 2, 1) := by decide +kernel
theorem dX6_shuts_154 : decode cX6_shuts 154 = .ok (.ireturn, 1) := by decide +kernel
theorem dX6_cost_0 : decode cX6_cost 0 = .ok (.aload_n 0, 1) := by decide +kernel
theorem dX6_cost_1 : decode cX6_cost 1 = .ok (.getfield 15, 3) := by decide +kernel
theorem dX6_cost_4 : decode cX6_cost 4 = .ok (.iload_n 1, 1) := by decide +kernel
theorem dX6_cost_5 : decode cX6_cost 5 = .ok (.iaload, 1) := by decide +kernel
theorem dX6_cost_6 : decode cX6_cost 6 = .ok (.ifCond .ne 7, 3) := by decide +kernel
theorem dX6_cost_9 : decode cX6_cost 9 = .ok (.iconst 1, 1) := by decide +kernel
theorem dX6_cost_10 : decode cX6_cost 10 = .ok (.goto 4, 3) := by decide +kernel
theorem dX6_cost_13 : decode cX6_cost 13 = .ok (.iconst 0, 1) := by decide +kernel
theorem dX6_cost_14 : decode cX6_cost 14 = .ok (.ireturn, 1) := by decide +kernel
theorem dX6_leastBeside_0 : decode cX6_leastBeside 0 = .ok (.iload_n 1, 1) := by decide +kernel
theorem dX6_leastBeside_1 : decode cX6_leastBeside 1 = .ok (.bipush 12, 2) := by decide +kernel
theorem dX6_leastBeside_3 : decode cX6_leastBeside 3 = .ok (.irem, 1) := by decide +kernel
theorem dX6_leastBeside_4 : decode cX6_leastBeside 4 = .ok (.istore_n 2, 1) := by decide +kernel
theorem dX6_leastBeside_5 : decode cX6_leastBeside 5 = .ok (.iload_n 1, 1) := by decide +kernel
theorem dX6_leastBeside_6 : decode cX6_leastBeside 6 = .ok (.bipush 12, 2) := by decide +kernel
theorem dX6_leastBeside_8 : decode cX6_leastBeside 8 = .ok (.idiv, 1) := by decide +kernel
theorem dX6_leastBeside_9 : decode cX6_leastBeside 9 = .ok (.istore_n 3, 1) := by decide +kernel
theorem dX6_leastBeside_10 : decode cX6_leastBeside 10 = .ok (.sipush 9999, 3) := by decide +kernel
theorem dX6_leastBeside_13 : decode cX6_leastBeside 13 = .ok (.istore 4, 2) := by decide +kernel
theorem dX6_leastBeside_15 : decode cX6_leastBeside 15 = .ok (.iconst 0, 1) := by decide +kernel
theorem dX6_leastBeside_16 : decode cX6_leastBeside 16 = .ok (.iload_n 2, 1) := by decide +kernel
theorem dX6_leastBeside_17 : decode cX6_leastBeside 17 = .ok (.iconst 1, 1) := by decide +kernel
theorem dX6_leastBeside_18 : decode cX6_leastBeside 18 = .ok (.isub, 1) := by decide +kernel
theorem dX6_leastBeside_19 : decode cX6_leastBeside 19 = .ok (.invokestatic 118, 3) := by decide +kernel
theorem dX6_leastBeside_22 : decode cX6_leastBeside 22 = .ok (.istore 5, 2) := by decide +kernel
theorem dX6_leastBeside_24 : decode cX6_leastBeside 24 = .ok (.iload 5, 2) := by decide +kernel
theorem dX6_leastBeside_26 : decode cX6_leastBeside 26 = .ok (.bipush 11, 2) := by decide +kernel
theorem dX6_leastBeside_28 : decode cX6_leastBeside 28 = .ok (.iload_n 2, 1) := by decide +kernel
theorem dX6_leastBeside_29 : decode cX6_leastBeside 29 = .ok (.iconst 1, 1) := by decide +kernel
theorem dX6_leastBeside_30 : decode cX6_leastBeside 30 = .ok (.iadd, 1) := by decide +kernel
theorem dX6_leastBeside_31 : decode cX6_leastBeside 31 = .ok (.invokestatic 130, 3) := by decide +kernel
theorem dX6_leastBeside_34 : decode cX6_leastBeside 34 = .ok (.if_icmp .gt 60, 3) := by decide +kernel
theorem dX6_leastBeside_37 : decode cX6_leastBeside 37 = .ok (.iconst 0, 1) := by decide +kernel
theorem dX6_leastBeside_38 : decode cX6_leastBeside 38 = .ok (.iload_n 3, 1) := by decide +kernel
theorem dX6_leastBeside_39 : decode cX6_leastBeside 39 = .ok (.iconst 1, 1) := by decide +kernel
theorem dX6_leastBeside_40 : decode cX6_leastBeside 40 = .ok (.isub, 1) := by decide +kernel
theorem dX6_leastBeside_41 : decode cX6_leastBeside 41 = .ok (.invokestatic 118, 3) := by decide +kernel
theorem dX6_leastBeside_44 : decode cX6_leastBeside 44 = .ok (.istore 6, 2) := by decide +kernel
theorem dX6_leastBeside_46 : decode cX6_leastBeside 46 = .ok (.iload 6, 2) := by decide +kernel
theorem dX6_leastBeside_48 : decode cX6_leastBeside 48 = .ok (.bipush 8, 2) := by decide +kernel
theorem dX6_leastBeside_50 : decode cX6_leastBeside 50 = .ok (.iload_n 3, 1) := by decide +kernel
theorem dX6_leastBeside_51 : decode cX6_leastBeside 51 = .ok (.iconst 1, 1) := by decide +kernel
theorem dX6_leastBeside_52 : decode cX6_leastBeside 52 = .ok (.iadd, 1) := by decide +kernel
theorem dX6_leastBeside_53 : decode cX6_leastBeside 53 = .ok (.invokestatic 130, 3) := by decide +kernel
theorem dX6_leastBeside_56 : decode cX6_leastBeside 56 = .ok (.if_icmp .gt 32, 3) := by decide +kernel
theorem dX6_leastBeside_59 : decode cX6_leastBeside 59 = .ok (.iload 4, 2) := by decide +kernel
theorem dX6_leastBeside_61 : decode cX6_leastBeside 61 = .ok (.aload_n 0, 1) := by decide +kernel
theorem dX6_leastBeside_62 : decode cX6_leastBeside 62 = .ok (.getfield 3, 3) := by decide +kernel
theorem dX6_leastBeside_65 : decode cX6_leastBeside 65 = .ok (.getfield 121, 3) := by decide +kernel
theorem dX6_leastBeside_68 : decode cX6_leastBeside 68 = .ok (.bipush 12, 2) := by decide +kernel
theorem dX6_leastBeside_70 : decode cX6_leastBeside 70 = .ok (.iload 6, 2) := by decide +kernel
theorem dX6_leastBeside_72 : decode cX6_leastBeside 72 = .ok (.imul, 1) := by decide +kernel
theorem dX6_leastBeside_73 : decode cX6_leastBeside 73 = .ok (.iload 5, 2) := by decide +kernel
theorem dX6_leastBeside_75 : decode cX6_leastBeside 75 = .ok (.iadd, 1) := by decide +kernel
theorem dX6_leastBeside_76 : decode cX6_leastBeside 76 = .ok (.iaload, 1) := by decide +kernel
theorem dX6_leastBeside_77 : decode cX6_leastBeside 77 = .ok (.invokestatic 130, 3) := by decide +kernel
theorem dX6_leastBeside_80 : decode cX6_leastBeside 80 = .ok (.istore 4, 2) := by decide +kernel
theorem dX6_leastBeside_82 : decode cX6_leastBeside 82 = .ok (.iinc 6 1, 3) := by decide +kernel
theorem dX6_leastBeside_85 : decode cX6_leastBeside 85 = .ok (.goto (-39), 3) := by decide +kernel
theorem dX6_leastBeside_88 : decode cX6_leastBeside 88 = .ok (.iinc 5 1, 3) := by decide +kernel
theorem dX6_leastBeside_91 : decode cX6_leastBeside 91 = .ok (.goto (-67), 3) := by decide +kernel
theorem dX6_leastBeside_94 : decode cX6_leastBeside 94 = .ok (.iload 4, 2) := by decide +kernel
theorem dX6_leastBeside_96 : decode cX6_leastBeside 96 = .ok (.ireturn, 1) := by decide +kernel
end
section
theorem dX7_init_0 : decode cX7_init 0 = .ok (.aload_n 0, 1) := by decide +kernel
theorem dX7_init_1 : decode cX7_init 1 = .ok (.invokespecial 3, 3) := by decide +kernel
theorem dX7_init_4 : decode cX7_init 4 = .ok (.aload_n 0, 1) := by decide +kernel
theorem dX7_init_5 : decode cX7_init 5 = .ok (.iconst 3, 1) := by decide +kernel
theorem dX7_init_6 : decode cX7_init 6 = .ok (.newarray .int, 2) := by decide +kernel
theorem dX7_init_8 : decode cX7_init 8 = .ok (.putfield 9, 3) := by decide +kernel
theorem dX7_init_11 : decode cX7_init 11 = .ok (.aload_n 0, 1) := by decide +kernel
theorem dX7_init_12 : decode cX7_init 12 = .ok (.bipush 36, 2) := by decide +kernel
theorem dX7_init_14 : decode cX7_init 14 = .ok (.newarray .int, 2) := by decide +kernel
theorem dX7_init_16 : decode cX7_init 16 = .ok (.putfield 13, 3) := by decide +kernel
theorem dX7_init_19 : decode cX7_init 19 = .ok (.aload_n 0, 1) := by decide +kernel
theorem dX7_init_20 : decode cX7_init 20 = .ok (.bipush 108, 2) := by decide +kernel
theorem dX7_init_22 : decode cX7_init 22 = .ok (.newarray .int, 2) := by decide +kernel
theorem dX7_init_24 : decode cX7_init 24 = .ok (.putfield 16, 3) := by decide +kernel
theorem dX7_init_27 : decode cX7_init 27 = .ok (.aload_n 0, 1) := by decide +kernel
theorem dX7_init_28 : decode cX7_init 28 = .ok (.bipush 108, 2) := by decide +kernel
theorem dX7_init_30 : decode cX7_init 30 = .ok (.newarray .int, 2) := by decide +kernel
theorem dX7_init_32 : decode cX7_init 32 = .ok (.putfield 19, 3) := by decide +kernel
theorem dX7_init_35 : decode cX7_init 35 = .ok (.aload_n 0, 1) := by decide +kernel
theorem dX7_init_36 : decode cX7_init 36 = .ok (.new 22, 3) := by decide +kernel
theorem dX7_init_39 : decode cX7_init 39 = .ok (.dup, 1) := by decide +kernel
theorem dX7_init_40 : decode cX7_init 40 = .ok (.aload_n 0, 1) := by decide +kernel
theorem dX7_init_41 : decode cX7_init 41 = .ok (.invokespecial 24, 3) := by decide +kernel
theorem dX7_init_44 : decode cX7_init 44 = .ok (.putfield 27, 3) := by decide +kernel
theorem dX7_init_47 : decode cX7_init 47 = .ok (.aload_n 0, 1) := by decide +kernel
theorem dX7_init_48 : decode cX7_init 48 = .ok (.new 22, 3) := by decide +kernel
theorem dX7_init_51 : decode cX7_init 51 = .ok (.dup, 1) := by decide +kernel
theorem dX7_init_52 : decode cX7_init 52 = .ok (.aload_n 0, 1) := by decide +kernel
theorem dX7_init_53 : decode cX7_init 53 = .ok (.invokespecial 24, 3) := by decide +kernel
theorem dX7_init_56 : decode cX7_init 56 = .ok (.putfield 31, 3) := by decide +kernel
theorem dX7_init_59 : decode cX7_init 59 = .ok (.return_, 1) := by decide +kernel
theorem dX7_thrown_0 : decode cX7_thrown 0 = .ok (.aload_n 0, 1) := by decide +kernel
theorem dX7_thrown_1 : decode cX7_thrown 1 = .ok (.getfield 34, 3) := by decide +kernel
theorem dX7_thrown_4 : decode cX7_thrown 4 = .ok (.ireturn, 1) := by decide +kernel
theorem dX7_no_0 : decode cX7_no 0 = .ok (.aload_n 0, 1) := by decide +kernel
theorem dX7_no_1 : decode cX7_no 1 = .ok (.iload_n 1, 1) := by decide +kernel
theorem dX7_no_2 : decode cX7_no 2 = .ok (.putfield 34, 3) := by decide +kernel
theorem dX7_no_5 : decode cX7_no 5 = .ok (.iconst 0, 1) := by decide +kernel
theorem dX7_no_6 : decode cX7_no 6 = .ok (.ireturn, 1) := by decide +kernel
theorem dX7_isIn_0 : decode cX7_isIn 0 = .ok (.iload_n 0, 1) := by decide +kernel
theorem dX7_isIn_1 : decode cX7_isIn 1 = .ok (.iload_n 1, 1) := by decide +kernel
theorem dX7_isIn_2 : decode cX7_isIn 2 = .ok (.if_icmp .lt 12, 3) := by decide +kernel
theorem dX7_isIn_5 : decode cX7_isIn 5 = .ok (.iload_n 0, 1) := by decide +kernel
theorem dX7_isIn_6 : decode cX7_isIn 6 = .ok (.iload_n 2, 1) := by decide +kernel
theorem dX7_isIn_7 : decode cX7_isIn 7 = .ok (.if_icmp .gt 7, 3) := by decide +kernel
theorem dX7_isIn_10 : decode cX7_isIn 10 = .ok (.iconst 1, 1) := by decide +kernel
theorem dX7_isIn_11 : decode cX7_isIn 11 = .ok (.goto 4, 3) := by decide +kernel
theorem dX7_isIn_14 : decode cX7_isIn 14 = .ok (.iconst 0, 1) := by decide +kernel
theorem dX7_isIn_15 : decode cX7_isIn 15 = .ok (.ireturn, 1) := by decide +kernel
theorem dX7_isCell_0 : decode cX7_isCell 0 = .ok (.iload_n 0, 1) := by decide +kernel
theorem dX7_isCell_1 : decode cX7_isCell 1 = .ok (.iconst 0, 1) := by decide +kernel
theorem dX7_isCell_2 : decode cX7_isCell 2 = .ok (.bipush 11, 2) := by decide +kernel
theorem dX7_isCell_4 : decode cX7_isCell 4 = .ok (.invokestatic 38, 3) := by decide +kernel
theorem dX7_isCell_7 : decode cX7_isCell 7 = .ok (.ifCond .eq 17, 3) := by decide +kernel
theorem dX7_isCell_10 : decode cX7_isCell 10 = .ok (.iload_n 1, 1) := by decide +kernel
theorem dX7_isCell_11 : decode cX7_isCell 11 = .ok (.iconst 0, 1) := by decide +kernel
theorem dX7_isCell_12 : decode cX7_isCell 12 = .ok (.bipush 8, 2) := by decide +kernel
theorem dX7_isCell_14 : decode cX7_isCell 14 = .ok (.invokestatic 38, 3) := by decide +kernel
theorem dX7_isCell_17 : decode cX7_isCell 17 = .ok (.ifCond .eq 7, 3) := by decide +kernel
theorem dX7_isCell_20 : decode cX7_isCell 20 = .ok (.iconst 1, 1) := by decide +kernel
theorem dX7_isCell_21 : decode cX7_isCell 21 = .ok (.goto 4, 3) := by decide +kernel
theorem dX7_isCell_24 : decode cX7_isCell 24 = .ok (.iconst 0, 1) := by decide +kernel
theorem dX7_isCell_25 : decode cX7_isCell 25 = .ok (.ireturn, 1) := by decide +kernel
theorem dX7_isCrowd_0 : decode cX7_isCrowd 0 = .ok (.iload_n 1, 1) := by decide +kernel
theorem dX7_isCrowd_1 : decode cX7_isCrowd 1 = .ok (.iconst 0, 1) := by decide +kernel
theorem dX7_isCrowd_2 : decode cX7_isCrowd 2 = .ok (.aload_n 0, 1) := by decide +kernel
theorem dX7_isCrowd_3 : decode cX7_isCrowd 3 = .ok (.getfield 42, 3) := by decide +kernel
theorem dX7_isCrowd_6 : decode cX7_isCrowd 6 = .ok (.iconst 1, 1) := by decide +kernel
theorem dX7_isCrowd_7 : decode cX7_isCrowd 7 = .ok (.isub, 1) := by decide +kernel
theorem dX7_isCrowd_8 : decode cX7_isCrowd 8 = .ok (.invokestatic 38, 3) := by decide +kernel
theorem dX7_isCrowd_11 : decode cX7_isCrowd 11 = .ok (.ireturn, 1) := by decide +kernel
theorem dX7_isPatrol_0 : decode cX7_isPatrol 0 = .ok (.iload_n 1, 1) := by decide +kernel
theorem dX7_isPatrol_1 : decode cX7_isPatrol 1 = .ok (.iconst 0, 1) := by decide +kernel
theorem dX7_isPatrol_2 : decode cX7_isPatrol 2 = .ok (.aload_n 0, 1) := by decide +kernel
theorem dX7_isPatrol_3 : decode cX7_isPatrol 3 = .ok (.getfield 45, 3) := by decide +kernel
theorem dX7_isPatrol_6 : decode cX7_isPatrol 6 = .ok (.iconst 1, 1) := by decide +kernel
theorem dX7_isPatrol_7 : decode cX7_isPatrol 7 = .ok (.isub, 1) := by decide +kernel
theorem dX7_isPatrol_8 : decode cX7_isPatrol 8 = .ok (.invokestatic 38, 3) := by decide +kernel
theorem dX7_isPatrol_11 : decode cX7_isPatrol 11 = .ok (.ireturn, 1) := by decide +kernel
theorem dX7_beside_0 : decode cX7_beside 0 = .ok (.iload_n 0, 1) := by decide +kernel
theorem dX7_beside_1 : decode cX7_beside 1 = .ok (.bipush 12, 2) := by decide +kernel
theorem dX7_beside_3 : decode cX7_beside 3 = .ok (.irem, 1) := by decide +kernel
theorem dX7_beside_4 : decode cX7_beside 4 = .ok (.getstatic 48, 3) := by decide +kernel
theorem dX7_beside_7 : decode cX7_beside 7 = .ok (.iload_n 1, 1) := by decide +kernel
theorem dX7_beside_8 : decode cX7_beside 8 = .ok (.iaload, 1) := by decide +kernel
theorem dX7_beside_9 : decode cX7_beside 9 = .ok (.iadd, 1) := by decide +kernel
theorem dX7_beside_10 : decode cX7_beside 10 = .ok (.istore_n 2, 1) := by decide +kernel
theorem dX7_beside_11 : decode cX7_beside 11 = .ok (.iload_n 0, 1) := by decide +kernel
theorem dX7_beside_12 : decode cX7_beside 12 = .ok (.bipush 12, 2) := by decide +kernel
theorem dX7_beside_14 : decode cX7_beside 14 = .ok (.idiv, 1) := by decide +kernel
theorem dX7_beside_15 : decode cX7_beside 15 = .ok (.getstatic 51, 3) := by decide +kernel
theorem dX7_beside_18 : decode cX7_beside 18 = .ok (.iload_n 1, 1) := by decide +kernel
theorem dX7_beside_19 : decode cX7_beside 19 = .ok (.iaload, 1) := by decide +kernel
theorem dX7_beside_20 : decode cX7_beside 20 = .ok (.iadd, 1) := by decide +kernel
theorem dX7_beside_21 : decode cX7_beside 21 = .ok (.istore_n 3, 1) := by decide +kernel
theorem dX7_beside_22 : decode cX7_beside 22 = .ok (.iload_n 2, 1) := by decide +kernel
theorem dX7_beside_23 : decode cX7_beside 23 = .ok (.iload_n 3, 1) := by decide +kernel
theorem dX7_beside_24 : decode cX7_beside 24 = .ok (.invokestatic 54, 3) := by decide +kernel
theorem dX7_beside_27 : decode cX7_beside 27 = .ok (.ifCond .eq 12, 3) := by decide +kernel
theorem dX7_beside_30 : decode cX7_beside 30 = .ok (.bipush 12, 2) := by decide +kernel
theorem dX7_beside_32 : decode cX7_beside 32 = .ok (.iload_n 3, 1) := by decide +kernel
theorem dX7_beside_33 : decode cX7_beside 33 = .ok (.imul, 1) := by decide +kernel
theorem dX7_beside_34 : decode cX7_beside 34 = .ok (.iload_n 2, 1) := by decide +kernel
theorem dX7_beside_35 : decode cX7_beside 35 = .ok (.iadd, 1) := by decide +kernel
theorem dX7_beside_36 : decode cX7_beside 36 = .ok (.goto 4, 3) := by decide +kernel
theorem dX7_beside_39 : decode cX7_beside 39 = .ok (.iconst (-1), 1) := by decide +kernel
theorem dX7_beside_40 : decode cX7_beside 40 = .ok (.ireturn, 1) := by decide +kernel
theorem dX7_house_0 : decode cX7_house 0 = .ok (.aload_n 0, 1) := by decide +kernel
theorem dX7_house_1 : decode cX7_house 1 = .ok (.iconst 0, 1) := by decide +kernel
theorem dX7_house_2 : decode cX7_house 2 = .ok (.putfield 34, 3) := by decide +kernel
theorem dX7_house_5 : decode cX7_house 5 = .ok (.iload_n 1, 1) := by decide +kernel
theorem dX7_house_6 : decode cX7_house 6 = .ok (.iload_n 2, 1) := by decide +kernel
theorem dX7_house_7 : decode cX7_house 7 = .ok (.invokestatic 54, 3) := by decide +kernel
theorem dX7_house_10 : decode cX7_house 10 = .ok (.ifCond .ne 17, 3) := by decide +kernel
theorem dX7_house_13 : decode cX7_house 13 = .ok (.aload_n 0, 1) := by decide +kernel
theorem dX7_house_14 : decode cX7_house 14 = .ok (.iconst 1, 1) := by decide +kernel
theorem dX7_house_15 : decode cX7_house 15 = .ok (.invokevirtual 58, 3) := by decide +kernel
theorem dX7_house_18 : decode cX7_house 18 = .ok (.ifCond .eq 7, 3) := by decide +kernel
theorem dX7_house_21 : decode cX7_house 21 = .ok (.iconst 1, 1) := by decide +kernel
theorem dX7_house_22 : decode cX7_house 22 = .ok (.goto 4, 3) := by decide +kernel
theorem dX7_house_25 : decode cX7_house 25 = .ok (.iconst 0, 1) := by decide +kernel
theorem dX7_house_26 : decode cX7_house 26 = .ok (.ireturn, 1) := by decide +kernel
theorem dX7_house_27 : decode cX7_house 27 = .ok (.bipush 12, 2) := by decide +kernel
theorem dX7_house_29 : decode cX7_house 29 = .ok (.iload_n 2, 1) := by decide +kernel
theorem dX7_house_30 : decode cX7_house 30 = .ok (.imul, 1) := by decide +kernel
theorem dX7_house_31 : decode cX7_house 31 = .ok (.iload_n 1, 1) := by decide +kernel
theorem dX7_house_32 : decode cX7_house 32 = .ok (.iadd, 1) := by decide +kernel
theorem dX7_house_33 : decode cX7_house 33 = .ok (.istore_n 3, 1) := by decide +kernel
theorem dX7_house_34 : decode cX7_house 34 = .ok (.aload_n 0, 1) := by decide +kernel
theorem dX7_house_35 : decode cX7_house 35 = .ok (.getfield 27, 3) := by decide +kernel
theorem dX7_house_38 : decode cX7_house 38 = .ok (.getfield 62, 3) := by decide +kernel
theorem dX7_house_41 : decode cX7_house 41 = .ok (.iload_n 3, 1) := by decide +kernel
theorem dX7_house_42 : decode cX7_house 42 = .ok (.iaload, 1) := by decide +kernel
theorem dX7_house_43 : decode cX7_house 43 = .ok (.ifCond .gt 14, 3) := by decide +kernel
theorem dX7_house_46 : decode cX7_house 46 = .ok (.aload_n 0, 1) := by decide +kernel
theorem dX7_house_47 : decode cX7_house 47 = .ok (.getfield 27, 3) := by decide +kernel
theorem dX7_house_50 : decode cX7_house 50 = .ok (.iload_n 3, 1) := by decide +kernel
theorem dX7_house_51 : decode cX7_house 51 = .ok (.invokevirtual 65, 3) := by decide +kernel
theorem dX7_house_54 : decode cX7_house 54 = .ok (.ifCond .eq 17, 3) := by decide +kernel
theorem dX7_house_57 : decode cX7_house 57 = .ok (.aload_n 0, 1) := by decide +kernel
theorem dX7_house_58 : decode cX7_house 58 = .ok (.iconst 2, 1) := by decide +kernel
theorem dX7_house_59 : decode cX7_house 59 = .ok (.invokevirtual 58, 3) := by decide +kernel
theorem dX7_house_62 : decode cX7_house 62 = .ok (.ifCond .eq 7, 3) := by decide +kernel
theorem dX7_house_65 : decode cX7_house 65 = .ok (.iconst 1, 1) := by decide +kernel
theorem dX7_house_66 : decode cX7_house 66 = .ok (.goto 4, 3) := by decide +kernel
theorem dX7_house_69 : decode cX7_house 69 = .ok (.iconst 0, 1) := by decide +kernel
theorem dX7_house_70 : decode cX7_house 70 = .ok (.ireturn, 1) := by decide +kernel
theorem dX7_house_71 : decode cX7_house 71 = .ok (.aload_n 0, 1) := by decide +kernel
theorem dX7_house_72 : decode cX7_house 72 = .ok (.getfield 27, 3) := by decide +kernel
theorem dX7_house_75 : decode cX7_house 75 = .ok (.getfield 62, 3) := by decide +kernel
theorem dX7_house_78 : decode cX7_house 78 = .ok (.iload_n 3, 1) := by decide +kernel
theorem dX7_house_79 : decode cX7_house 79 = .ok (.aload_n 0, 1) := by decide +kernel
theorem dX7_house_80 : decode cX7_house 80 = .ok (.getfield 27, 3) := by decide +kernel
theorem dX7_house_83 : decode cX7_house 83 = .ok (.getfield 62, 3) := by decide +kernel
theorem dX7_house_86 : decode cX7_house 86 = .ok (.iload_n 3, 1) := by decide +kernel
theorem dX7_house_87 : decode cX7_house 87 = .ok (.iaload, 1) := by decide +kernel
theorem dX7_house_88 : decode cX7_house 88 = .ok (.iconst (-1), 1) := by decide +kernel
theorem dX7_house_89 : decode cX7_house 89 = .ok (.if_icmp .ne 7, 3) := by decide +kernel
theorem dX7_house_92 : decode cX7_house 92 = .ok (.iconst 0, 1) := by decide +kernel
theorem dX7_house_93 : decode cX7_house 93 = .ok (.goto 4, 3) := by decide +kernel
theorem dX7_house_96 : decode cX7_house 96 = .ok (.iconst (-1), 1) := by decide +kernel
theorem dX7_house_97 : decode cX7_house 97 = .ok (.iastore, 1) := by decide +kernel
theorem dX7_house_98 : decode cX7_house 98 = .ok (.aload_n 0, 1) := by decide +kernel
theorem dX7_house_99 : decode cX7_house 99 = .ok (.getfield 27, 3) := by decide +kernel
theorem dX7_house_102 : decode cX7_house 102 = .ok (.getfield 62, 3) := by decide +kernel
theorem dX7_house_105 : decode cX7_house 105 = .ok (.iload_n 3, 1) := by decide +kernel
theorem dX7_house_106 : decode cX7_house 106 = .ok (.iaload, 1) := by decide +kernel
theorem dX7_house_107 : decode cX7_house 107 = .ok (.iconst (-1), 1) := by decide +kernel
theorem dX7_house_108 : decode cX7_house 108 = .ok (.if_icmp .ne 7, 3) := by decide +kernel
theorem dX7_house_111 : decode cX7_house 111 = .ok (.iconst 1, 1) := by decide +kernel
theorem dX7_house_112 : decode cX7_house 112 = .ok (.goto 4, 3) := by decide +kernel
theorem dX7_house_115 : decode cX7_house 115 = .ok (.iconst 0, 1) := by decide +kernel
theorem dX7_house_116 : decode cX7_house 116 = .ok (.ireturn, 1) := by decide +kernel
theorem dX7_block_0 : decode cX7_block 0 = .ok (.aload_n 0, 1) := by decide +kernel
theorem dX7_block_1 : decode cX7_block 1 = .ok (.iconst 0, 1) := by decide +kernel
theorem dX7_block_2 : decode cX7_block 2 = .ok (.putfield 34, 3) := by decide +kernel
theorem dX7_block_5 : decode cX7_block 5 = .ok (.iload_n 1, 1) := by decide +kernel
theorem dX7_block_6 : decode cX7_block 6 = .ok (.iload_n 2, 1) := by decide +kernel
theorem dX7_block_7 : decode cX7_block 7 = .ok (.invokestatic 54, 3) := by decide +kernel
theorem dX7_block_10 : decode cX7_block 10 = .ok (.ifCond .ne 9, 3) := by decide +kernel
theorem dX7_block_13 : decode cX7_block 13 = .ok (.aload_n 0, 1) := by decide +kernel
theorem dX7_block_14 : decode cX7_block 14 = .ok (.iconst 1, 1) := by decide +kernel
theorem dX7_block_15 : decode cX7_block 15 = .ok (.invokevirtual 58, 3) := by decide +kernel
theorem dX7_block_18 : decode cX7_block 18 = .ok (.ireturn, 1) := by decide +kernel
theorem dX7_block_19 : decode cX7_block 19 = .ok (.iload_n 3, 1) := by decide +kernel
theorem dX7_block_20 : decode cX7_block 20 = .ok (.iconst 0, 1) := by decide +kernel
theorem dX7_block_21 : decode cX7_block 21 = .ok (.iconst 3, 1) := by decide +kernel
theorem dX7_block_22 : decode cX7_block 22 = .ok (.invokestatic 38, 3) := by decide +kernel
theorem dX7_block_25 : decode cX7_block 25 = .ok (.ifCond .ne 9, 3) := by decide +kernel
theorem dX7_block_28 : decode cX7_block 28 = .ok (.aload_n 0, 1) := by decide +kernel
theorem dX7_block_29 : decode cX7_block 29 = .ok (.iconst 2, 1) := by decide +kernel
theorem dX7_block_30 : decode cX7_block 30 = .ok (.invokevirtual 58, 3) := by decide +kernel
theorem dX7_block_33 : decode cX7_block 33 = .ok (.ireturn, 1) := by decide +kernel
theorem dX7_block_34 : decode cX7_block 34 = .ok (.bipush 12, 2) := by decide +kernel
theorem dX7_block_36 : decode cX7_block 36 = .ok (.iload_n 2, 1) := by decide +kernel
theorem dX7_block_37 : decode cX7_block 37 = .ok (.imul, 1) := by decide +kernel
theorem dX7_block_38 : decode cX7_block 38 = .ok (.iload_n 1, 1) := by decide +kernel
theorem dX7_block_39 : decode cX7_block 39 = .ok (.iadd, 1) := by decide +kernel
theorem dX7_block_40 : decode cX7_block 40 = .ok (.istore 4, 2) := by decide +kernel
theorem dX7_block_42 : decode cX7_block 42 = .ok (.aload_n 0, 1) := by decide +kernel
theorem dX7_block_43 : decode cX7_block 43 = .ok (.getfield 27, 3) := by decide +kernel
theorem dX7_block_46 : decode cX7_block 46 = .ok (.getfield 62, 3) := by decide +kernel
theorem dX7_block_49 : decode cX7_block 49 = .ok (.iload 4, 2) := by decide +kernel
theorem dX7_block_51 : decode cX7_block 51 = .ok (.iaload, 1) := by decide +kernel
theorem dX7_block_52 : decode cX7_block 52 = .ok (.iconst (-1), 1) := by decide +kernel
theorem dX7_block_53 : decode cX7_block 53 = .ok (.if_icmp .eq 15, 3) := by decide +kernel
theorem dX7_block_56 : decode cX7_block 56 = .ok (.aload_n 0, 1) := by decide +kernel
theorem dX7_block_57 : decode cX7_block 57 = .ok (.getfield 27, 3) := by decide +kernel
theorem dX7_block_60 : decode cX7_block 60 = .ok (.iload 4, 2) := by decide +kernel
theorem dX7_block_62 : decode cX7_block 62 = .ok (.invokevirtual 65, 3) := by decide +kernel
theorem dX7_block_65 : decode cX7_block 65 = .ok (.ifCond .eq 9, 3) := by decide +kernel
theorem dX7_block_68 : decode cX7_block 68 = .ok (.aload_n 0, 1) := by decide +kernel
theorem dX7_block_69 : decode cX7_block 69 = .ok (.iconst 3, 1) := by decide +kernel
theorem dX7_block_70 : decode cX7_block 70 = .ok (.invokevirtual 58, 3) := by decide +kernel
theorem dX7_block_73 : decode cX7_block 73 = .ok (.ireturn, 1) := by decide +kernel
theorem dX7_block_74 : decode cX7_block 74 = .ok (.aload_n 0, 1) := by decide +kernel
theorem dX7_block_75 : decode cX7_block 75 = .ok (.getfield 27, 3) := by decide +kernel
theorem dX7_block_78 : decode cX7_block 78 = .ok (.getfield 62, 3) := by decide +kernel
theorem dX7_block_81 : decode cX7_block 81 = .ok (.iload 4, 2) := by decide +kernel
theorem dX7_block_83 : decode cX7_block 83 = .ok (.iaload, 1) := by decide +kernel
theorem dX7_block_84 : decode cX7_block 84 = .ok (.istore 5, 2) := by decide +kernel
theorem dX7_block_86 : decode cX7_block 86 = .ok (.aload_n 0, 1) := by decide +kernel
theorem dX7_block_87 : decode cX7_block 87 = .ok (.getfield 27, 3) := by decide +kernel
theorem dX7_block_90 : decode cX7_block 90 = .ok (.getfield 62, 3) := by decide +kernel
theorem dX7_block_93 : decode cX7_block 93 = .ok (.iload 4, 2) := by decide +kernel
theorem dX7_block_95 : decode cX7_block 95 = .ok (.iload_n 3, 1) := by decide +kernel
theorem dX7_block_96 : decode cX7_block 96 = .ok (.iastore, 1) := by decide +kernel
theorem dX7_block_97 : decode cX7_block 97 = .ok (.iload 5, 2) := by decide +kernel
theorem dX7_block_99 : decode cX7_block 99 = .ok (.ireturn, 1) := by decide +kernel
theorem dX7_cell_0 : decode cX7_cell 0 = .ok (.aload_n 0, 1) := by decide +kernel
theorem dX7_cell_1 : decode cX7_cell 1 = .ok (.iconst 0, 1) := by decide +kernel
theorem dX7_cell_2 : decode cX7_cell 2 = .ok (.putfield 34, 3) := by decide +kernel
theorem dX7_cell_5 : decode cX7_cell 5 = .ok (.iload_n 1, 1) := by decide +kernel
theorem dX7_cell_6 : decode cX7_cell 6 = .ok (.iload_n 2, 1) := by decide +kernel
theorem dX7_cell_7 : decode cX7_cell 7 = .ok (.invokestatic 54, 3) := by decide +kernel
theorem dX7_cell_10 : decode cX7_cell 10 = .ok (.ifCond .eq 20, 3) := by decide +kernel
theorem dX7_cell_13 : decode cX7_cell 13 = .ok (.aload_n 0, 1) := by decide +kernel
theorem dX7_cell_14 : decode cX7_cell 14 = .ok (.getfield 27, 3) := by decide +kernel
theorem dX7_cell_17 : decode cX7_cell 17 = .ok (.getfield 62, 3) := by decide +kernel
theorem dX7_cell_20 : decode cX7_cell 20 = .ok (.bipush 12, 2) := by decide +kernel
theorem dX7_cell_22 : decode cX7_cell 22 = .ok (.iload_n 2, 1) := by decide +kernel
theorem dX7_cell_23 : decode cX7_cell 23 = .ok (.imul, 1) := by decide +kernel
theorem dX7_cell_24 : decode cX7_cell 24 = .ok (.iload_n 1, 1) := by decide +kernel
theorem dX7_cell_25 : decode cX7_cell 25 = .ok (.iadd, 1) := by decide +kernel
theorem dX7_cell_26 : decode cX7_cell 26 = .ok (.iaload, 1) := by decide +kernel
theorem dX7_cell_27 : decode cX7_cell 27 = .ok (.goto 8, 3) := by decide +kernel
theorem dX7_cell_30 : decode cX7_cell 30 = .ok (.aload_n 0, 1) := by decide +kernel
theorem dX7_cell_31 : decode cX7_cell 31 = .ok (.iconst 1, 1) := by decide +kernel
theorem dX7_cell_32 : decode cX7_cell 32 = .ok (.invokevirtual 58, 3) := by decide +kernel
theorem dX7_cell_35 : decode cX7_cell 35 = .ok (.ireturn, 1) := by decide +kernel
theorem dX7_gather_0 : decode cX7_gather 0 = .ok (.aload_n 0, 1) := by decide +kernel
theorem dX7_gather_1 : decode cX7_gather 1 = .ok (.iconst 0, 1) := by decide +kernel
theorem dX7_gather_2 : decode cX7_gather 2 = .ok (.putfield 34, 3) := by decide +kernel
theorem dX7_gather_5 : decode cX7_gather 5 = .ok (.iload_n 1, 1) := by decide +kernel
theorem dX7_gather_6 : decode cX7_gather 6 = .ok (.iload_n 2, 1) := by decide +kernel
theorem dX7_gather_7 : decode cX7_gather 7 = .ok (.invokestatic 54, 3) := by decide +kernel
theorem dX7_gather_10 : decode cX7_gather 10 = .ok (.ifCond .ne 9, 3) := by decide +kernel
theorem dX7_gather_13 : decode cX7_gather 13 = .ok (.aload_n 0, 1) := by decide +kernel
theorem dX7_gather_14 : decode cX7_gather 14 = .ok (.iconst 1, 1) := by decide +kernel
theorem dX7_gather_15 : decode cX7_gather 15 = .ok (.invokevirtual 58, 3) := by decide +kernel
theorem dX7_gather_18 : decode cX7_gather 18 = .ok (.ireturn, 1) := by decide +kernel
theorem dX7_gather_19 : decode cX7_gather 19 = .ok (.iload_n 3, 1) := by decide +kernel
theorem dX7_gather_20 : decode cX7_gather 20 = .ok (.iconst 1, 1) := by decide +kernel
theorem dX7_gather_21 : decode cX7_gather 21 = .ok (.bipush 9, 2) := by decide +kernel
theorem dX7_gather_23 : decode cX7_gather 23 = .ok (.invokestatic 38, 3) := by decide +kernel
theorem dX7_gather_26 : decode cX7_gather 26 = .ok (.ifCond .ne 9, 3) := by decide +kernel
theorem dX7_gather_29 : decode cX7_gather 29 = .ok (.aload_n 0, 1) := by decide +kernel
theorem dX7_gather_30 : decode cX7_gather 30 = .ok (.iconst 2, 1) := by decide +kernel
theorem dX7_gather_31 : decode cX7_gather 31 = .ok (.invokevirtual 58, 3) := by decide +kernel
theorem dX7_gather_34 : decode cX7_gather 34 = .ok (.ireturn, 1) := by decide +kernel
theorem dX7_gather_35 : decode cX7_gather 35 = .ok (.aload_n 0, 1) := by decide +kernel
theorem dX7_gather_36 : decode cX7_gather 36 = .ok (.getfield 42, 3) := by decide +kernel
theorem dX7_gather_39 : decode cX7_gather 39 = .ok (.bipush 6, 2) := by decide +kernel
theorem dX7_gather_41 : decode cX7_gather 41 = .ok (.if_icmp .eq 20, 3) := by decide +kernel
theorem dX7_gather_44 : decode cX7_gather 44 = .ok (.aload_n 0, 1) := by decide +kernel
theorem dX7_gather_45 : decode cX7_gather 45 = .ok (.getfield 27, 3) := by decide +kernel
theorem dX7_gather_48 : decode cX7_gather 48 = .ok (.getfield 62, 3) := by decide +kernel
theorem dX7_gather_51 : decode cX7_gather 51 = .ok (.bipush 12, 2) := by decide +kernel
theorem dX7_gather_53 : decode cX7_gather 53 = .ok (.iload_n 2, 1) := by decide +kernel
theorem dX7_gather_54 : decode cX7_gather 54 = .ok (.imul, 1) := by decide +kernel
theorem dX7_gather_55 : decode cX7_gather 55 = .ok (.iload_n 1, 1) := by decide +kernel
theorem dX7_gather_56 : decode cX7_gather 56 = .ok (.iadd, 1) := by decide +kernel
theorem dX7_gather_57 : decode cX7_gather 57 = .ok (.iaload, 1) := by decide +kernel
theorem dX7_gather_58 : decode cX7_gather 58 = .ok (.ifCond .eq 9, 3) := by decide +kernel
theorem dX7_gather_61 : decode cX7_gather 61 = .ok (.aload_n 0, 1) := by decide +kernel
theorem dX7_gather_62 : decode cX7_gather 62 = .ok (.iconst 3, 1) := by decide +kernel
theorem dX7_gather_63 : decode cX7_gather 63 = .ok (.invokevirtual 58, 3) := by decide +kernel
theorem dX7_gather_66 : decode cX7_gather 66 = .ok (.ireturn, 1) := by decide +kernel
theorem dX7_gather_67 : decode cX7_gather 67 = .ok (.aload_n 0, 1) := by decide +kernel
theorem dX7_gather_68 : decode cX7_gather 68 = .ok (.getfield 27, 3) := by decide +kernel
theorem dX7_gather_71 : decode cX7_gather 71 = .ok (.getfield 69, 3) := by decide +kernel
theorem dX7_gather_74 : decode cX7_gather 74 = .ok (.aload_n 0, 1) := by decide +kernel
theorem dX7_gather_75 : decode cX7_gather 75 = .ok (.getfield 42, 3) := by decide +kernel
theorem dX7_gather_78 : decode cX7_gather 78 = .ok (.bipush 12, 2) := by decide +kernel
theorem dX7_gather_80 : decode cX7_gather 80 = .ok (.iload_n 2, 1) := by decide +kernel
theorem dX7_gather_81 : decode cX7_gather 81 = .ok (.imul, 1) := by decide +kernel
theorem dX7_gather_82 : decode cX7_gather 82 = .ok (.iload_n 1, 1) := by decide +kernel
theorem dX7_gather_83 : decode cX7_gather 83 = .ok (.iadd, 1) := by decide +kernel
theorem dX7_gather_84 : decode cX7_gather 84 = .ok (.iastore, 1) := by decide +kernel
theorem dX7_gather_85 : decode cX7_gather 85 = .ok (.aload_n 0, 1) := by decide +kernel
theorem dX7_gather_86 : decode cX7_gather 86 = .ok (.getfield 27, 3) := by decide +kernel
theorem dX7_gather_89 : decode cX7_gather 89 = .ok (.getfield 72, 3) := by decide +kernel
theorem dX7_gather_92 : decode cX7_gather 92 = .ok (.aload_n 0, 1) := by decide +kernel
theorem dX7_gather_93 : decode cX7_gather 93 = .ok (.getfield 42, 3) := by decide +kernel
theorem dX7_gather_96 : decode cX7_gather 96 = .ok (.iload_n 3, 1) := by decide +kernel
theorem dX7_gather_97 : decode cX7_gather 97 = .ok (.iastore, 1) := by decide +kernel
theorem dX7_gather_98 : decode cX7_gather 98 = .ok (.aload_n 0, 1) := by decide +kernel
theorem dX7_gather_99 : decode cX7_gather 99 = .ok (.getfield 27, 3) := by decide +kernel
theorem dX7_gather_102 : decode cX7_gather 102 = .ok (.getfield 75, 3) := by decide +kernel
theorem dX7_gather_105 : decode cX7_gather 105 = .ok (.aload_n 0, 1) := by decide +kernel
theorem dX7_gather_106 : decode cX7_gather 106 = .ok (.getfield 42, 3) := by decide +kernel
theorem dX7_gather_109 : decode cX7_gather 109 = .ok (.iconst 1, 1) := by decide +kernel
theorem dX7_gather_110 : decode cX7_gather 110 = .ok (.iastore, 1) := by decide +kernel
theorem dX7_gather_111 : decode cX7_gather 111 = .ok (.aload_n 0, 1) := by decide +kernel
theorem dX7_gather_112 : decode cX7_gather 112 = .ok (.dup, 1) := by decide +kernel
theorem dX7_gather_113 : decode cX7_gather 113 = .ok (.getfield 42, 3) := by decide +kernel
theorem dX7_gather_116 : decode cX7_gather 116 = .ok (.iconst 1, 1) := by decide +kernel
theorem dX7_gather_117 : decode cX7_gather 117 = .ok (.iadd, 1) := by decide +kernel
theorem dX7_gather_118 : decode cX7_gather 118 = .ok (.putfield 42, 3) := by decide +kernel
theorem dX7_gather_121 : decode cX7_gather 121 = .ok (.aload_n 0, 1) := by decide +kernel
theorem dX7_gather_122 : decode cX7_gather 122 = .ok (.getfield 42, 3) := by decide +kernel
theorem dX7_gather_125 : decode cX7_gather 125 = .ok (.iconst 1, 1) := by decide +kernel
theorem dX7_gather_126 : decode cX7_gather 126 = .ok (.isub, 1) := by decide +kernel
theorem dX7_gather_127 : decode cX7_gather 127 = .ok (.ireturn, 1) := by decide +kernel
theorem dX7_order_0 : decode cX7_order 0 = .ok (.aload_n 0, 1) := by decide +kernel
theorem dX7_order_1 : decode cX7_order 1 = .ok (.iconst 0, 1) := by decide +kernel
theorem dX7_order_2 : decode cX7_order 2 = .ok (.putfield 34, 3) := by decide +kernel
theorem dX7_order_5 : decode cX7_order 5 = .ok (.aload_n 0, 1) := by decide +kernel
theorem dX7_order_6 : decode cX7_order 6 = .ok (.iload_n 1, 1) := by decide +kernel
theorem dX7_order_7 : decode cX7_order 7 = .ok (.invokevirtual 78, 3) := by decide +kernel
theorem dX7_order_10 : decode cX7_order 10 = .ok (.ifCond .ne 9, 3) := by decide +kernel
theorem dX7_order_13 : decode cX7_order 13 = .ok (.aload_n 0, 1) := by decide +kernel
theorem dX7_order_14 : decode cX7_order 14 = .ok (.iconst 1, 1) := by decide +kernel
theorem dX7_order_15 : decode cX7_order 15 = .ok (.invokevirtual 58, 3) := by decide +kernel
theorem dX7_order_18 : decode cX7_order 18 = .ok (.ireturn, 1) := by decide +kernel
theorem dX7_order_19 : decode cX7_order 19 = .ok (.iload_n 2, 1) := by decide +kernel
theorem dX7_order_20 : decode cX7_order 20 = .ok (.iconst 0, 1) := by decide +kernel
theorem dX7_order_21 : decode cX7_order 21 = .ok (.bipush 11, 2) := by decide +kernel
theorem dX7_order_23 : decode cX7_order 23 = .ok (.invokestatic 38, 3) := by decide +kernel
theorem dX7_order_26 : decode cX7_order 26 = .ok (.ifCond .ne 9, 3) := by decide +kernel
theorem dX7_order_29 : decode cX7_order 29 = .ok (.aload_n 0, 1) := by decide +kernel
theorem dX7_order_30 : decode cX7_order 30 = .ok (.iconst 2, 1) := by decide +kernel
theorem dX7_order_31 : decode cX7_order 31 = .ok (.invokevirtual 58, 3) := by decide +kernel
theorem dX7_order_34 : decode cX7_order 34 = .ok (.ireturn, 1) := by decide +kernel
theorem dX7_order_35 : decode cX7_order 35 = .ok (.aload_n 0, 1) := by decide +kernel
theorem dX7_order_36 : decode cX7_order 36 = .ok (.getfield 27, 3) := by decide +kernel
theorem dX7_order_39 : decode cX7_order 39 = .ok (.getfield 72, 3) := by decide +kernel
theorem dX7_order_42 : decode cX7_order 42 = .ok (.iload_n 1, 1) := by decide +kernel
theorem dX7_order_43 : decode cX7_order 43 = .ok (.iaload, 1) := by decide +kernel
theorem dX7_order_44 : decode cX7_order 44 = .ok (.ifCond .eq 17, 3) := by decide +kernel
theorem dX7_order_47 : decode cX7_order 47 = .ok (.aload_n 0, 1) := by decide +kernel
theorem dX7_order_48 : decode cX7_order 48 = .ok (.getfield 27, 3) := by decide +kernel
theorem dX7_order_51 : decode cX7_order 51 = .ok (.getfield 81, 3) := by decide +kernel
theorem dX7_order_54 : decode cX7_order 54 = .ok (.iload_n 1, 1) := by decide +kernel
theorem dX7_order_55 : decode cX7_order 55 = .ok (.iaload, 1) := by decide +kernel
theorem dX7_order_56 : decode cX7_order 56 = .ok (.bipush 24, 2) := by decide +kernel
theorem dX7_order_58 : decode cX7_order 58 = .ok (.if_icmp .ne 9, 3) := by decide +kernel
theorem dX7_order_61 : decode cX7_order 61 = .ok (.aload_n 0, 1) := by decide +kernel
theorem dX7_order_62 : decode cX7_order 62 = .ok (.iconst 3, 1) := by decide +kernel
theorem dX7_order_63 : decode cX7_order 63 = .ok (.invokevirtual 58, 3) := by decide +kernel
theorem dX7_order_66 : decode cX7_order 66 = .ok (.ireturn, 1) := by decide +kernel
theorem dX7_order_67 : decode cX7_order 67 = .ok (.aload_n 0, 1) := by decide +kernel
theorem dX7_order_68 : decode cX7_order 68 = .ok (.getfield 27, 3) := by decide +kernel
theorem dX7_order_71 : decode cX7_order 71 = .ok (.getfield 84, 3) := by decide +kernel
theorem dX7_order_74 : decode cX7_order 74 = .ok (.bipush 24, 2) := by decide +kernel
theorem dX7_order_76 : decode cX7_order 76 = .ok (.iload_n 1, 1) := by decide +kernel
theorem dX7_order_77 : decode cX7_order 77 = .ok (.imul, 1) := by decide +kernel
theorem dX7_order_78 : decode cX7_order 78 = .ok (.aload_n 0, 1) := by decide +kernel
theorem dX7_order_79 : decode cX7_order 79 = .ok (.getfield 27, 3) := by decide +kernel
theorem dX7_order_82 : decode cX7_order 82 = .ok (.getfield 81, 3) := by decide +kernel
theorem dX7_order_85 : decode cX7_order 85 = .ok (.iload_n 1, 1) := by decide +kernel
theorem dX7_order_86 : decode cX7_order 86 = .ok (.iaload, 1) := by decide +kernel
theorem dX7_order_87 : decode cX7_order 87 = .ok (.iadd, 1) := by decide +kernel
theorem dX7_order_88 : decode cX7_order 88 = .ok (.iload_n 2, 1) := by decide +kernel
theorem dX7_order_89 : decode cX7_order 89 = .ok (.iastore, 1) := by decide +kernel
theorem dX7_order_90 : decode cX7_order 90 = .ok (.aload_n 0, 1) := by decide +kernel
theorem dX7_order_91 : decode cX7_order 91 = .ok (.getfield 27, 3) := by decide +kernel
theorem dX7_order_94 : decode cX7_order 94 = .ok (.getfield 81, 3) := by decide +kernel
theorem dX7_order_97 : decode cX7_order 97 = .ok (.iload_n 1, 1) := by decide +kernel
theorem dX7_order_98 : decode cX7_order 98 = .ok (.dup2, 1) := by decide +kernel
theorem dX7_order_99 : decode cX7_order 99 = .ok (.iaload, 1) := by decide +kernel
theorem dX7_order_100 : decode cX7_order 100 = .ok (.iconst 1, 1) := by decide +kernel
theorem dX7_order_101 : decode cX7_order 101 = .ok (.iadd, 1) := by decide +kernel
theorem dX7_order_102 : decode cX7_order 102 = .ok (.iastore, 1) := by decide +kernel
theorem dX7_order_103 : decode cX7_order 103 = .ok (.aload_n 0, 1) := by decide +kernel
theorem dX7_order_104 : decode cX7_order 104 = .ok (.getfield 27, 3) := by decide +kernel
theorem dX7_order_107 : decode cX7_order 107 = .ok (.getfield 81, 3) := by decide +kernel
theorem dX7_order_110 : decode cX7_order 110 = .ok (.iload_n 1, 1) := by decide +kernel
theorem dX7_order_111 : decode cX7_order 111 = .ok (.iaload, 1) := by decide +kernel
theorem dX7_order_112 : decode cX7_order 112 = .ok (.ireturn, 1) := by decide +kernel
theorem dX7_torch_0 : decode cX7_torch 0 = .ok (.aload_n 0, 1) := by decide +kernel
theorem dX7_torch_1 : decode cX7_torch 1 = .ok (.iconst 0, 1) := by decide +kernel
theorem dX7_torch_2 : decode cX7_torch 2 = .ok (.putfield 34, 3) := by decide +kernel
theorem dX7_torch_5 : decode cX7_torch 5 = .ok (.aload_n 0, 1) := by decide +kernel
theorem dX7_torch_6 : decode cX7_torch 6 = .ok (.iload_n 1, 1) := by decide +kernel
theorem dX7_torch_7 : decode cX7_torch 7 = .ok (.invokevirtual 78, 3) := by decide +kernel
theorem dX7_torch_10 : decode cX7_torch 10 = .ok (.ifCond .ne 17, 3) := by decide +kernel
theorem dX7_torch_13 : decode cX7_torch 13 = .ok (.aload_n 0, 1) := by decide +kernel
theorem dX7_torch_14 : decode cX7_torch 14 = .ok (.iconst 1, 1) := by decide +kernel
theorem dX7_torch_15 : decode cX7_torch 15 = .ok (.invokevirtual 58, 3) := by decide +kernel
theorem dX7_torch_18 : decode cX7_torch 18 = .ok (.ifCond .eq 7, 3) := by decide +kernel
theorem dX7_torch_21 : decode cX7_torch 21 = .ok (.iconst 1, 1) := by decide +kernel
theorem dX7_torch_22 : decode cX7_torch 22 = .ok (.goto 4, 3) := by decide +kernel
theorem dX7_torch_25 : decode cX7_torch 25 = .ok (.iconst 0, 1) := by decide +kernel
theorem dX7_torch_26 : decode cX7_torch 26 = .ok (.ireturn, 1) := by decide +kernel
theorem dX7_torch_27 : decode cX7_torch 27 = .ok (.aload_n 0, 1) := by decide +kernel
theorem dX7_torch_28 : decode cX7_torch 28 = .ok (.getfield 27, 3) := by decide +kernel
theorem dX7_torch_31 : decode cX7_torch 31 = .ok (.getfield 72, 3) := by decide +kernel
theorem dX7_torch_34 : decode cX7_torch 34 = .ok (.iload_n 1, 1) := by decide +kernel
theorem dX7_torch_35 : decode cX7_torch 35 = .ok (.iaload, 1) := by decide +kernel
theorem dX7_torch_36 : decode cX7_torch 36 = .ok (.ifCond .ne 17, 3) := by decide +kernel
theorem dX7_torch_39 : decode cX7_torch 39 = .ok (.aload_n 0, 1) := by decide +kernel
theorem dX7_torch_40 : decode cX7_torch 40 = .ok (.iconst 2, 1) := by decide +kernel
theorem dX7_torch_41 : decode cX7_torch 41 = .ok (.invokevirtual 58, 3) := by decide +kernel
theorem dX7_torch_44 : decode cX7_torch 44 = .ok (.ifCond .eq 7, 3) := by decide +kernel
theorem dX7_torch_47 : decode cX7_torch 47 = .ok (.iconst 1, 1) := by decide +kernel
theorem dX7_torch_48 : decode cX7_torch 48 = .ok (.goto 4, 3) := by decide +kernel
theorem dX7_torch_51 : decode cX7_torch 51 = .ok (.iconst 0, 1) := by decide +kernel
theorem dX7_torch_52 : decode cX7_torch 52 = .ok (.ireturn, 1) := by decide +kernel
theorem dX7_torch_53 : decode cX7_torch 53 = .ok (.aload_n 0, 1) := by decide +kernel
theorem dX7_torch_54 : decode cX7_torch 54 = .ok (.getfield 27, 3) := by decide +kernel
theorem dX7_torch_57 : decode cX7_torch 57 = .ok (.getfield 75, 3) := by decide +kernel
theorem dX7_torch_60 : decode cX7_torch 60 = .ok (.iload_n 1, 1) := by decide +kernel
theorem dX7_torch_61 : decode cX7_torch 61 = .ok (.iconst 1, 1) := by decide +kernel
theorem dX7_torch_62 : decode cX7_torch 62 = .ok (.aload_n 0, 1) := by decide +kernel
theorem dX7_torch_63 : decode cX7_torch 63 = .ok (.getfield 27, 3) := by decide +kernel
theorem dX7_torch_66 : decode cX7_torch 66 = .ok (.getfield 75, 3) := by decide +kernel
theorem dX7_torch_69 : decode cX7_torch 69 = .ok (.iload_n 1, 1) := by decide +kernel
theorem dX7_torch_70 : decode cX7_torch 70 = .ok (.iaload, 1) := by decide +kernel
theorem dX7_torch_71 : decode cX7_torch 71 = .ok (.isub, 1) := by decide +kernel
theorem dX7_torch_72 : decode cX7_torch 72 = .ok (.iastore, 1) := by decide +kernel
theorem dX7_torch_73 : decode cX7_torch 73 = .ok (.aload_n 0, 1) := by decide +kernel
theorem dX7_torch_74 : decode cX7_torch 74 = .ok (.getfield 27, 3) := by decide +kernel
theorem dX7_torch_77 : decode cX7_torch 77 = .ok (.getfield 75, 3) := by decide +kernel
theorem dX7_torch_80 : decode cX7_torch 80 = .ok (.iload_n 1, 1) := by decide +kernel
theorem dX7_torch_81 : decode cX7_torch 81 = .ok (.iaload, 1) := by decide +kernel
theorem dX7_torch_82 : decode cX7_torch 82 = .ok (.iconst 1, 1) := by decide +kernel
theorem dX7_torch_83 : decode cX7_torch 83 = .ok (.if_icmp .ne 7, 3) := by decide +kernel
theorem dX7_torch_86 : decode cX7_torch 86 = .ok (.iconst 1, 1) := by decide +kernel
theorem dX7_torch_87 : decode cX7_torch 87 = .ok (.goto 4, 3) := by decide +kernel
theorem dX7_torch_90 : decode cX7_torch 90 = .ok (.iconst 0, 1) := by decide +kernel
theorem dX7_torch_91 : decode cX7_torch 91 = .ok (.ireturn, 1) := by decide +kernel
theorem dX7_patrol_0 : decode cX7_patrol 0 = .ok (.aload_n 0, 1) := by decide +kernel
theorem dX7_patrol_1 : decode cX7_patrol 1 = .ok (.iconst 0, 1) := by decide +kernel
theorem dX7_patrol_2 : decode cX7_patrol 2 = .ok (.putfield 34, 3) := by decide +kernel
theorem dX7_patrol_5 : decode cX7_patrol 5 = .ok (.iload_n 1, 1) := by decide +kernel
theorem dX7_patrol_6 : decode cX7_patrol 6 = .ok (.iload_n 2, 1) := by decide +kernel
theorem dX7_patrol_7 : decode cX7_patrol 7 = .ok (.invokestatic 54, 3) := by decide +kernel
theorem dX7_patrol_10 : decode cX7_patrol 10 = .ok (.ifCond .ne 9, 3) := by decide +kernel
theorem dX7_patrol_13 : decode cX7_patrol 13 = .ok (.aload_n 0, 1) := by decide +kernel
theorem dX7_patrol_14 : decode cX7_patrol 14 = .ok (.iconst 1, 1) := by decide +kernel
theorem dX7_patrol_15 : decode cX7_patrol 15 = .ok (.invokevirtual 58, 3) := by decide +kernel
theorem dX7_patrol_18 : decode cX7_patrol 18 = .ok (.ireturn, 1) := by decide +kernel
theorem dX7_patrol_19 : decode cX7_patrol 19 = .ok (.iload_n 3, 1) := by decide +kernel
theorem dX7_patrol_20 : decode cX7_patrol 20 = .ok (.iconst 1, 1) := by decide +kernel
theorem dX7_patrol_21 : decode cX7_patrol 21 = .ok (.bipush 12, 2) := by decide +kernel
theorem dX7_patrol_23 : decode cX7_patrol 23 = .ok (.invokestatic 38, 3) := by decide +kernel
theorem dX7_patrol_26 : decode cX7_patrol 26 = .ok (.ifCond .eq 19, 3) := by decide +kernel
theorem dX7_patrol_29 : decode cX7_patrol 29 = .ok (.iload 4, 2) := by decide +kernel
theorem dX7_patrol_31 : decode cX7_patrol 31 = .ok (.iconst 0, 1) := by decide +kernel
theorem dX7_patrol_32 : decode cX7_patrol 32 = .ok (.iconst 1, 1) := by decide +kernel
theorem dX7_patrol_33 : decode cX7_patrol 33 = .ok (.iconst 2, 1) := by decide +kernel
theorem dX7_patrol_34 : decode cX7_patrol 34 = .ok (.iload_n 3, 1) := by decide +kernel
theorem dX7_patrol_35 : decode cX7_patrol 35 = .ok (.imul, 1) := by decide +kernel
theorem dX7_patrol_36 : decode cX7_patrol 36 = .ok (.ishl, 1) := by decide +kernel
theorem dX7_patrol_37 : decode cX7_patrol 37 = .ok (.iconst 1, 1) := by decide +kernel
theorem dX7_patrol_38 : decode cX7_patrol 38 = .ok (.isub, 1) := by decide +kernel
theorem dX7_patrol_39 : decode cX7_patrol 39 = .ok (.invokestatic 38, 3) := by decide +kernel
theorem dX7_patrol_42 : decode cX7_patrol 42 = .ok (.ifCond .ne 9, 3) := by decide +kernel
theorem dX7_patrol_45 : decode cX7_patrol 45 = .ok (.aload_n 0, 1) := by decide +kernel
theorem dX7_patrol_46 : decode cX7_patrol 46 = .ok (.iconst 2, 1) := by decide +kernel
theorem dX7_patrol_47 : decode cX7_patrol 47 = .ok (.invokevirtual 58, 3) := by decide +kernel
theorem dX7_patrol_50 : decode cX7_patrol 50 = .ok (.ireturn, 1) := by decide +kernel
theorem dX7_patrol_51 : decode cX7_patrol 51 = .ok (.aload_n 0, 1) := by decide +kernel
theorem dX7_patrol_52 : decode cX7_patrol 52 = .ok (.getfield 45, 3) := by decide +kernel
theorem dX7_patrol_55 : decode cX7_patrol 55 = .ok (.iconst 3, 1) := by decide +kernel
theorem dX7_patrol_56 : decode cX7_patrol 56 = .ok (.if_icmp .eq 20, 3) := by decide +kernel
theorem dX7_patrol_59 : decode cX7_patrol 59 = .ok (.aload_n 0, 1) := by decide +kernel
theorem dX7_patrol_60 : decode cX7_patrol 60 = .ok (.getfield 27, 3) := by decide +kernel
theorem dX7_patrol_63 : decode cX7_patrol 63 = .ok (.getfield 62, 3) := by decide +kernel
theorem dX7_patrol_66 : decode cX7_patrol 66 = .ok (.bipush 12, 2) := by decide +kernel
theorem dX7_patrol_68 : decode cX7_patrol 68 = .ok (.iload_n 2, 1) := by decide +kernel
theorem dX7_patrol_69 : decode cX7_patrol 69 = .ok (.imul, 1) := by decide +kernel
theorem dX7_patrol_70 : decode cX7_patrol 70 = .ok (.iload_n 1, 1) := by decide +kernel
theorem dX7_patrol_71 : decode cX7_patrol 71 = .ok (.iadd, 1) := by decide +kernel
theorem dX7_patrol_72 : decode cX7_patrol 72 = .ok (.iaload, 1) := by decide +kernel
theorem dX7_patrol_73 : decode cX7_patrol 73 = .ok (.ifCond .eq 9, 3) := by decide +kernel
theorem dX7_patrol_76 : decode cX7_patrol 76 = .ok (.aload_n 0, 1) := by decide +kernel
theorem dX7_patrol_77 : decode cX7_patrol 77 = .ok (.iconst 3, 1) := by decide +kernel
theorem dX7_patrol_78 : decode cX7_patrol 78 = .ok (.invokevirtual 58, 3) := by decide +kernel
theorem dX7_patrol_81 : decode cX7_patrol 81 = .ok (.ireturn, 1) := by decide +kernel
theorem dX7_patrol_82 : decode cX7_patrol 82 = .ok (.aload_n 0, 1) := by decide +kernel
theorem dX7_patrol_83 : decode cX7_patrol 83 = .ok (.getfield 27, 3) := by decide +kernel
theorem dX7_patrol_86 : decode cX7_patrol 86 = .ok (.getfield 87, 3) := by decide +kernel
theorem dX7_patrol_89 : decode cX7_patrol 89 = .ok (.aload_n 0, 1) := by decide +kernel
theorem dX7_patrol_90 : decode cX7_patrol 90 = .ok (.getfield 45, 3) := by decide +kernel
theorem dX7_patrol_93 : decode cX7_patrol 93 = .ok (.bipush 12, 2) := by decide +kernel
theorem dX7_patrol_95 : decode cX7_patrol 95 = .ok (.iload_n 2, 1) := by decide +kernel
theorem dX7_patrol_96 : decode cX7_patrol 96 = .ok (.imul, 1) := by decide +kernel
theorem dX7_patrol_97 : decode cX7_patrol 97 = .ok (.iload_n 1, 1) := by decide +kernel
theorem dX7_patrol_98 : decode cX7_patrol 98 = .ok (.iadd, 1) := by decide +kernel
theorem dX7_patrol_99 : decode cX7_patrol 99 = .ok (.iastore, 1) := by decide +kernel
theorem dX7_patrol_100 : decode cX7_patrol 100 = .ok (.aload_n 0, 1) := by decide +kernel
theorem dX7_patrol_101 : decode cX7_patrol 101 = .ok (.getfield 9, 3) := by decide +kernel
theorem dX7_patrol_104 : decode cX7_patrol 104 = .ok (.aload_n 0, 1) := by decide +kernel
theorem dX7_patrol_105 : decode cX7_patrol 105 = .ok (.getfield 45, 3) := by decide +kernel
theorem dX7_patrol_108 : decode cX7_patrol 108 = .ok (.iload_n 3, 1) := by decide +kernel
theorem dX7_patrol_109 : decode cX7_patrol 109 = .ok (.iastore, 1) := by decide +kernel
theorem dX7_patrol_110 : decode cX7_patrol 110 = .ok (.iconst 0, 1) := by decide +kernel
theorem dX7_patrol_111 : decode cX7_patrol 111 = .ok (.istore 5, 2) := by decide +kernel
theorem dX7_patrol_113 : decode cX7_patrol 113 = .ok (.iload 5, 2) := by decide +kernel
theorem dX7_patrol_115 : decode cX7_patrol 115 = .ok (.iload_n 3, 1) := by decide +kernel
theorem dX7_patrol_116 : decode cX7_patrol 116 = .ok (.if_icmp .ge 33, 3) := by decide +kernel
theorem dX7_patrol_119 : decode cX7_patrol 119 = .ok (.aload_n 0, 1) := by decide +kernel
theorem dX7_patrol_120 : decode cX7_patrol 120 = .ok (.getfield 13, 3) := by decide +kernel
theorem dX7_patrol_123 : decode cX7_patrol 123 = .ok (.bipush 12, 2) := by decide +kernel
theorem dX7_patrol_125 : decode cX7_patrol 125 = .ok (.aload_n 0, 1) := by decide +kernel
theorem dX7_patrol_126 : decode cX7_patrol 126 = .ok (.getfield 45, 3) := by decide +kernel
theorem dX7_patrol_129 : decode cX7_patrol 129 = .ok (.imul, 1) := by decide +kernel
theorem dX7_patrol_130 : decode cX7_patrol 130 = .ok (.iload 5, 2) := by decide +kernel
theorem dX7_patrol_132 : decode cX7_patrol 132 = .ok (.iadd, 1) := by decide +kernel
theorem dX7_patrol_133 : decode cX7_patrol 133 = .ok (.iload 4, 2) := by decide +kernel
theorem dX7_patrol_135 : decode cX7_patrol 135 = .ok (.iconst 2, 1) := by decide +kernel
theorem dX7_patrol_136 : decode cX7_patrol 136 = .ok (.iload 5, 2) := by decide +kernel
theorem dX7_patrol_138 : decode cX7_patrol 138 = .ok (.imul, 1) := by decide +kernel
theorem dX7_patrol_139 : decode cX7_patrol 139 = .ok (.ishr, 1) := by decide +kernel
theorem dX7_patrol_140 : decode cX7_patrol 140 = .ok (.iconst 3, 1) := by decide +kernel
theorem dX7_patrol_141 : decode cX7_patrol 141 = .ok (.iand, 1) := by decide +kernel
theorem dX7_patrol_142 : decode cX7_patrol 142 = .ok (.iastore, 1) := by decide +kernel
theorem dX7_patrol_143 : decode cX7_patrol 143 = .ok (.iinc 5 1, 3) := by decide +kernel
theorem dX7_patrol_146 : decode cX7_patrol 146 = .ok (.goto (-33), 3) := by decide +kernel
theorem dX7_patrol_149 : decode cX7_patrol 149 = .ok (.aload_n 0, 1) := by decide +kernel
theorem dX7_patrol_150 : decode cX7_patrol 150 = .ok (.dup, 1) := by decide +kernel
theorem dX7_patrol_151 : decode cX7_patrol 151 = .ok (.getfield 45, 3) := by decide +kernel
theorem dX7_patrol_154 : decode cX7_patrol 154 = .ok (.iconst 1, 1) := by decide +kernel
theorem dX7_patrol_155 : decode cX7_patrol 155 = .ok (.iadd, 1) := by decide +kernel
theorem dX7_patrol_156 : decode cX7_patrol 156 = .ok (.putfield 45, 3) := by decide +kernel
theorem dX7_patrol_159 : decode cX7_patrol 159 = .ok (.aload_n 0, 1) := by decide +kernel
theorem dX7_patrol_160 : decode cX7_patrol 160 = .ok (.getfield 45, 3) := by decide +kernel
theorem dX7_patrol_163 : decode cX7_patrol 163 = .ok (.iconst 1, 1) := by decide +kernel
theorem dX7_patrol_164 : decode cX7_patrol 164 = .ok (.isub, 1) := by decide +kernel
theorem dX7_patrol_165 : decode cX7_patrol 165 = .ok (.ireturn, 1) := by decide +kernel
theorem dX7_crowdTold_0 : decode cX7_crowdTold 0 = .ok (.iload_n 2, 1) := by decide +kernel
theorem dX7_crowdTold_1 : decode cX7_crowdTold 1 = .ok (.tableswitch 138 0 6 #[43, 56, 69, 79, 89, 99, 128], 43) := by decide +kernel
theorem dX7_crowdTold_44 : decode cX7_crowdTold 44 = .ok (.aload_n 0, 1) := by decide +kernel
theorem dX7_crowdTold_45 : decode cX7_crowdTold 45 = .ok (.getfield 27, 3) := by decide +kernel
theorem dX7_crowdTold_48 : decode cX7_crowdTold 48 = .ok (.getfield 69, 3) := by decide +kernel
theorem dX7_crowdTold_51 : decode cX7_crowdTold 51 = .ok (.iload_n 1, 1) := by decide +kernel
theorem dX7_crowdTold_52 : decode cX7_crowdTold 52 = .ok (.iaload, 1) := by decide +kernel
theorem dX7_crowdTold_53 : decode cX7_crowdTold 53 = .ok (.bipush 12, 2) := by decide +kernel
theorem dX7_crowdTold_55 : decode cX7_crowdTold 55 = .ok (.irem, 1) := by decide +kernel
theorem dX7_crowdTold_56 : decode cX7_crowdTold 56 = .ok (.ireturn, 1) := by decide +kernel
theorem dX7_crowdTold_57 : decode cX7_crowdTold 57 = .ok (.aload_n 0, 1) := by decide +kernel
theorem dX7_crowdTold_58 : decode cX7_crowdTold 58 = .ok (.getfield 27, 3) := by decide +kernel
theorem dX7_crowdTold_61 : decode cX7_crowdTold 61 = .ok (.getfield 69, 3) := by decide +kernel
theorem dX7_crowdTold_64 : decode cX7_crowdTold 64 = .ok (.iload_n 1, 1) := by decide +kernel
theorem dX7_crowdTold_65 : decode cX7_crowdTold 65 = .ok (.iaload, 1) := by decide +kernel
theorem dX7_crowdTold_66 : decode cX7_crowdTold 66 = .ok (.bipush 12, 2) := by decide +kernel
theorem dX7_crowdTold_68 : decode cX7_crowdTold 68 = .ok (.idiv, 1) := by decide +kernel
theorem dX7_crowdTold_69 : decode cX7_crowdTold 69 = .ok (.ireturn, 1) := by decide +kernel
theorem dX7_crowdTold_70 : decode cX7_crowdTold 70 = .ok (.aload_n 0, 1) := by decide +kernel
theorem dX7_crowdTold_71 : decode cX7_crowdTold 71 = .ok (.getfield 27, 3) := by decide +kernel
theorem dX7_crowdTold_74 : decode cX7_crowdTold 74 = .ok (.getfield 72, 3) := by decide +kernel
theorem dX7_crowdTold_77 : decode cX7_crowdTold 77 = .ok (.iload_n 1, 1) := by decide +kernel
theorem dX7_crowdTold_78 : decode cX7_crowdTold 78 = .ok (.iaload, 1) := by decide +kernel
theorem dX7_crowdTold_79 : decode cX7_crowdTold 79 = .ok (.ireturn, 1) := by decide +kernel
theorem dX7_crowdTold_80 : decode cX7_crowdTold 80 = .ok (.aload_n 0, 1) := by decide +kernel
theorem dX7_crowdTold_81 : decode cX7_crowdTold 81 = .ok (.getfield 27, 3) := by decide +kernel
theorem dX7_crowdTold_84 : decode cX7_crowdTold 84 = .ok (.getfield 75, 3) := by decide +kernel
theorem dX7_crowdTold_87 : decode cX7_crowdTold 87 = .ok (.iload_n 1, 1) := by decide +kernel
theorem dX7_crowdTold_88 : decode cX7_crowdTold 88 = .ok (.iaload, 1) := by decide +kernel
theorem dX7_crowdTold_89 : decode cX7_crowdTold 89 = .ok (.ireturn, 1) := by decide +kernel
theorem dX7_crowdTold_90 : decode cX7_crowdTold 90 = .ok (.aload_n 0, 1) := by decide +kernel
theorem dX7_crowdTold_91 : decode cX7_crowdTold 91 = .ok (.getfield 27, 3) := by decide +kernel
theorem dX7_crowdTold_94 : decode cX7_crowdTold 94 = .ok (.getfield 81, 3) := by decide +kernel
theorem dX7_crowdTold_97 : decode cX7_crowdTold 97 = .ok (.iload_n 1, 1) := by decide +kernel
theorem dX7_crowdTold_98 : decode cX7_crowdTold 98 = .ok (.iaload, 1) := by decide +kernel
theorem dX7_crowdTold_99 : decode cX7_crowdTold 99 = .ok (.ireturn, 1) := by decide +kernel
theorem dX7_crowdTold_100 : decode cX7_crowdTold 100 = .ok (.aload_n 0, 1) := by decide +kernel
theorem dX7_crowdTold_101 : decode cX7_crowdTold 101 = .ok (.getfield 27, 3) := by decide +kernel
theorem dX7_crowdTold_104 : decode cX7_crowdTold 104 = .ok (.getfield 81, 3) := by decide +kernel
theorem dX7_crowdTold_107 : decode cX7_crowdTold 107 = .ok (.iload_n 1, 1) := by decide +kernel
theorem dX7_crowdTold_108 : decode cX7_crowdTold 108 = .ok (.iaload, 1) := by decide +kernel
theorem dX7_crowdTold_109 : decode cX7_crowdTold 109 = .ok (.ifCond .ne 7, 3) := by decide +kernel
theorem dX7_crowdTold_112 : decode cX7_crowdTold 112 = .ok (.iconst (-1), 1) := by decide +kernel
theorem dX7_crowdTold_113 : decode cX7_crowdTold 113 = .ok (.goto 15, 3) := by decide +kernel
theorem dX7_crowdTold_116 : decode cX7_crowdTold 116 = .ok (.aload_n 0, 1) := by decide +kernel
theorem dX7_crowdTold_117 : decode cX7_crowdTold 117 = .ok (.getfield 27, 3) := by decide +kernel
theorem dX7_crowdTold_120 : decode cX7_crowdTold 120 = .ok (.getfield 84, 3) := by decide +kernel
theorem dX7_crowdTold_123 : decode cX7_crowdTold 123 = .ok (.bipush 24, 2) := by decide +kernel
theorem dX7_crowdTold_125 : decode cX7_crowdTold 125 = .ok (.iload_n 1, 1) := by decide +kernel
theorem dX7_crowdTold_126 : decode cX7_crowdTold 126 = .ok (.imul, 1) := by decide +kernel
theorem dX7_crowdTold_127 : decode cX7_crowdTold 127 = .ok (.iaload, 1) := by decide +kernel
theorem dX7_crowdTold_128 : decode cX7_crowdTold 128 = .ok (.ireturn, 1) := by decide +kernel
theorem dX7_crowdTold_129 : decode cX7_crowdTold 129 = .ok (.aload_n 0, 1) := by decide +kernel
theorem dX7_crowdTold_130 : decode cX7_crowdTold 130 = .ok (.getfield 27, 3) := by decide +kernel
theorem dX7_crowdTold_133 : decode cX7_crowdTold 133 = .ok (.getfield 90, 3) := by decide +kernel
theorem dX7_crowdTold_136 : decode cX7_crowdTold 136 = .ok (.iload_n 1, 1) := by decide +kernel
theorem dX7_crowdTold_137 : decode cX7_crowdTold 137 = .ok (.iaload, 1) := by decide +kernel
theorem dX7_crowdTold_138 : decode cX7_crowdTold 138 = .ok (.ireturn, 1) := by decide +kernel
theorem dX7_crowdTold_139 : decode cX7_crowdTold 139 = .ok (.aload_n 0, 1) := by decide +kernel
theorem dX7_crowdTold_140 : decode cX7_crowdTold 140 = .ok (.getfield 27, 3) := by decide +kernel
theorem dX7_crowdTold_143 : decode cX7_crowdTold 143 = .ok (.iload_n 1, 1) := by decide +kernel
theorem dX7_crowdTold_144 : decode cX7_crowdTold 144 = .ok (.invokevirtual 93, 3) := by decide +kernel
theorem dX7_crowdTold_147 : decode cX7_crowdTold 147 = .ok (.ireturn, 1) := by decide +kernel
theorem dX7_crowd_0 : decode cX7_crowd 0 = .ok (.aload_n 0, 1) := by decide +kernel
theorem dX7_crowd_1 : decode cX7_crowd 1 = .ok (.iconst 0, 1) := by decide +kernel
theorem dX7_crowd_2 : decode cX7_crowd 2 = .ok (.putfield 34, 3) := by decide +kernel
theorem dX7_crowd_5 : decode cX7_crowd 5 = .ok (.aload_n 0, 1) := by decide +kernel
theorem dX7_crowd_6 : decode cX7_crowd 6 = .ok (.iload_n 1, 1) := by decide +kernel
theorem dX7_crowd_7 : decode cX7_crowd 7 = .ok (.invokevirtual 78, 3) := by decide +kernel
theorem dX7_crowd_10 : decode cX7_crowd 10 = .ok (.ifCond .eq 22, 3) := by decide +kernel
theorem dX7_crowd_13 : decode cX7_crowd 13 = .ok (.iload_n 2, 1) := by decide +kernel
theorem dX7_crowd_14 : decode cX7_crowd 14 = .ok (.iconst 0, 1) := by decide +kernel
theorem dX7_crowd_15 : decode cX7_crowd 15 = .ok (.bipush 7, 2) := by decide +kernel
theorem dX7_crowd_17 : decode cX7_crowd 17 = .ok (.invokestatic 38, 3) := by decide +kernel
theorem dX7_crowd_20 : decode cX7_crowd 20 = .ok (.ifCond .eq 12, 3) := by decide +kernel
theorem dX7_crowd_23 : decode cX7_crowd 23 = .ok (.aload_n 0, 1) := by decide +kernel
theorem dX7_crowd_24 : decode cX7_crowd 24 = .ok (.iload_n 1, 1) := by decide +kernel
theorem dX7_crowd_25 : decode cX7_crowd 25 = .ok (.iload_n 2, 1) := by decide +kernel
theorem dX7_crowd_26 : decode cX7_crowd 26 = .ok (.invokevirtual 96, 3) := by decide +kernel
theorem dX7_crowd_29 : decode cX7_crowd 29 = .ok (.goto 8, 3) := by decide +kernel
theorem dX7_crowd_32 : decode cX7_crowd 32 = .ok (.aload_n 0, 1) := by decide +kernel
theorem dX7_crowd_33 : decode cX7_crowd 33 = .ok (.iconst 1, 1) := by decide +kernel
theorem dX7_crowd_34 : decode cX7_crowd 34 = .ok (.invokevirtual 58, 3) := by decide +kernel
theorem dX7_crowd_37 : decode cX7_crowd 37 = .ok (.ireturn, 1) := by decide +kernel
theorem dX7_guardTold_0 : decode cX7_guardTold 0 = .ok (.iconst 0, 1) := by decide +kernel
theorem dX7_guardTold_1 : decode cX7_guardTold 1 = .ok (.istore_n 3, 1) := by decide +kernel
theorem dX7_guardTold_2 : decode cX7_guardTold 2 = .ok (.iconst 0, 1) := by decide +kernel
theorem dX7_guardTold_3 : decode cX7_guardTold 3 = .ok (.istore 4, 2) := by decide +kernel
theorem dX7_guardTold_5 : decode cX7_guardTold 5 = .ok (.iload 4, 2) := by decide +kernel
theorem dX7_guardTold_7 : decode cX7_guardTold 7 = .ok (.aload_n 0, 1) := by decide +kernel
theorem dX7_guardTold_8 : decode cX7_guardTold 8 = .ok (.getfield 42, 3) := by decide +kernel
theorem dX7_guardTold_11 : decode cX7_guardTold 11 = .ok (.if_icmp .ge 30, 3) := by decide +kernel
theorem dX7_guardTold_14 : decode cX7_guardTold 14 = .ok (.iload_n 3, 1) := by decide +kernel
theorem dX7_guardTold_15 : decode cX7_guardTold 15 = .ok (.aload_n 0, 1) := by decide +kernel
theorem dX7_guardTold_16 : decode cX7_guardTold 16 = .ok (.getfield 27, 3) := by decide +kernel
theorem dX7_guardTold_19 : decode cX7_guardTold 19 = .ok (.iload_n 1, 1) := by decide +kernel
theorem dX7_guardTold_20 : decode cX7_guardTold 20 = .ok (.iload 4, 2) := by decide +kernel
theorem dX7_guardTold_22 : decode cX7_guardTold 22 = .ok (.invokevirtual 100, 3) := by decide +kernel
theorem dX7_guardTold_25 : decode cX7_guardTold 25 = .ok (.ifCond .eq 7, 3) := by decide +kernel
theorem dX7_guardTold_28 : decode cX7_guardTold 28 = .ok (.iconst 1, 1) := by decide +kernel
theorem dX7_guardTold_29 : decode cX7_guardTold 29 = .ok (.goto 4, 3) := by decide +kernel
theorem dX7_guardTold_32 : decode cX7_guardTold 32 = .ok (.iconst 0, 1) := by decide +kernel
theorem dX7_guardTold_33 : decode cX7_guardTold 33 = .ok (.iadd, 1) := by decide +kernel
theorem dX7_guardTold_34 : decode cX7_guardTold 34 = .ok (.istore_n 3, 1) := by decide +kernel
theorem dX7_guardTold_35 : decode cX7_guardTold 35 = .ok (.iinc 4 1, 3) := by decide +kernel
theorem dX7_guardTold_38 : decode cX7_guardTold 38 = .ok (.goto (-33), 3) := by decide +kernel
theorem dX7_guardTold_41 : decode cX7_guardTold 41 = .ok (.iload_n 2, 1) := by decide +kernel
theorem dX7_guardTold_42 : decode cX7_guardTold 42 = .ok (.ifCond .ne 18, 3) := by decide +kernel
theorem dX7_guardTold_45 : decode cX7_guardTold 45 = .ok (.aload_n 0, 1) := by decide +kernel
theorem dX7_guardTold_46 : decode cX7_guardTold 46 = .ok (.getfield 27, 3) := by decide +kernel
theorem dX7_guardTold_49 : decode cX7_guardTold 49 = .ok (.getfield 87, 3) := by decide +kernel
theorem dX7_guardTold_52 : decode cX7_guardTold 52 = .ok (.iload_n 1, 1) := by decide +kernel
theorem dX7_guardTold_53 : decode cX7_guardTold 53 = .ok (.iaload, 1) := by decide +kernel
theorem dX7_guardTold_54 : decode cX7_guardTold 54 = .ok (.bipush 12, 2) := by decide +kernel
theorem dX7_guardTold_56 : decode cX7_guardTold 56 = .ok (.irem, 1) := by decide +kernel
theorem dX7_guardTold_57 : decode cX7_guardTold 57 = .ok (.goto 51, 3) := by decide +kernel
theorem dX7_guardTold_60 : decode cX7_guardTold 60 = .ok (.iload_n 2, 1) := by decide +kernel
theorem dX7_guardTold_61 : decode cX7_guardTold 61 = .ok (.iconst 1, 1) := by decide +kernel
theorem dX7_guardTold_62 : decode cX7_guardTold 62 = .ok (.if_icmp .ne 18, 3) := by decide +kernel
theorem dX7_guardTold_65 : decode cX7_guardTold 65 = .ok (.aload_n 0, 1) := by decide +kernel
theorem dX7_guardTold_66 : decode cX7_guardTold 66 = .ok (.getfield 27, 3) := by decide +kernel
theorem dX7_guardTold_69 : decode cX7_guardTold 69 = .ok (.getfield 87, 3) := by decide +kernel
theorem dX7_guardTold_72 : decode cX7_guardTold 72 = .ok (.iload_n 1, 1) := by decide +kernel
theorem dX7_guardTold_73 : decode cX7_guardTold 73 = .ok (.iaload, 1) := by decide +kernel
theorem dX7_guardTold_74 : decode cX7_guardTold 74 = .ok (.bipush 12, 2) := by decide +kernel
theorem dX7_guardTold_76 : decode cX7_guardTold 76 = .ok (.idiv, 1) := by decide +kernel
theorem dX7_guardTold_77 : decode cX7_guardTold 77 = .ok (.goto 31, 3) := by decide +kernel
theorem dX7_guardTold_80 : decode cX7_guardTold 80 = .ok (.iload_n 2, 1) := by decide +kernel
theorem dX7_guardTold_81 : decode cX7_guardTold 81 = .ok (.iconst 2, 1) := by decide +kernel
theorem dX7_guardTold_82 : decode cX7_guardTold 82 = .ok (.if_icmp .ne 25, 3) := by decide +kernel
theorem dX7_guardTold_85 : decode cX7_guardTold 85 = .ok (.aload_n 0, 1) := by decide +kernel
theorem dX7_guardTold_86 : decode cX7_guardTold 86 = .ok (.getfield 13, 3) := by decide +kernel
theorem dX7_guardTold_89 : decode cX7_guardTold 89 = .ok (.bipush 12, 2) := by decide +kernel
theorem dX7_guardTold_91 : decode cX7_guardTold 91 = .ok (.iload_n 1, 1) := by decide +kernel
theorem dX7_guardTold_92 : decode cX7_guardTold 92 = .ok (.imul, 1) := by decide +kernel
theorem dX7_guardTold_93 : decode cX7_guardTold 93 = .ok (.aload_n 0, 1) := by decide +kernel
theorem dX7_guardTold_94 : decode cX7_guardTold 94 = .ok (.getfield 27, 3) := by decide +kernel
theorem dX7_guardTold_97 : decode cX7_guardTold 97 = .ok (.getfield 103, 3) := by decide +kernel
theorem dX7_guardTold_100 : decode cX7_guardTold 100 = .ok (.iload_n 1, 1) := by decide +kernel
theorem dX7_guardTold_101 : decode cX7_guardTold 101 = .ok (.iaload, 1) := by decide +kernel
theorem dX7_guardTold_102 : decode cX7_guardTold 102 = .ok (.iadd, 1) := by decide +kernel
theorem dX7_guardTold_103 : decode cX7_guardTold 103 = .ok (.iaload, 1) := by decide +kernel
theorem dX7_guardTold_104 : decode cX7_guardTold 104 = .ok (.goto 4, 3) := by decide +kernel
theorem dX7_guardTold_107 : decode cX7_guardTold 107 = .ok (.iload_n 3, 1) := by decide +kernel
theorem dX7_guardTold_108 : decode cX7_guardTold 108 = .ok (.ireturn, 1) := by decide +kernel
theorem dX7_guard_0 : decode cX7_guard 0 = .ok (.aload_n 0, 1) := by decide +kernel
theorem dX7_guard_1 : decode cX7_guard 1 = .ok (.iconst 0, 1) := by decide +kernel
theorem dX7_guard_2 : decode cX7_guard 2 = .ok (.putfield 34, 3) := by decide +kernel
theorem dX7_guard_5 : decode cX7_guard 5 = .ok (.aload_n 0, 1) := by decide +kernel
theorem dX7_guard_6 : decode cX7_guard 6 = .ok (.iload_n 1, 1) := by decide +kernel
theorem dX7_guard_7 : decode cX7_guard 7 = .ok (.invokevirtual 106, 3) := by decide +kernel
theorem dX7_guard_10 : decode cX7_guard 10 = .ok (.ifCond .eq 21, 3) := by decide +kernel
theorem dX7_guard_13 : decode cX7_guard 13 = .ok (.iload_n 2, 1) := by decide +kernel
theorem dX7_guard_14 : decode cX7_guard 14 = .ok (.iconst 0, 1) := by decide +kernel
theorem dX7_guard_15 : decode cX7_guard 15 = .ok (.iconst 3, 1) := by decide +kernel
theorem dX7_guard_16 : decode cX7_guard 16 = .ok (.invokestatic 38, 3) := by decide +kernel
theorem dX7_guard_19 : decode cX7_guard 19 = .ok (.ifCond .eq 12, 3) := by decide +kernel
theorem dX7_guard_22 : decode cX7_guard 22 = .ok (.aload_n 0, 1) := by decide +kernel
theorem dX7_guard_23 : decode cX7_guard 23 = .ok (.iload_n 1, 1) := by decide +kernel
theorem dX7_guard_24 : decode cX7_guard 24 = .ok (.iload_n 2, 1) := by decide +kernel
theorem dX7_guard_25 : decode cX7_guard 25 = .ok (.invokevirtual 109, 3) := by decide +kernel
theorem dX7_guard_28 : decode cX7_guard 28 = .ok (.goto 8, 3) := by decide +kernel
theorem dX7_guard_31 : decode cX7_guard 31 = .ok (.aload_n 0, 1) := by decide +kernel
theorem dX7_guard_32 : decode cX7_guard 32 = .ok (.iconst 1, 1) := by decide +kernel
theorem dX7_guard_33 : decode cX7_guard 33 = .ok (.invokevirtual 58, 3) := by decide +kernel
theorem dX7_guard_36 : decode cX7_guard 36 = .ok (.ireturn, 1) := by decide +kernel
theorem dX7_sees_0 : decode cX7_sees 0 = .ok (.aload_n 0, 1) := by decide +kernel
theorem dX7_sees_1 : decode cX7_sees 1 = .ok (.iconst 0, 1) := by decide +kernel
theorem dX7_sees_2 : decode cX7_sees 2 = .ok (.putfield 34, 3) := by decide +kernel
theorem dX7_sees_5 : decode cX7_sees 5 = .ok (.aload_n 0, 1) := by decide +kernel
theorem dX7_sees_6 : decode cX7_sees 6 = .ok (.iload_n 1, 1) := by decide +kernel
theorem dX7_sees_7 : decode cX7_sees 7 = .ok (.invokevirtual 106, 3) := by decide +kernel
theorem dX7_sees_10 : decode cX7_sees 10 = .ok (.ifCond .eq 23, 3) := by decide +kernel
theorem dX7_sees_13 : decode cX7_sees 13 = .ok (.aload_n 0, 1) := by decide +kernel
theorem dX7_sees_14 : decode cX7_sees 14 = .ok (.iload_n 2, 1) := by decide +kernel
theorem dX7_sees_15 : decode cX7_sees 15 = .ok (.invokevirtual 78, 3) := by decide +kernel
theorem dX7_sees_18 : decode cX7_sees 18 = .ok (.ifCond .eq 15, 3) := by decide +kernel
theorem dX7_sees_21 : decode cX7_sees 21 = .ok (.aload_n 0, 1) := by decide +kernel
theorem dX7_sees_22 : decode cX7_sees 22 = .ok (.getfield 27, 3) := by decide +kernel
theorem dX7_sees_25 : decode cX7_sees 25 = .ok (.iload_n 1, 1) := by decide +kernel
theorem dX7_sees_26 : decode cX7_sees 26 = .ok (.iload_n 2, 1) := by decide +kernel
theorem dX7_sees_27 : decode cX7_sees 27 = .ok (.invokevirtual 100, 3) := by decide +kernel
theorem dX7_sees_30 : decode cX7_sees 30 = .ok (.goto 16, 3) := by decide +kernel
theorem dX7_sees_33 : decode cX7_sees 33 = .ok (.aload_n 0, 1) := by decide +kernel
theorem dX7_sees_34 : decode cX7_sees 34 = .ok (.iconst 1, 1) := by decide +kernel
theorem dX7_sees_35 : decode cX7_sees 35 = .ok (.invokevirtual 58, 3) := by decide +kernel
theorem dX7_sees_38 : decode cX7_sees 38 = .ok (.ifCond .eq 7, 3) := by decide +kernel
theorem dX7_sees_41 : decode cX7_sees 41 = .ok (.iconst 1, 1) := by decide +kernel
theorem dX7_sees_42 : decode cX7_sees 42 = .ok (.goto 4, 3) := by decide +kernel
theorem dX7_sees_45 : decode cX7_sees 45 = .ok (.iconst 0, 1) := by decide +kernel
theorem dX7_sees_46 : decode cX7_sees 46 = .ok (.ireturn, 1) := by decide +kernel
theorem dX7_left_0 : decode cX7_left 0 = .ok (.iconst 0, 1) := by decide +kernel
theorem dX7_left_1 : decode cX7_left 1 = .ok (.istore_n 1, 1) := by decide +kernel
theorem dX7_left_2 : decode cX7_left 2 = .ok (.iconst 0, 1) := by decide +kernel
theorem dX7_left_3 : decode cX7_left 3 = .ok (.istore_n 2, 1) := by decide +kernel
theorem dX7_left_4 : decode cX7_left 4 = .ok (.iload_n 2, 1) := by decide +kernel
theorem dX7_left_5 : decode cX7_left 5 = .ok (.aload_n 0, 1) := by decide +kernel
theorem dX7_left_6 : decode cX7_left 6 = .ok (.getfield 42, 3) := by decide +kernel
theorem dX7_left_9 : decode cX7_left 9 = .ok (.if_icmp .ge 29, 3) := by decide +kernel
theorem dX7_left_12 : decode cX7_left 12 = .ok (.iload_n 1, 1) := by decide +kernel
theorem dX7_left_13 : decode cX7_left 13 = .ok (.aload_n 0, 1) := by decide +kernel
theorem dX7_left_14 : decode cX7_left 14 = .ok (.getfield 27, 3) := by decide +kernel
theorem dX7_left_17 : decode cX7_left 17 = .ok (.getfield 72, 3) := by decide +kernel
theorem dX7_left_20 : decode cX7_left 20 = .ok (.iload_n 2, 1) := by decide +kernel
theorem dX7_left_21 : decode cX7_left 21 = .ok (.iaload, 1) := by decide +kernel
theorem dX7_left_22 : decode cX7_left 22 = .ok (.ifCond .le 7, 3) := by decide +kernel
theorem dX7_left_25 : decode cX7_left 25 = .ok (.iconst 1, 1) := by decide +kernel
theorem dX7_left_26 : decode cX7_left 26 = .ok (.goto 4, 3) := by decide +kernel
theorem dX7_left_29 : decode cX7_left 29 = .ok (.iconst 0, 1) := by decide +kernel
theorem dX7_left_30 : decode cX7_left 30 = .ok (.iadd, 1) := by decide +kernel
theorem dX7_left_31 : decode cX7_left 31 = .ok (.istore_n 1, 1) := by decide +kernel
theorem dX7_left_32 : decode cX7_left 32 = .ok (.iinc 2 1, 3) := by decide +kernel
theorem dX7_left_35 : decode cX7_left 35 = .ok (.goto (-31), 3) := by decide +kernel
theorem dX7_left_38 : decode cX7_left 38 = .ok (.iload_n 1, 1) := by decide +kernel
theorem dX7_left_39 : decode cX7_left 39 = .ok (.ireturn, 1) := by decide +kernel
theorem dX7_counted_0 : decode cX7_counted 0 = .ok (.iconst 0, 1) := by decide +kernel
theorem dX7_counted_1 : decode cX7_counted 1 = .ok (.istore_n 2, 1) := by decide +kernel
theorem dX7_counted_2 : decode cX7_counted 2 = .ok (.iconst 0, 1) := by decide +kernel
theorem dX7_counted_3 : decode cX7_counted 3 = .ok (.istore_n 3, 1) := by decide +kernel
theorem dX7_counted_4 : decode cX7_counted 4 = .ok (.iconst 0, 1) := by decide +kernel
theorem dX7_counted_5 : decode cX7_counted 5 = .ok (.istore 4, 2) := by decide +kernel
theorem dX7_counted_7 : decode cX7_counted 7 = .ok (.aload_n 0, 1) := by decide +kernel
theorem dX7_counted_8 : decode cX7_counted 8 = .ok (.getfield 27, 3) := by decide +kernel
theorem dX7_counted_11 : decode cX7_counted 11 = .ok (.getfield 62, 3) := by decide +kernel
theorem dX7_counted_14 : decode cX7_counted 14 = .ok (.astore 5, 2) := by decide +kernel
theorem dX7_counted_16 : decode cX7_counted 16 = .ok (.aload 5, 2) := by decide +kernel
theorem dX7_counted_18 : decode cX7_counted 18 = .ok (.arraylength, 1) := by decide +kernel
theorem dX7_counted_19 : decode cX7_counted 19 = .ok (.istore 6, 2) := by decide +kernel
theorem dX7_counted_21 : decode cX7_counted 21 = .ok (.iconst 0, 1) := by decide +kernel
theorem dX7_counted_22 : decode cX7_counted 22 = .ok (.istore 7, 2) := by decide +kernel
theorem dX7_counted_24 : decode cX7_counted 24 = .ok (.iload 7, 2) := by decide +kernel
theorem dX7_counted_26 : decode cX7_counted 26 = .ok (.iload 6, 2) := by decide +kernel
theorem dX7_counted_28 : decode cX7_counted 28 = .ok (.if_icmp .ge 43, 3) := by decide +kernel
theorem dX7_counted_31 : decode cX7_counted 31 = .ok (.aload 5, 2) := by decide +kernel
theorem dX7_counted_33 : decode cX7_counted 33 = .ok (.iload 7, 2) := by decide +kernel
theorem dX7_counted_35 : decode cX7_counted 35 = .ok (.iaload, 1) := by decide +kernel
theorem dX7_counted_36 : decode cX7_counted 36 = .ok (.istore 8, 2) := by decide +kernel
theorem dX7_counted_38 : decode cX7_counted 38 = .ok (.iload_n 2, 1) := by decide +kernel
theorem dX7_counted_39 : decode cX7_counted 39 = .ok (.iload 8, 2) := by decide +kernel
theorem dX7_counted_41 : decode cX7_counted 41 = .ok (.iconst (-1), 1) := by decide +kernel
theorem dX7_counted_42 : decode cX7_counted 42 = .ok (.if_icmp .ne 7, 3) := by decide +kernel
theorem dX7_counted_45 : decode cX7_counted 45 = .ok (.iconst 1, 1) := by decide +kernel
theorem dX7_counted_46 : decode cX7_counted 46 = .ok (.goto 4, 3) := by decide +kernel
theorem dX7_counted_49 : decode cX7_counted 49 = .ok (.iconst 0, 1) := by decide +kernel
theorem dX7_counted_50 : decode cX7_counted 50 = .ok (.iadd, 1) := by decide +kernel
theorem dX7_counted_51 : decode cX7_counted 51 = .ok (.istore_n 2, 1) := by decide +kernel
theorem dX7_counted_52 : decode cX7_counted 52 = .ok (.iload_n 3, 1) := by decide +kernel
theorem dX7_counted_53 : decode cX7_counted 53 = .ok (.iload 8, 2) := by decide +kernel
theorem dX7_counted_55 : decode cX7_counted 55 = .ok (.ifCond .ne 7, 3) := by decide +kernel
theorem dX7_counted_58 : decode cX7_counted 58 = .ok (.iconst 1, 1) := by decide +kernel
theorem dX7_counted_59 : decode cX7_counted 59 = .ok (.goto 4, 3) := by decide +kernel
theorem dX7_counted_62 : decode cX7_counted 62 = .ok (.iconst 0, 1) := by decide +kernel
theorem dX7_counted_63 : decode cX7_counted 63 = .ok (.iadd, 1) := by decide +kernel
theorem dX7_counted_64 : decode cX7_counted 64 = .ok (.istore_n 3, 1) := by decide +kernel
theorem dX7_counted_65 : decode cX7_counted 65 = .ok (.iinc 7 1, 3) := by decide +kernel
theorem dX7_counted_68 : decode cX7_counted 68 = .ok (.goto (-44), 3) := by decide +kernel
theorem dX7_counted_71 : decode cX7_counted 71 = .ok (.iconst 0, 1) := by decide +kernel
theorem dX7_counted_72 : decode cX7_counted 72 = .ok (.istore 5, 2) := by decide +kernel
theorem dX7_counted_74 : decode cX7_counted 74 = .ok (.iload 5, 2) := by decide +kernel
theorem dX7_counted_76 : decode cX7_counted 76 = .ok (.aload_n 0, 1) := by decide +kernel
theorem dX7_counted_77 : decode cX7_counted 77 = .ok (.getfield 42, 3) := by decide +kernel
theorem dX7_counted_80 : decode cX7_counted 80 = .ok (.if_icmp .ge 24, 3) := by decide +kernel
theorem dX7_counted_83 : decode cX7_counted 83 = .ok (.iload 4, 2) := by decide +kernel
theorem dX7_counted_85 : decode cX7_counted 85 = .ok (.aload_n 0, 1) := by decide +kernel
theorem dX7_counted_86 : decode cX7_counted 86 = .ok (.getfield 27, 3) := by decide +kernel
theorem dX7_counted_89 : decode cX7_counted 89 = .ok (.getfield 90, 3) := by decide +kernel
theorem dX7_counted_92 : decode cX7_counted 92 = .ok (.iload 5, 2) := by decide +kernel
theorem dX7_counted_94 : decode cX7_counted 94 = .ok (.iaload, 1) := by decide +kernel
theorem dX7_counted_95 : decode cX7_counted 95 = .ok (.iadd, 1) := by decide +kernel
theorem dX7_counted_96 : decode cX7_counted 96 = .ok (.istore 4, 2) := by decide +kernel
theorem dX7_counted_98 : decode cX7_counted 98 = .ok (.iinc 5 1, 3) := by decide +kernel
theorem dX7_counted_101 : decode cX7_counted 101 = .ok (.goto (-27), 3) := by decide +kernel
theorem dX7_counted_104 : decode cX7_counted 104 = .ok (.bipush 8, 2) := by decide +kernel
theorem dX7_counted_106 : decode cX7_counted 106 = .ok (.newarray .int, 2) := by decide +kernel
theorem dX7_counted_108 : decode cX7_counted 108 = .ok (.dup, 1) := by decide +kernel
theorem dX7_counted_109 : decode cX7_counted 109 = .ok (.iconst 0, 1) := by decide +kernel
theorem dX7_counted_110 : decode cX7_counted 110 = .ok (.aload_n 0, 1) := by decide +kernel
theorem dX7_counted_111 : decode cX7_counted 111 = .ok (.getfield 27, 3) := by decide +kernel
theorem dX7_counted_114 : decode cX7_counted 114 = .ok (.getfield 112, 3) := by decide +kernel
theorem dX7_counted_117 : decode cX7_counted 117 = .ok (.iastore, 1) := by decide +kernel
theorem dX7_counted_118 : decode cX7_counted 118 = .ok (.dup, 1) := by decide +kernel
theorem dX7_counted_119 : decode cX7_counted 119 = .ok (.iconst 1, 1) := by decide +kernel
theorem dX7_counted_120 : decode cX7_counted 120 = .ok (.iload_n 2, 1) := by decide +kernel
theorem dX7_counted_121 : decode cX7_counted 121 = .ok (.iastore, 1) := by decide +kernel
theorem dX7_counted_122 : decode cX7_counted 122 = .ok (.dup, 1) := by decide +kernel
theorem dX7_counted_123 : decode cX7_counted 123 = .ok (.iconst 2, 1) := by decide +kernel
theorem dX7_counted_124 : decode cX7_counted 124 = .ok (.aload_n 0, 1) := by decide +kernel
theorem dX7_counted_125 : decode cX7_counted 125 = .ok (.getfield 27, 3) := by decide +kernel
theorem dX7_counted_128 : decode cX7_counted 128 = .ok (.invokevirtual 115, 3) := by decide +kernel
theorem dX7_counted_131 : decode cX7_counted 131 = .ok (.iastore, 1) := by decide +kernel
theorem dX7_counted_132 : decode cX7_counted 132 = .ok (.dup, 1) := by decide +kernel
theorem dX7_counted_133 : decode cX7_counted 133 = .ok (.iconst 3, 1) := by decide +kernel
theorem dX7_counted_134 : decode cX7_counted 134 = .ok (.iload_n 3, 1) := by decide +kernel
theorem dX7_counted_135 : decode cX7_counted 135 = .ok (.iastore, 1) := by decide +kernel
theorem dX7_counted_136 : decode cX7_counted 136 = .ok (.dup, 1) := by decide +kernel
theorem dX7_counted_137 : decode cX7_counted 137 = .ok (.iconst 4, 1) := by decide +kernel
theorem dX7_counted_138 : decode cX7_counted 138 = .ok (.aload_n 0, 1) := by decide +kernel
theorem dX7_counted_139 : decode cX7_counted 139 = .ok (.invokevirtual 119, 3) := by decide +kernel
theorem dX7_counted_142 : decode cX7_counted 142 = .ok (.iastore, 1) := by decide +kernel
theorem dX7_counted_143 : decode cX7_counted 143 = .ok (.dup, 1) := by decide +kernel
theorem dX7_counted_144 : decode cX7_counted 144 = .ok (.iconst 5, 1) := by decide +kernel
theorem dX7_counted_145 : decode cX7_counted 145 = .ok (.aload_n 0, 1) := by decide +kernel
theorem dX7_counted_146 : decode cX7_counted 146 = .ok (.getfield 27, 3) := by decide +kernel
theorem dX7_counted_149 : decode cX7_counted 149 = .ok (.invokevirtual 122, 3) := by decide +kernel
theorem dX7_counted_152 : decode cX7_counted 152 = .ok (.iastore, 1) := by decide +kernel
theorem dX7_counted_153 : decode cX7_counted 153 = .ok (.dup, 1) := by decide +kernel
theorem dX7_counted_154 : decode cX7_counted 154 = .ok (.bipush 6, 2) := by decide +kernel
theorem dX7_counted_156 : decode cX7_counted 156 = .ok (.aload_n 0, 1) := by decide +kernel
theorem dX7_counted_157 : decode cX7_counted 157 = .ok (.getfield 45, 3) := by decide +kernel
theorem dX7_counted_160 : decode cX7_counted 160 = .ok (.iastore, 1) := by decide +kernel
theorem dX7_counted_161 : decode cX7_counted 161 = .ok (.dup, 1) := by decide +kernel
theorem dX7_counted_162 : decode cX7_counted 162 = .ok (.bipush 7, 2) := by decide +kernel
theorem dX7_counted_164 : decode cX7_counted 164 = .ok (.iload 4, 2) := by decide +kernel
theorem dX7_counted_166 : decode cX7_counted 166 = .ok (.iastore, 1) := by decide +kernel
theorem dX7_counted_167 : decode cX7_counted 167 = .ok (.astore 5, 2) := by decide +kernel
theorem dX7_counted_169 : decode cX7_counted 169 = .ok (.aload 5, 2) := by decide +kernel
theorem dX7_counted_171 : decode cX7_counted 171 = .ok (.iload_n 1, 1) := by decide +kernel
theorem dX7_counted_172 : decode cX7_counted 172 = .ok (.iaload, 1) := by decide +kernel
theorem dX7_counted_173 : decode cX7_counted 173 = .ok (.ireturn, 1) := by decide +kernel
theorem dX7_count_0 : decode cX7_count 0 = .ok (.aload_n 0, 1) := by decide +kernel
theorem dX7_count_1 : decode cX7_count 1 = .ok (.iconst 0, 1) := by decide +kernel
theorem dX7_count_2 : decode cX7_count 2 = .ok (.putfield 34, 3) := by decide +kernel
theorem dX7_count_5 : decode cX7_count 5 = .ok (.iload_n 1, 1) := by decide +kernel
theorem dX7_count_6 : decode cX7_count 6 = .ok (.iconst 0, 1) := by decide +kernel
theorem dX7_count_7 : decode cX7_count 7 = .ok (.bipush 7, 2) := by decide +kernel
theorem dX7_count_9 : decode cX7_count 9 = .ok (.invokestatic 38, 3) := by decide +kernel
theorem dX7_count_12 : decode cX7_count 12 = .ok (.ifCond .eq 11, 3) := by decide +kernel
theorem dX7_count_15 : decode cX7_count 15 = .ok (.aload_n 0, 1) := by decide +kernel
theorem dX7_count_16 : decode cX7_count 16 = .ok (.iload_n 1, 1) := by decide +kernel
theorem dX7_count_17 : decode cX7_count 17 = .ok (.invokevirtual 125, 3) := by decide +kernel
theorem dX7_count_20 : decode cX7_count 20 = .ok (.goto 8, 3) := by decide +kernel
theorem dX7_count_23 : decode cX7_count 23 = .ok (.aload_n 0, 1) := by decide +kernel
theorem dX7_count_24 : decode cX7_count 24 = .ok (.iconst 1, 1) := by decide +kernel
theorem dX7_count_25 : decode cX7_count 25 = .ok (.invokevirtual 58, 3) := by decide +kernel
theorem dX7_count_28 : decode cX7_count 28 = .ok (.ireturn, 1) := by decide +kernel
theorem dX7_way_0 : decode cX7_way 0 = .ok (.aload_n 0, 1) := by decide +kernel
theorem dX7_way_1 : decode cX7_way 1 = .ok (.iconst 0, 1) := by decide +kernel
theorem dX7_way_2 : decode cX7_way 2 = .ok (.putfield 34, 3) := by decide +kernel
theorem dX7_way_5 : decode cX7_way 5 = .ok (.iload_n 1, 1) := by decide +kernel
theorem dX7_way_6 : decode cX7_way 6 = .ok (.iload_n 2, 1) := by decide +kernel
theorem dX7_way_7 : decode cX7_way 7 = .ok (.invokestatic 54, 3) := by decide +kernel
theorem dX7_way_10 : decode cX7_way 10 = .ok (.ifCond .eq 12, 3) := by decide +kernel
theorem dX7_way_13 : decode cX7_way 13 = .ok (.iload_n 3, 1) := by decide +kernel
theorem dX7_way_14 : decode cX7_way 14 = .ok (.iload 4, 2) := by decide +kernel
theorem dX7_way_16 : decode cX7_way 16 = .ok (.invokestatic 54, 3) := by decide +kernel
theorem dX7_way_19 : decode cX7_way 19 = .ok (.ifCond .ne 9, 3) := by decide +kernel
theorem dX7_way_22 : decode cX7_way 22 = .ok (.aload_n 0, 1) := by decide +kernel
theorem dX7_way_23 : decode cX7_way 23 = .ok (.iconst 1, 1) := by decide +kernel
theorem dX7_way_24 : decode cX7_way 24 = .ok (.invokevirtual 58, 3) := by decide +kernel
theorem dX7_way_27 : decode cX7_way 27 = .ok (.ireturn, 1) := by decide +kernel
theorem dX7_way_28 : decode cX7_way 28 = .ok (.bipush 12, 2) := by decide +kernel
theorem dX7_way_30 : decode cX7_way 30 = .ok (.iload_n 2, 1) := by decide +kernel
theorem dX7_way_31 : decode cX7_way 31 = .ok (.imul, 1) := by decide +kernel
theorem dX7_way_32 : decode cX7_way 32 = .ok (.iload_n 1, 1) := by decide +kernel
theorem dX7_way_33 : decode cX7_way 33 = .ok (.iadd, 1) := by decide +kernel
theorem dX7_way_34 : decode cX7_way 34 = .ok (.istore 5, 2) := by decide +kernel
theorem dX7_way_36 : decode cX7_way 36 = .ok (.bipush 12, 2) := by decide +kernel
theorem dX7_way_38 : decode cX7_way 38 = .ok (.iload 4, 2) := by decide +kernel
theorem dX7_way_40 : decode cX7_way 40 = .ok (.imul, 1) := by decide +kernel
theorem dX7_way_41 : decode cX7_way 41 = .ok (.iload_n 3, 1) := by decide +kernel
theorem dX7_way_42 : decode cX7_way 42 = .ok (.iadd, 1) := by decide +kernel
theorem dX7_way_43 : decode cX7_way 43 = .ok (.istore 6, 2) := by decide +kernel
theorem dX7_way_45 : decode cX7_way 45 = .ok (.aload_n 0, 1) := by decide +kernel
theorem dX7_way_46 : decode cX7_way 46 = .ok (.getfield 27, 3) := by decide +kernel
theorem dX7_way_49 : decode cX7_way 49 = .ok (.getfield 62, 3) := by decide +kernel
theorem dX7_way_52 : decode cX7_way 52 = .ok (.iload 5, 2) := by decide +kernel
theorem dX7_way_54 : decode cX7_way 54 = .ok (.iaload, 1) := by decide +kernel
theorem dX7_way_55 : decode cX7_way 55 = .ok (.ifCond .ne 16, 3) := by decide +kernel
theorem dX7_way_58 : decode cX7_way 58 = .ok (.aload_n 0, 1) := by decide +kernel
theorem dX7_way_59 : decode cX7_way 59 = .ok (.getfield 27, 3) := by decide +kernel
theorem dX7_way_62 : decode cX7_way 62 = .ok (.getfield 62, 3) := by decide +kernel
theorem dX7_way_65 : decode cX7_way 65 = .ok (.iload 6, 2) := by decide +kernel
theorem dX7_way_67 : decode cX7_way 67 = .ok (.iaload, 1) := by decide +kernel
theorem dX7_way_68 : decode cX7_way 68 = .ok (.ifCond .eq 5, 3) := by decide +kernel
theorem dX7_way_71 : decode cX7_way 71 = .ok (.iconst (-1), 1) := by decide +kernel
theorem dX7_way_72 : decode cX7_way 72 = .ok (.ireturn, 1) := by decide +kernel
theorem dX7_way_73 : decode cX7_way 73 = .ok (.iconst 0, 1) := by decide +kernel
theorem dX7_way_74 : decode cX7_way 74 = .ok (.istore 7, 2) := by decide +kernel
theorem dX7_way_76 : decode cX7_way 76 = .ok (.iload 7, 2) := by decide +kernel
theorem dX7_way_78 : decode cX7_way 78 = .ok (.bipush 108, 2) := by decide +kernel
theorem dX7_way_80 : decode cX7_way 80 = .ok (.if_icmp .ge 19, 3) := by decide +kernel
theorem dX7_way_83 : decode cX7_way 83 = .ok (.aload_n 0, 1) := by decide +kernel
theorem dX7_way_84 : decode cX7_way 84 = .ok (.getfield 16, 3) := by decide +kernel
theorem dX7_way_87 : decode cX7_way 87 = .ok (.iload 7, 2) := by decide +kernel
theorem dX7_way_89 : decode cX7_way 89 = .ok (.sipush 9999, 3) := by decide +kernel
theorem dX7_way_92 : decode cX7_way 92 = .ok (.iastore, 1) := by decide +kernel
theorem dX7_way_93 : decode cX7_way 93 = .ok (.iinc 7 1, 3) := by decide +kernel
theorem dX7_way_96 : decode cX7_way 96 = .ok (.goto (-20), 3) := by decide +kernel
theorem dX7_way_99 : decode cX7_way 99 = .ok (.aload_n 0, 1) := by decide +kernel
theorem dX7_way_100 : decode cX7_way 100 = .ok (.getfield 16, 3) := by decide +kernel
theorem dX7_way_103 : decode cX7_way 103 = .ok (.iload 5, 2) := by decide +kernel
theorem dX7_way_105 : decode cX7_way 105 = .ok (.iconst 0, 1) := by decide +kernel
theorem dX7_way_106 : decode cX7_way 106 = .ok (.iastore, 1) := by decide +kernel
theorem dX7_way_107 : decode cX7_way 107 = .ok (.aload_n 0, 1) := by decide +kernel
theorem dX7_way_108 : decode cX7_way 108 = .ok (.getfield 19, 3) := by decide +kernel
theorem dX7_way_111 : decode cX7_way 111 = .ok (.iconst 0, 1) := by decide +kernel
theorem dX7_way_112 : decode cX7_way 112 = .ok (.iload 5, 2) := by decide +kernel
theorem dX7_way_114 : decode cX7_way 114 = .ok (.iastore, 1) := by decide +kernel
theorem dX7_way_115 : decode cX7_way 115 = .ok (.iconst 1, 1) := by decide +kernel
theorem dX7_way_116 : decode cX7_way 116 = .ok (.istore 7, 2) := by decide +kernel
theorem dX7_way_118 : decode cX7_way 118 = .ok (.iconst 0, 1) := by decide +kernel
theorem dX7_way_119 : decode cX7_way 119 = .ok (.istore 8, 2) := by decide +kernel
theorem dX7_way_121 : decode cX7_way 121 = .ok (.iload 8, 2) := by decide +kernel
theorem dX7_way_123 : decode cX7_way 123 = .ok (.iconst 4, 1) := by decide +kernel
theorem dX7_way_124 : decode cX7_way 124 = .ok (.iload 7, 2) := by decide +kernel
theorem dX7_way_126 : decode cX7_way 126 = .ok (.imul, 1) := by decide +kernel
theorem dX7_way_127 : decode cX7_way 127 = .ok (.if_icmp .ge 97, 3) := by decide +kernel
theorem dX7_way_130 : decode cX7_way 130 = .ok (.aload_n 0, 1) := by decide +kernel
theorem dX7_way_131 : decode cX7_way 131 = .ok (.getfield 19, 3) := by decide +kernel
theorem dX7_way_134 : decode cX7_way 134 = .ok (.iload 8, 2) := by decide +kernel
theorem dX7_way_136 : decode cX7_way 136 = .ok (.iconst 4, 1) := by decide +kernel
theorem dX7_way_137 : decode cX7_way 137 = .ok (.idiv, 1) := by decide +kernel
theorem dX7_way_138 : decode cX7_way 138 = .ok (.iaload, 1) := by decide +kernel
theorem dX7_way_139 : decode cX7_way 139 = .ok (.iload 8, 2) := by decide +kernel
theorem dX7_way_141 : decode cX7_way 141 = .ok (.iconst 4, 1) := by decide +kernel
theorem dX7_way_142 : decode cX7_way 142 = .ok (.irem, 1) := by decide +kernel
theorem dX7_way_143 : decode cX7_way 143 = .ok (.invokestatic 128, 3) := by decide +kernel
theorem dX7_way_146 : decode cX7_way 146 = .ok (.istore 9, 2) := by decide +kernel
theorem dX7_way_148 : decode cX7_way 148 = .ok (.iload 9, 2) := by decide +kernel
theorem dX7_way_150 : decode cX7_way 150 = .ok (.iconst (-1), 1) := by decide +kernel
theorem dX7_way_151 : decode cX7_way 151 = .ok (.if_icmp .eq 67, 3) := by decide +kernel
theorem dX7_way_154 : decode cX7_way 154 = .ok (.aload_n 0, 1) := by decide +kernel
theorem dX7_way_155 : decode cX7_way 155 = .ok (.getfield 27, 3) := by decide +kernel
theorem dX7_way_158 : decode cX7_way 158 = .ok (.getfield 62, 3) := by decide +kernel
theorem dX7_way_161 : decode cX7_way 161 = .ok (.iload 9, 2) := by decide +kernel
theorem dX7_way_163 : decode cX7_way 163 = .ok (.iaload, 1) := by decide +kernel
theorem dX7_way_164 : decode cX7_way 164 = .ok (.ifCond .ne 54, 3) := by decide +kernel
theorem dX7_way_167 : decode cX7_way 167 = .ok (.aload_n 0, 1) := by decide +kernel
theorem dX7_way_168 : decode cX7_way 168 = .ok (.getfield 16, 3) := by decide +kernel
theorem dX7_way_171 : decode cX7_way 171 = .ok (.iload 9, 2) := by decide +kernel
theorem dX7_way_173 : decode cX7_way 173 = .ok (.iaload, 1) := by decide +kernel
theorem dX7_way_174 : decode cX7_way 174 = .ok (.sipush 9999, 3) := by decide +kernel
theorem dX7_way_177 : decode cX7_way 177 = .ok (.if_icmp .ge 6, 3) := by decide +kernel
theorem dX7_way_180 : decode cX7_way 180 = .ok (.goto 38, 3) := by decide +kernel
theorem dX7_way_183 : decode cX7_way 183 = .ok (.aload_n 0, 1) := by decide +kernel
theorem dX7_way_184 : decode cX7_way 184 = .ok (.getfield 16, 3) := by decide +kernel
theorem dX7_way_187 : decode cX7_way 187 = .ok (.iload 9, 2) := by decide +kernel
theorem dX7_way_189 : decode cX7_way 189 = .ok (.aload_n 0, 1) := by decide +kernel
theorem dX7_way_190 : decode cX7_way 190 = .ok (.getfield 16, 3) := by decide +kernel
theorem dX7_way_193 : decode cX7_way 193 = .ok (.aload_n 0, 1) := by decide +kernel
theorem dX7_way_194 : decode cX7_way 194 = .ok (.getfield 19, 3) := by decide +kernel
theorem dX7_way_197 : decode cX7_way 197 = .ok (.iload 8, 2) := by decide +kernel
theorem dX7_way_199 : decode cX7_way 199 = .ok (.iconst 4, 1) := by decide +kernel
theorem dX7_way_200 : decode cX7_way 200 = .ok (.idiv, 1) := by decide +kernel
theorem dX7_way_201 : decode cX7_way 201 = .ok (.iaload, 1) := by decide +kernel
theorem dX7_way_202 : decode cX7_way 202 = .ok (.iaload, 1) := by decide +kernel
theorem dX7_way_203 : decode cX7_way 203 = .ok (.iconst 1, 1) := by decide +kernel
theorem dX7_way_204 : decode cX7_way 204 = .ok (.iadd, 1) := by decide +kernel
theorem dX7_way_205 : decode cX7_way 205 = .ok (.iastore, 1) := by decide +kernel
theorem dX7_way_206 : decode cX7_way 206 = .ok (.aload_n 0, 1) := by decide +kernel
theorem dX7_way_207 : decode cX7_way 207 = .ok (.getfield 19, 3) := by decide +kernel
theorem dX7_way_210 : decode cX7_way 210 = .ok (.iload 7, 2) := by decide +kernel
theorem dX7_way_212 : decode cX7_way 212 = .ok (.iload 9, 2) := by decide +kernel
theorem dX7_way_214 : decode cX7_way 214 = .ok (.iastore, 1) := by decide +kernel
theorem dX7_way_215 : decode cX7_way 215 = .ok (.iinc 7 1, 3) := by decide +kernel
theorem dX7_way_218 : decode cX7_way 218 = .ok (.iinc 8 1, 3) := by decide +kernel
theorem dX7_way_221 : decode cX7_way 221 = .ok (.goto (-100), 3) := by decide +kernel
theorem dX7_way_224 : decode cX7_way 224 = .ok (.aload_n 0, 1) := by decide +kernel
theorem dX7_way_225 : decode cX7_way 225 = .ok (.getfield 16, 3) := by decide +kernel
theorem dX7_way_228 : decode cX7_way 228 = .ok (.iload 6, 2) := by decide +kernel
theorem dX7_way_230 : decode cX7_way 230 = .ok (.iaload, 1) := by decide +kernel
theorem dX7_way_231 : decode cX7_way 231 = .ok (.sipush 9999, 3) := by decide +kernel
theorem dX7_way_234 : decode cX7_way 234 = .ok (.if_icmp .ne 7, 3) := by decide +kernel
theorem dX7_way_237 : decode cX7_way 237 = .ok (.iconst (-1), 1) := by decide +kernel
theorem dX7_way_238 : decode cX7_way 238 = .ok (.goto 10, 3) := by decide +kernel
theorem dX7_way_241 : decode cX7_way 241 = .ok (.aload_n 0, 1) := by decide +kernel
theorem dX7_way_242 : decode cX7_way 242 = .ok (.getfield 16, 3) := by decide +kernel
theorem dX7_way_245 : decode cX7_way 245 = .ok (.iload 6, 2) := by decide +kernel
theorem dX7_way_247 : decode cX7_way 247 = .ok (.iaload, 1) := by decide +kernel
theorem dX7_way_248 : decode cX7_way 248 = .ok (.ireturn, 1) := by decide +kernel
theorem dX7_shuts_0 : decode cX7_shuts 0 = .ok (.aload_n 0, 1) := by decide +kernel
theorem dX7_shuts_1 : decode cX7_shuts 1 = .ok (.iconst 0, 1) := by decide +kernel
theorem dX7_shuts_2 : decode cX7_shuts 2 = .ok (.putfield 34, 3) := by decide +kernel
theorem dX7_shuts_5 : decode cX7_shuts 5 = .ok (.aload_n 0, 1) := by decide +kernel
theorem dX7_shuts_6 : decode cX7_shuts 6 = .ok (.getfield 27, 3) := by decide +kernel
theorem dX7_shuts_9 : decode cX7_shuts 9 = .ok (.invokevirtual 131, 3) := by decide +kernel
theorem dX7_shuts_12 : decode cX7_shuts 12 = .ok (.ireturn, 1) := by decide +kernel
theorem dX7_pass_0 : decode cX7_pass 0 = .ok (.aload_n 0, 1) := by decide +kernel
theorem dX7_pass_1 : decode cX7_pass 1 = .ok (.iconst 0, 1) := by decide +kernel
theorem dX7_pass_2 : decode cX7_pass 2 = .ok (.putfield 34, 3) := by decide +kernel
theorem dX7_pass_5 : decode cX7_pass 5 = .ok (.iload_n 1, 1) := by decide +kernel
theorem dX7_pass_6 : decode cX7_pass 6 = .ok (.iconst 1, 1) := by decide +kernel
theorem dX7_pass_7 : decode cX7_pass 7 = .ok (.bipush 60, 2) := by decide +kernel
theorem dX7_pass_9 : decode cX7_pass 9 = .ok (.invokestatic 38, 3) := by decide +kernel
theorem dX7_pass_12 : decode cX7_pass 12 = .ok (.ifCond .ne 9, 3) := by decide +kernel
theorem dX7_pass_15 : decode cX7_pass 15 = .ok (.aload_n 0, 1) := by decide +kernel
theorem dX7_pass_16 : decode cX7_pass 16 = .ok (.iconst 1, 1) := by decide +kernel
theorem dX7_pass_17 : decode cX7_pass 17 = .ok (.invokevirtual 58, 3) := by decide +kernel
theorem dX7_pass_20 : decode cX7_pass 20 = .ok (.ireturn, 1) := by decide +kernel
theorem dX7_pass_21 : decode cX7_pass 21 = .ok (.aload_n 0, 1) := by decide +kernel
theorem dX7_pass_22 : decode cX7_pass 22 = .ok (.getfield 27, 3) := by decide +kernel
theorem dX7_pass_25 : decode cX7_pass 25 = .ok (.invokevirtual 122, 3) := by decide +kernel
theorem dX7_pass_28 : decode cX7_pass 28 = .ok (.istore_n 2, 1) := by decide +kernel
theorem dX7_pass_29 : decode cX7_pass 29 = .ok (.iconst 0, 1) := by decide +kernel
theorem dX7_pass_30 : decode cX7_pass 30 = .ok (.istore_n 3, 1) := by decide +kernel
theorem dX7_pass_31 : decode cX7_pass 31 = .ok (.iload_n 3, 1) := by decide +kernel
theorem dX7_pass_32 : decode cX7_pass 32 = .ok (.iload_n 1, 1) := by decide +kernel
theorem dX7_pass_33 : decode cX7_pass 33 = .ok (.if_icmp .ge 16, 3) := by decide +kernel
theorem dX7_pass_36 : decode cX7_pass 36 = .ok (.aload_n 0, 1) := by decide +kernel
theorem dX7_pass_37 : decode cX7_pass 37 = .ok (.getfield 27, 3) := by decide +kernel
theorem dX7_pass_40 : decode cX7_pass 40 = .ok (.invokevirtual 134, 3) := by decide +kernel
theorem dX7_pass_43 : decode cX7_pass 43 = .ok (.iinc 3 1, 3) := by decide +kernel
theorem dX7_pass_46 : decode cX7_pass 46 = .ok (.goto (-15), 3) := by decide +kernel
theorem dX7_pass_49 : decode cX7_pass 49 = .ok (.iload_n 2, 1) := by decide +kernel
theorem dX7_pass_50 : decode cX7_pass 50 = .ok (.aload_n 0, 1) := by decide +kernel
theorem dX7_pass_51 : decode cX7_pass 51 = .ok (.getfield 27, 3) := by decide +kernel
theorem dX7_pass_54 : decode cX7_pass 54 = .ok (.invokevirtual 122, 3) := by decide +kernel
theorem dX7_pass_57 : decode cX7_pass 57 = .ok (.isub, 1) := by decide +kernel
theorem dX7_pass_58 : decode cX7_pass 58 = .ok (.ireturn, 1) := by decide +kernel
theorem dX7_foresee_0 : decode cX7_foresee 0 = .ok (.aload_n 0, 1) := by decide +kernel
theorem dX7_foresee_1 : decode cX7_foresee 1 = .ok (.iconst 0, 1) := by decide +kernel
theorem dX7_foresee_2 : decode cX7_foresee 2 = .ok (.putfield 34, 3) := by decide +kernel
theorem dX7_foresee_5 : decode cX7_foresee 5 = .ok (.iload_n 1, 1) := by decide +kernel
theorem dX7_foresee_6 : decode cX7_foresee 6 = .ok (.iconst 1, 1) := by decide +kernel
theorem dX7_foresee_7 : decode cX7_foresee 7 = .ok (.bipush 60, 2) := by decide +kernel
theorem dX7_foresee_9 : decode cX7_foresee 9 = .ok (.invokestatic 38, 3) := by decide +kernel
theorem dX7_foresee_12 : decode cX7_foresee 12 = .ok (.ifCond .ne 9, 3) := by decide +kernel
theorem dX7_foresee_15 : decode cX7_foresee 15 = .ok (.aload_n 0, 1) := by decide +kernel
theorem dX7_foresee_16 : decode cX7_foresee 16 = .ok (.iconst 1, 1) := by decide +kernel
theorem dX7_foresee_17 : decode cX7_foresee 17 = .ok (.invokevirtual 58, 3) := by decide +kernel
theorem dX7_foresee_20 : decode cX7_foresee 20 = .ok (.ireturn, 1) := by decide +kernel
theorem dX7_foresee_21 : decode cX7_foresee 21 = .ok (.iload_n 2, 1) := by decide +kernel
theorem dX7_foresee_22 : decode cX7_foresee 22 = .ok (.iconst 0, 1) := by decide +kernel
theorem dX7_foresee_23 : decode cX7_foresee 23 = .ok (.iconst 2, 1) := by decide +kernel
theorem dX7_foresee_24 : decode cX7_foresee 24 = .ok (.invokestatic 38, 3) := by decide +kernel
theorem dX7_foresee_27 : decode cX7_foresee 27 = .ok (.ifCond .ne 9, 3) := by decide +kernel
theorem dX7_foresee_30 : decode cX7_foresee 30 = .ok (.aload_n 0, 1) := by decide +kernel
theorem dX7_foresee_31 : decode cX7_foresee 31 = .ok (.iconst 2, 1) := by decide +kernel
theorem dX7_foresee_32 : decode cX7_foresee 32 = .ok (.invokevirtual 58, 3) := by decide +kernel
theorem dX7_foresee_35 : decode cX7_foresee 35 = .ok (.ireturn, 1) := by decide +kernel
theorem dX7_foresee_36 : decode cX7_foresee 36 = .ok (.aload_n 0, 1) := by decide +kernel
theorem dX7_foresee_37 : decode cX7_foresee 37 = .ok (.getfield 31, 3) := by decide +kernel
theorem dX7_foresee_40 : decode cX7_foresee 40 = .ok (.aload_n 0, 1) := by decide +kernel
theorem dX7_foresee_41 : decode cX7_foresee 41 = .ok (.getfield 27, 3) := by decide +kernel
theorem dX7_foresee_44 : decode cX7_foresee 44 = .ok (.invokevirtual 137, 3) := by decide +kernel
theorem dX7_foresee_47 : decode cX7_foresee 47 = .ok (.iconst 0, 1) := by decide +kernel
theorem dX7_foresee_48 : decode cX7_foresee 48 = .ok (.istore_n 3, 1) := by decide +kernel
theorem dX7_foresee_49 : decode cX7_foresee 49 = .ok (.iload_n 3, 1) := by decide +kernel
theorem dX7_foresee_50 : decode cX7_foresee 50 = .ok (.iload_n 1, 1) := by decide +kernel
theorem dX7_foresee_51 : decode cX7_foresee 51 = .ok (.if_icmp .ge 16, 3) := by decide +kernel
theorem dX7_foresee_54 : decode cX7_foresee 54 = .ok (.aload_n 0, 1) := by decide +kernel
theorem dX7_foresee_55 : decode cX7_foresee 55 = .ok (.getfield 31, 3) := by decide +kernel
theorem dX7_foresee_58 : decode cX7_foresee 58 = .ok (.invokevirtual 134, 3) := by decide +kernel
theorem dX7_foresee_61 : decode cX7_foresee 61 = .ok (.iinc 3 1, 3) := by decide +kernel
theorem dX7_foresee_64 : decode cX7_foresee 64 = .ok (.goto (-15), 3) := by decide +kernel
theorem dX7_foresee_67 : decode cX7_foresee 67 = .ok (.iload_n 2, 1) := by decide +kernel
theorem dX7_foresee_68 : decode cX7_foresee 68 = .ok (.ifCond .ne 13, 3) := by decide +kernel
theorem dX7_foresee_71 : decode cX7_foresee 71 = .ok (.aload_n 0, 1) := by decide +kernel
theorem dX7_foresee_72 : decode cX7_foresee 72 = .ok (.getfield 31, 3) := by decide +kernel
theorem dX7_foresee_75 : decode cX7_foresee 75 = .ok (.invokevirtual 122, 3) := by decide +kernel
theorem dX7_foresee_78 : decode cX7_foresee 78 = .ok (.goto 25, 3) := by decide +kernel
theorem dX7_foresee_81 : decode cX7_foresee 81 = .ok (.iload_n 2, 1) := by decide +kernel
theorem dX7_foresee_82 : decode cX7_foresee 82 = .ok (.iconst 1, 1) := by decide +kernel
theorem dX7_foresee_83 : decode cX7_foresee 83 = .ok (.if_icmp .ne 13, 3) := by decide +kernel
theorem dX7_foresee_86 : decode cX7_foresee 86 = .ok (.aload_n 0, 1) := by decide +kernel
theorem dX7_foresee_87 : decode cX7_foresee 87 = .ok (.getfield 31, 3) := by decide +kernel
theorem dX7_foresee_90 : decode cX7_foresee 90 = .ok (.invokevirtual 115, 3) := by decide +kernel
theorem dX7_foresee_93 : decode cX7_foresee 93 = .ok (.goto 10, 3) := by decide +kernel
theorem dX7_foresee_96 : decode cX7_foresee 96 = .ok (.aload_n 0, 1) := by decide +kernel
theorem dX7_foresee_97 : decode cX7_foresee 97 = .ok (.getfield 31, 3) := by decide +kernel
theorem dX7_foresee_100 : decode cX7_foresee 100 = .ok (.invokevirtual 131, 3) := by decide +kernel
theorem dX7_foresee_103 : decode cX7_foresee 103 = .ok (.ireturn, 1) := by decide +kernel
theorem dX7_advise_0 : decode cX7_advise 0 = .ok (.aload_n 0, 1) := by decide +kernel
theorem dX7_advise_1 : decode cX7_advise 1 = .ok (.iconst 0, 1) := by decide +kernel
theorem dX7_advise_2 : decode cX7_advise 2 = .ok (.putfield 34, 3) := by decide +kernel
theorem dX7_advise_5 : decode cX7_advise 5 = .ok (.aload_n 0, 1) := by decide +kernel
theorem dX7_advise_6 : decode cX7_advise 6 = .ok (.iload_n 1, 1) := by decide +kernel
theorem dX7_advise_7 : decode cX7_advise 7 = .ok (.invokevirtual 78, 3) := by decide +kernel
theorem dX7_advise_10 : decode cX7_advise 10 = .ok (.ifCond .ne 9, 3) := by decide +kernel
theorem dX7_advise_13 : decode cX7_advise 13 = .ok (.aload_n 0, 1) := by decide +kernel
theorem dX7_advise_14 : decode cX7_advise 14 = .ok (.iconst 1, 1) := by decide +kernel
theorem dX7_advise_15 : decode cX7_advise 15 = .ok (.invokevirtual 58, 3) := by decide +kernel
theorem dX7_advise_18 : decode cX7_advise 18 = .ok (.ireturn, 1) := by decide +kernel
theorem dX7_advise_19 : decode cX7_advise 19 = .ok (.aload_n 0, 1) := by decide +kernel
theorem dX7_advise_20 : decode cX7_advise 20 = .ok (.getfield 27, 3) := by decide +kernel
theorem dX7_advise_23 : decode cX7_advise 23 = .ok (.getfield 72, 3) := by decide +kernel
theorem dX7_advise_26 : decode cX7_advise 26 = .ok (.iload_n 1, 1) := by decide +kernel
theorem dX7_advise_27 : decode cX7_advise 27 = .ok (.iaload, 1) := by decide +kernel
theorem dX7_advise_28 : decode cX7_advise 28 = .ok (.ifCond .ne 5, 3) := by decide +kernel
theorem dX7_advise_31 : decode cX7_advise 31 = .ok (.iconst (-1), 1) := by decide +kernel
theorem dX7_advise_32 : decode cX7_advise 32 = .ok (.ireturn, 1) := by decide +kernel
theorem dX7_advise_33 : decode cX7_advise 33 = .ok (.iconst (-1), 1) := by decide +kernel
theorem dX7_advise_34 : decode cX7_advise 34 = .ok (.istore_n 2, 1) := by decide +kernel
theorem dX7_advise_35 : decode cX7_advise 35 = .ok (.sipush 9999, 3) := by decide +kernel
theorem dX7_advise_38 : decode cX7_advise 38 = .ok (.istore_n 3, 1) := by decide +kernel
theorem dX7_advise_39 : decode cX7_advise 39 = .ok (.iconst 0, 1) := by decide +kernel
theorem dX7_advise_40 : decode cX7_advise 40 = .ok (.istore 4, 2) := by decide +kernel
theorem dX7_advise_42 : decode cX7_advise 42 = .ok (.iload 4, 2) := by decide +kernel
theorem dX7_advise_44 : decode cX7_advise 44 = .ok (.bipush 12, 2) := by decide +kernel
theorem dX7_advise_46 : decode cX7_advise 46 = .ok (.if_icmp .ge 75, 3) := by decide +kernel
theorem dX7_advise_49 : decode cX7_advise 49 = .ok (.aload_n 0, 1) := by decide +kernel
theorem dX7_advise_50 : decode cX7_advise 50 = .ok (.getfield 31, 3) := by decide +kernel
theorem dX7_advise_53 : decode cX7_advise 53 = .ok (.aload_n 0, 1) := by decide +kernel
theorem dX7_advise_54 : decode cX7_advise 54 = .ok (.getfield 27, 3) := by decide +kernel
theorem dX7_advise_57 : decode cX7_advise 57 = .ok (.invokevirtual 137, 3) := by decide +kernel
theorem dX7_advise_60 : decode cX7_advise 60 = .ok (.aload_n 0, 1) := by decide +kernel
theorem dX7_advise_61 : decode cX7_advise 61 = .ok (.getfield 31, 3) := by decide +kernel
theorem dX7_advise_64 : decode cX7_advise 64 = .ok (.getfield 81, 3) := by decide +kernel
theorem dX7_advise_67 : decode cX7_advise 67 = .ok (.iload_n 1, 1) := by decide +kernel
theorem dX7_advise_68 : decode cX7_advise 68 = .ok (.iconst 1, 1) := by decide +kernel
theorem dX7_advise_69 : decode cX7_advise 69 = .ok (.iastore, 1) := by decide +kernel
theorem dX7_advise_70 : decode cX7_advise 70 = .ok (.aload_n 0, 1) := by decide +kernel
theorem dX7_advise_71 : decode cX7_advise 71 = .ok (.getfield 31, 3) := by decide +kernel
theorem dX7_advise_74 : decode cX7_advise 74 = .ok (.getfield 84, 3) := by decide +kernel
theorem dX7_advise_77 : decode cX7_advise 77 = .ok (.bipush 24, 2) := by decide +kernel
theorem dX7_advise_79 : decode cX7_advise 79 = .ok (.iload_n 1, 1) := by decide +kernel
theorem dX7_advise_80 : decode cX7_advise 80 = .ok (.imul, 1) := by decide +kernel
theorem dX7_advise_81 : decode cX7_advise 81 = .ok (.iload 4, 2) := by decide +kernel
theorem dX7_advise_83 : decode cX7_advise 83 = .ok (.iastore, 1) := by decide +kernel
theorem dX7_advise_84 : decode cX7_advise 84 = .ok (.aload_n 0, 1) := by decide +kernel
theorem dX7_advise_85 : decode cX7_advise 85 = .ok (.getfield 31, 3) := by decide +kernel
theorem dX7_advise_88 : decode cX7_advise 88 = .ok (.invokevirtual 134, 3) := by decide +kernel
theorem dX7_advise_91 : decode cX7_advise 91 = .ok (.aload_n 0, 1) := by decide +kernel
theorem dX7_advise_92 : decode cX7_advise 92 = .ok (.getfield 31, 3) := by decide +kernel
theorem dX7_advise_95 : decode cX7_advise 95 = .ok (.invokevirtual 131, 3) := by decide +kernel
theorem dX7_advise_98 : decode cX7_advise 98 = .ok (.istore 5, 2) := by decide +kernel
theorem dX7_advise_100 : decode cX7_advise 100 = .ok (.iload 5, 2) := by decide +kernel
theorem dX7_advise_102 : decode cX7_advise 102 = .ok (.iload_n 3, 1) := by decide +kernel
theorem dX7_advise_103 : decode cX7_advise 103 = .ok (.if_icmp .lt 6, 3) := by decide +kernel
theorem dX7_advise_106 : decode cX7_advise 106 = .ok (.goto 9, 3) := by decide +kernel
theorem dX7_advise_109 : decode cX7_advise 109 = .ok (.iload 5, 2) := by decide +kernel
theorem dX7_advise_111 : decode cX7_advise 111 = .ok (.istore_n 3, 1) := by decide +kernel
theorem dX7_advise_112 : decode cX7_advise 112 = .ok (.iload 4, 2) := by decide +kernel
theorem dX7_advise_114 : decode cX7_advise 114 = .ok (.istore_n 2, 1) := by decide +kernel
theorem dX7_advise_115 : decode cX7_advise 115 = .ok (.iinc 4 1, 3) := by decide +kernel
theorem dX7_advise_118 : decode cX7_advise 118 = .ok (.goto (-76), 3) := by decide +kernel
theorem dX7_advise_121 : decode cX7_advise 121 = .ok (.iload_n 2, 1) := by decide +kernel
theorem dX7_advise_122 : decode cX7_advise 122 = .ok (.ireturn, 1) := by decide +kernel
theorem dX7_mean_0 : decode cX7_mean 0 = .ok (.aload_n 0, 1) := by decide +kernel
theorem dX7_mean_1 : decode cX7_mean 1 = .ok (.iconst 0, 1) := by decide +kernel
theorem dX7_mean_2 : decode cX7_mean 2 = .ok (.putfield 34, 3) := by decide +kernel
theorem dX7_mean_5 : decode cX7_mean 5 = .ok (.aload_n 0, 1) := by decide +kernel
theorem dX7_mean_6 : decode cX7_mean 6 = .ok (.invokevirtual 119, 3) := by decide +kernel
theorem dX7_mean_9 : decode cX7_mean 9 = .ok (.ifCond .ne 7, 3) := by decide +kernel
theorem dX7_mean_12 : decode cX7_mean 12 = .ok (.dconst 0, 1) := by decide +kernel
theorem dX7_mean_13 : decode cX7_mean 13 = .ok (.goto 17, 3) := by decide +kernel
theorem dX7_mean_16 : decode cX7_mean 16 = .ok (.aload_n 0, 1) := by decide +kernel
theorem dX7_mean_17 : decode cX7_mean 17 = .ok (.getfield 27, 3) := by decide +kernel
theorem dX7_mean_20 : decode cX7_mean 20 = .ok (.invokevirtual 122, 3) := by decide +kernel
theorem dX7_mean_23 : decode cX7_mean 23 = .ok (.i2d, 1) := by decide +kernel
theorem dX7_mean_24 : decode cX7_mean 24 = .ok (.aload_n 0, 1) := by decide +kernel
theorem dX7_mean_25 : decode cX7_mean 25 = .ok (.invokevirtual 119, 3) := by decide +kernel
theorem dX7_mean_28 : decode cX7_mean 28 = .ok (.i2d, 1) := by decide +kernel
theorem dX7_mean_29 : decode cX7_mean 29 = .ok (.ddiv, 1) := by decide +kernel
theorem dX7_mean_30 : decode cX7_mean 30 = .ok (.dreturn, 1) := by decide +kernel
theorem dX7_digest_0 : decode cX7_digest 0 = .ok (.aload_n 0, 1) := by decide +kernel
theorem dX7_digest_1 : decode cX7_digest 1 = .ok (.iconst 0, 1) := by decide +kernel
theorem dX7_digest_2 : decode cX7_digest 2 = .ok (.putfield 34, 3) := by decide +kernel
theorem dX7_digest_5 : decode cX7_digest 5 = .ok (.ldc2_w 141, 3) := by decide +kernel
theorem dX7_digest_8 : decode cX7_digest 8 = .ok (.lstore_n 1, 1) := by decide +kernel
theorem dX7_digest_9 : decode cX7_digest 9 = .ok (.iconst 0, 1) := by decide +kernel
theorem dX7_digest_10 : decode cX7_digest 10 = .ok (.istore_n 3, 1) := by decide +kernel
theorem dX7_digest_11 : decode cX7_digest 11 = .ok (.iload_n 3, 1) := by decide +kernel
theorem dX7_digest_12 : decode cX7_digest 12 = .ok (.bipush 7, 2) := by decide +kernel
theorem dX7_digest_14 : decode cX7_digest 14 = .ok (.if_icmp .gt 22, 3) := by decide +kernel
theorem dX7_digest_17 : decode cX7_digest 17 = .ok (.lload_n 1, 1) := by decide +kernel
theorem dX7_digest_18 : decode cX7_digest 18 = .ok (.ldc2_w 143, 3) := by decide +kernel
theorem dX7_digest_21 : decode cX7_digest 21 = .ok (.lmul, 1) := by decide +kernel
theorem dX7_digest_22 : decode cX7_digest 22 = .ok (.aload_n 0, 1) := by decide +kernel
theorem dX7_digest_23 : decode cX7_digest 23 = .ok (.iload_n 3, 1) := by decide +kernel
theorem dX7_digest_24 : decode cX7_digest 24 = .ok (.invokevirtual 125, 3) := by decide +kernel
theorem dX7_digest_27 : decode cX7_digest 27 = .ok (.i2l, 1) := by decide +kernel
theorem dX7_digest_28 : decode cX7_digest 28 = .ok (.ladd, 1) := by decide +kernel
theorem dX7_digest_29 : decode cX7_digest 29 = .ok (.lstore_n 1, 1) := by decide +kernel
theorem dX7_digest_30 : decode cX7_digest 30 = .ok (.iinc 3 1, 3) := by decide +kernel
theorem dX7_digest_33 : decode cX7_digest 33 = .ok (.goto (-22), 3) := by decide +kernel
theorem dX7_digest_36 : decode cX7_digest 36 = .ok (.iconst 0, 1) := by decide +kernel
theorem dX7_digest_37 : decode cX7_digest 37 = .ok (.istore_n 3, 1) := by decide +kernel
theorem dX7_digest_38 : decode cX7_digest 38 = .ok (.iload_n 3, 1) := by decide +kernel
theorem dX7_digest_39 : decode cX7_digest 39 = .ok (.bipush 108, 2) := by decide +kernel
theorem dX7_digest_41 : decode cX7_digest 41 = .ok (.if_icmp .ge 26, 3) := by decide +kernel
theorem dX7_digest_44 : decode cX7_digest 44 = .ok (.lload_n 1, 1) := by decide +kernel
theorem dX7_digest_45 : decode cX7_digest 45 = .ok (.ldc2_w 143, 3) := by decide +kernel
theorem dX7_digest_48 : decode cX7_digest 48 = .ok (.lmul, 1) := by decide +kernel
theorem dX7_digest_49 : decode cX7_digest 49 = .ok (.aload_n 0, 1) := by decide +kernel
theorem dX7_digest_50 : decode cX7_digest 50 = .ok (.getfield 27, 3) := by decide +kernel
theorem dX7_digest_53 : decode cX7_digest 53 = .ok (.getfield 62, 3) := by decide +kernel
theorem dX7_digest_56 : decode cX7_digest 56 = .ok (.iload_n 3, 1) := by decide +kernel
theorem dX7_digest_57 : decode cX7_digest 57 = .ok (.iaload, 1) := by decide +kernel
theorem dX7_digest_58 : decode cX7_digest 58 = .ok (.i2l, 1) := by decide +kernel
theorem dX7_digest_59 : decode cX7_digest 59 = .ok (.ladd, 1) := by decide +kernel
theorem dX7_digest_60 : decode cX7_digest 60 = .ok (.lstore_n 1, 1) := by decide +kernel
theorem dX7_digest_61 : decode cX7_digest 61 = .ok (.iinc 3 1, 3) := by decide +kernel
theorem dX7_digest_64 : decode cX7_digest 64 = .ok (.goto (-26), 3) := by decide +kernel
theorem dX7_digest_67 : decode cX7_digest 67 = .ok (.iconst 0, 1) := by decide +kernel
theorem dX7_digest_68 : decode cX7_digest 68 = .ok (.istore_n 3, 1) := by decide +kernel
theorem dX7_digest_69 : decode cX7_digest 69 = .ok (.iload_n 3, 1) := by decide +kernel
theorem dX7_digest_70 : decode cX7_digest 70 = .ok (.aload_n 0, 1) := by decide +kernel
theorem dX7_digest_71 : decode cX7_digest 71 = .ok (.getfield 42, 3) := by decide +kernel
theorem dX7_digest_74 : decode cX7_digest 74 = .ok (.if_icmp .ge 86, 3) := by decide +kernel
theorem dX7_digest_77 : decode cX7_digest 77 = .ok (.iconst 0, 1) := by decide +kernel
theorem dX7_digest_78 : decode cX7_digest 78 = .ok (.istore 4, 2) := by decide +kernel
theorem dX7_digest_80 : decode cX7_digest 80 = .ok (.iload 4, 2) := by decide +kernel
theorem dX7_digest_82 : decode cX7_digest 82 = .ok (.bipush 7, 2) := by decide +kernel
theorem dX7_digest_84 : decode cX7_digest 84 = .ok (.if_icmp .gt 24, 3) := by decide +kernel
theorem dX7_digest_87 : decode cX7_digest 87 = .ok (.lload_n 1, 1) := by decide +kernel
theorem dX7_digest_88 : decode cX7_digest 88 = .ok (.ldc2_w 143, 3) := by decide +kernel
theorem dX7_digest_91 : decode cX7_digest 91 = .ok (.lmul, 1) := by decide +kernel
theorem dX7_digest_92 : decode cX7_digest 92 = .ok (.aload_n 0, 1) := by decide +kernel
theorem dX7_digest_93 : decode cX7_digest 93 = .ok (.iload_n 3, 1) := by decide +kernel
theorem dX7_digest_94 : decode cX7_digest 94 = .ok (.iload 4, 2) := by decide +kernel
theorem dX7_digest_96 : decode cX7_digest 96 = .ok (.invokevirtual 96, 3) := by decide +kernel
theorem dX7_digest_99 : decode cX7_digest 99 = .ok (.i2l, 1) := by decide +kernel
theorem dX7_digest_100 : decode cX7_digest 100 = .ok (.ladd, 1) := by decide +kernel
theorem dX7_digest_101 : decode cX7_digest 101 = .ok (.lstore_n 1, 1) := by decide +kernel
theorem dX7_digest_102 : decode cX7_digest 102 = .ok (.iinc 4 1, 3) := by decide +kernel
theorem dX7_digest_105 : decode cX7_digest 105 = .ok (.goto (-25), 3) := by decide +kernel
theorem dX7_digest_108 : decode cX7_digest 108 = .ok (.iconst 0, 1) := by decide +kernel
theorem dX7_digest_109 : decode cX7_digest 109 = .ok (.istore 4, 2) := by decide +kernel
theorem dX7_digest_111 : decode cX7_digest 111 = .ok (.iload 4, 2) := by decide +kernel
theorem dX7_digest_113 : decode cX7_digest 113 = .ok (.aload_n 0, 1) := by decide +kernel
theorem dX7_digest_114 : decode cX7_digest 114 = .ok (.getfield 27, 3) := by decide +kernel
theorem dX7_digest_117 : decode cX7_digest 117 = .ok (.getfield 81, 3) := by decide +kernel
theorem dX7_digest_120 : decode cX7_digest 120 = .ok (.iload_n 3, 1) := by decide +kernel
theorem dX7_digest_121 : decode cX7_digest 121 = .ok (.iaload, 1) := by decide +kernel
theorem dX7_digest_122 : decode cX7_digest 122 = .ok (.if_icmp .ge 32, 3) := by decide +kernel
theorem dX7_digest_125 : decode cX7_digest 125 = .ok (.lload_n 1, 1) := by decide +kernel
theorem dX7_digest_126 : decode cX7_digest 126 = .ok (.ldc2_w 143, 3) := by decide +kernel
theorem dX7_digest_129 : decode cX7_digest 129 = .ok (.lmul, 1) := by decide +kernel
theorem dX7_digest_130 : decode cX7_digest 130 = .ok (.aload_n 0, 1) := by decide +kernel
theorem dX7_digest_131 : decode cX7_digest 131 = .ok (.getfield 27, 3) := by decide +kernel
theorem dX7_digest_134 : decode cX7_digest 134 = .ok (.getfield 84, 3) := by decide +kernel
theorem dX7_digest_137 : decode cX7_digest 137 = .ok (.bipush 24, 2) := by decide +kernel
theorem dX7_digest_139 : decode cX7_digest 139 = .ok (.iload_n 3, 1) := by decide +kernel
theorem dX7_digest_140 : decode cX7_digest 140 = .ok (.imul, 1) := by decide +kernel
theorem dX7_digest_141 : decode cX7_digest 141 = .ok (.iload 4, 2) := by decide +kernel
theorem dX7_digest_143 : decode cX7_digest 143 = .ok (.iadd, 1) := by decide +kernel
theorem dX7_digest_144 : decode cX7_digest 144 = .ok (.iaload, 1) := by decide +kernel
theorem dX7_digest_145 : decode cX7_digest 145 = .ok (.i2l, 1) := by decide +kernel
theorem dX7_digest_146 : decode cX7_digest 146 = .ok (.ladd, 1) := by decide +kernel
theorem dX7_digest_147 : decode cX7_digest 147 = .ok (.lstore_n 1, 1) := by decide +kernel
theorem dX7_digest_148 : decode cX7_digest 148 = .ok (.iinc 4 1, 3) := by decide +kernel
theorem dX7_digest_151 : decode cX7_digest 151 = .ok (.goto (-40), 3) := by decide +kernel
theorem dX7_digest_154 : decode cX7_digest 154 = .ok (.iinc 3 1, 3) := by decide +kernel
theorem dX7_digest_157 : decode cX7_digest 157 = .ok (.goto (-88), 3) := by decide +kernel
theorem dX7_digest_160 : decode cX7_digest 160 = .ok (.iconst 0, 1) := by decide +kernel
theorem dX7_digest_161 : decode cX7_digest 161 = .ok (.istore_n 3, 1) := by decide +kernel
theorem dX7_digest_162 : decode cX7_digest 162 = .ok (.iload_n 3, 1) := by decide +kernel
theorem dX7_digest_163 : decode cX7_digest 163 = .ok (.aload_n 0, 1) := by decide +kernel
theorem dX7_digest_164 : decode cX7_digest 164 = .ok (.getfield 45, 3) := by decide +kernel
theorem dX7_digest_167 : decode cX7_digest 167 = .ok (.if_icmp .ge 39, 3) := by decide +kernel
theorem dX7_digest_170 : decode cX7_digest 170 = .ok (.iconst 0, 1) := by decide +kernel
theorem dX7_digest_171 : decode cX7_digest 171 = .ok (.istore 4, 2) := by decide +kernel
theorem dX7_digest_173 : decode cX7_digest 173 = .ok (.iload 4, 2) := by decide +kernel
theorem dX7_digest_175 : decode cX7_digest 175 = .ok (.iconst 3, 1) := by decide +kernel
theorem dX7_digest_176 : decode cX7_digest 176 = .ok (.if_icmp .gt 24, 3) := by decide +kernel
theorem dX7_digest_179 : decode cX7_digest 179 = .ok (.lload_n 1, 1) := by decide +kernel
theorem dX7_digest_180 : decode cX7_digest 180 = .ok (.ldc2_w 143, 3) := by decide +kernel
theorem dX7_digest_183 : decode cX7_digest 183 = .ok (.lmul, 1) := by decide +kernel
theorem dX7_digest_184 : decode cX7_digest 184 = .ok (.aload_n 0, 1) := by decide +kernel
theorem dX7_digest_185 : decode cX7_digest 185 = .ok (.iload_n 3, 1) := by decide +kernel
theorem dX7_digest_186 : decode cX7_digest 186 = .ok (.iload 4, 2) := by decide +kernel
theorem dX7_digest_188 : decode cX7_digest 188 = .ok (.invokevirtual 109, 3) := by decide +kernel
theorem dX7_digest_191 : decode cX7_digest 191 = .ok (.i2l, 1) := by decide +kernel
theorem dX7_digest_192 : decode cX7_digest 192 = .ok (.ladd, 1) := by decide +kernel
theorem dX7_digest_193 : decode cX7_digest 193 = .ok (.lstore_n 1, 1) := by decide +kernel
theorem dX7_digest_194 : decode cX7_digest 194 = .ok (.iinc 4 1, 3) := by decide +kernel
theorem dX7_digest_197 : decode cX7_digest 197 = .ok (.goto (-24), 3) := by decide +kernel
theorem dX7_digest_200 : decode cX7_digest 200 = .ok (.iinc 3 1, 3) := by decide +kernel
theorem dX7_digest_203 : decode cX7_digest 203 = .ok (.goto (-41), 3) := by decide +kernel
theorem dX7_digest_206 : decode cX7_digest 206 = .ok (.lload_n 1, 1) := by decide +kernel
theorem dX7_digest_207 : decode cX7_digest 207 = .ok (.lreturn, 1) := by decide +kernel
end
section
theorem dJ6_signum_0f7a4_0 : decode cJ6_signum_0f7a4 0 = .ok (.iload_n 0, 1) := by decide +kernel
theorem dJ6_signum_0f7a4_1 : decode cJ6_signum_0f7a4 1 = .ok (.bipush 31, 2) := by decide +kernel
theorem dJ6_signum_0f7a4_3 : decode cJ6_signum_0f7a4 3 = .ok (.ishr, 1) := by decide +kernel
theorem dJ6_signum_0f7a4_4 : decode cJ6_signum_0f7a4 4 = .ok (.iload_n 0, 1) := by decide +kernel
theorem dJ6_signum_0f7a4_5 : decode cJ6_signum_0f7a4 5 = .ok (.ineg, 1) := by decide +kernel
theorem dJ6_signum_0f7a4_6 : decode cJ6_signum_0f7a4 6 = .ok (.bipush 31, 2) := by decide +kernel
theorem dJ6_signum_0f7a4_8 : decode cJ6_signum_0f7a4 8 = .ok (.iushr, 1) := by decide +kernel
theorem dJ6_signum_0f7a4_9 : decode cJ6_signum_0f7a4 9 = .ok (.ior, 1) := by decide +kernel
theorem dJ6_signum_0f7a4_10 : decode cJ6_signum_0f7a4 10 = .ok (.ireturn, 1) := by decide +kernel
theorem dJ9_abs_0f7a4_0 : decode cJ9_abs_0f7a4 0 = .ok (.iload_n 0, 1) := by decide +kernel
theorem dJ9_abs_0f7a4_1 : decode cJ9_abs_0f7a4 1 = .ok (.ifCond .ge 8, 3) := by decide +kernel
theorem dJ9_abs_0f7a4_4 : decode cJ9_abs_0f7a4 4 = .ok (.iload_n 0, 1) := by decide +kernel
theorem dJ9_abs_0f7a4_5 : decode cJ9_abs_0f7a4 5 = .ok (.ineg, 1) := by decide +kernel
theorem dJ9_abs_0f7a4_6 : decode cJ9_abs_0f7a4 6 = .ok (.goto 4, 3) := by decide +kernel
theorem dJ9_abs_0f7a4_9 : decode cJ9_abs_0f7a4 9 = .ok (.iload_n 0, 1) := by decide +kernel
theorem dJ9_abs_0f7a4_10 : decode cJ9_abs_0f7a4 10 = .ok (.ireturn, 1) := by decide +kernel
theorem dJ9_max_7cf53_0 : decode cJ9_max_7cf53 0 = .ok (.iload_n 0, 1) := by decide +kernel
theorem dJ9_max_7cf53_1 : decode cJ9_max_7cf53 1 = .ok (.iload_n 1, 1) := by decide +kernel
theorem dJ9_max_7cf53_2 : decode cJ9_max_7cf53 2 = .ok (.if_icmp .lt 7, 3) := by decide +kernel
theorem dJ9_max_7cf53_5 : decode cJ9_max_7cf53 5 = .ok (.iload_n 0, 1) := by decide +kernel
theorem dJ9_max_7cf53_6 : decode cJ9_max_7cf53 6 = .ok (.goto 4, 3) := by decide +kernel
theorem dJ9_max_7cf53_9 : decode cJ9_max_7cf53 9 = .ok (.iload_n 1, 1) := by decide +kernel
theorem dJ9_max_7cf53_10 : decode cJ9_max_7cf53 10 = .ok (.ireturn, 1) := by decide +kernel
theorem dJ9_min_7cf53_0 : decode cJ9_min_7cf53 0 = .ok (.iload_n 0, 1) := by decide +kernel
theorem dJ9_min_7cf53_1 : decode cJ9_min_7cf53 1 = .ok (.iload_n 1, 1) := by decide +kernel
theorem dJ9_min_7cf53_2 : decode cJ9_min_7cf53 2 = .ok (.if_icmp .gt 7, 3) := by decide +kernel
theorem dJ9_min_7cf53_5 : decode cJ9_min_7cf53 5 = .ok (.iload_n 0, 1) := by decide +kernel
theorem dJ9_min_7cf53_6 : decode cJ9_min_7cf53 6 = .ok (.goto 4, 3) := by decide +kernel
theorem dJ9_min_7cf53_9 : decode cJ9_min_7cf53 9 = .ok (.iload_n 1, 1) := by decide +kernel
theorem dJ9_min_7cf53_10 : decode cJ9_min_7cf53 10 = .ok (.ireturn, 1) := by decide +kernel
theorem dJ7_fill_53178_0 : decode cJ7_fill_53178 0 = .ok (.iconst 0, 1) := by decide +kernel
theorem dJ7_fill_53178_1 : decode cJ7_fill_53178 1 = .ok (.istore_n 2, 1) := by decide +kernel
theorem dJ7_fill_53178_2 : decode cJ7_fill_53178 2 = .ok (.aload_n 0, 1) := by decide +kernel
theorem dJ7_fill_53178_3 : decode cJ7_fill_53178 3 = .ok (.arraylength, 1) := by decide +kernel
theorem dJ7_fill_53178_4 : decode cJ7_fill_53178 4 = .ok (.istore_n 3, 1) := by decide +kernel
theorem dJ7_fill_53178_5 : decode cJ7_fill_53178 5 = .ok (.iload_n 2, 1) := by decide +kernel
theorem dJ7_fill_53178_6 : decode cJ7_fill_53178 6 = .ok (.iload_n 3, 1) := by decide +kernel
theorem dJ7_fill_53178_7 : decode cJ7_fill_53178 7 = .ok (.if_icmp .ge 13, 3) := by decide +kernel
theorem dJ7_fill_53178_10 : decode cJ7_fill_53178 10 = .ok (.aload_n 0, 1) := by decide +kernel
theorem dJ7_fill_53178_11 : decode cJ7_fill_53178 11 = .ok (.iload_n 2, 1) := by decide +kernel
theorem dJ7_fill_53178_12 : decode cJ7_fill_53178 12 = .ok (.iload_n 1, 1) := by decide +kernel
theorem dJ7_fill_53178_13 : decode cJ7_fill_53178 13 = .ok (.iastore, 1) := by decide +kernel
theorem dJ7_fill_53178_14 : decode cJ7_fill_53178 14 = .ok (.iinc 2 1, 3) := by decide +kernel
theorem dJ7_fill_53178_17 : decode cJ7_fill_53178 17 = .ok (.goto (-12), 3) := by decide +kernel
theorem dJ7_fill_53178_20 : decode cJ7_fill_53178 20 = .ok (.return_, 1) := by decide +kernel
theorem dL_house_0 : decode cL_house 0 = .ok (.aload_n 3, 1) := by decide +kernel
theorem dL_house_1 : decode cL_house 1 = .ok (.iconst 0, 1) := by decide +kernel
theorem dL_house_2 : decode cL_house 2 = .ok (.aload_n 0, 1) := by decide +kernel
theorem dL_house_3 : decode cL_house 3 = .ok (.iload_n 1, 1) := by decide +kernel
theorem dL_house_4 : decode cL_house 4 = .ok (.iload_n 2, 1) := by decide +kernel
theorem dL_house_5 : decode cL_house 5 = .ok (.invokevirtual 7, 3) := by decide +kernel
theorem dL_house_8 : decode cL_house 8 = .ok (.ifCond .eq 7, 3) := by decide +kernel
theorem dL_house_11 : decode cL_house 11 = .ok (.lconst 1, 1) := by decide +kernel
theorem dL_house_12 : decode cL_house 12 = .ok (.goto 4, 3) := by decide +kernel
theorem dL_house_15 : decode cL_house 15 = .ok (.lconst 0, 1) := by decide +kernel
theorem dL_house_16 : decode cL_house 16 = .ok (.lastore, 1) := by decide +kernel
theorem dL_house_17 : decode cL_house 17 = .ok (.goto 11, 3) := by decide +kernel
theorem dL_house_20 : decode cL_house 20 = .ok (.astore 4, 2) := by decide +kernel
theorem dL_house_22 : decode cL_house 22 = .ok (.iconst 1, 1) := by decide +kernel
theorem dL_house_23 : decode cL_house 23 = .ok (.ireturn, 1) := by decide +kernel
theorem dL_house_24 : decode cL_house 24 = .ok (.astore 4, 2) := by decide +kernel
theorem dL_house_26 : decode cL_house 26 = .ok (.iconst 2, 1) := by decide +kernel
theorem dL_house_27 : decode cL_house 27 = .ok (.ireturn, 1) := by decide +kernel
theorem dL_house_28 : decode cL_house 28 = .ok (.iconst 0, 1) := by decide +kernel
theorem dL_house_29 : decode cL_house 29 = .ok (.ireturn, 1) := by decide +kernel
theorem dL_block_0 : decode cL_block 0 = .ok (.aload 4, 2) := by decide +kernel
theorem dL_block_2 : decode cL_block 2 = .ok (.iconst 0, 1) := by decide +kernel
theorem dL_block_3 : decode cL_block 3 = .ok (.aload_n 0, 1) := by decide +kernel
theorem dL_block_4 : decode cL_block 4 = .ok (.iload_n 1, 1) := by decide +kernel
theorem dL_block_5 : decode cL_block 5 = .ok (.iload_n 2, 1) := by decide +kernel
theorem dL_block_6 : decode cL_block 6 = .ok (.iload_n 3, 1) := by decide +kernel
theorem dL_block_7 : decode cL_block 7 = .ok (.invokevirtual 17, 3) := by decide +kernel
theorem dL_block_10 : decode cL_block 10 = .ok (.i2l, 1) := by decide +kernel
theorem dL_block_11 : decode cL_block 11 = .ok (.lastore, 1) := by decide +kernel
theorem dL_block_12 : decode cL_block 12 = .ok (.goto 15, 3) := by decide +kernel
theorem dL_block_15 : decode cL_block 15 = .ok (.astore 5, 2) := by decide +kernel
theorem dL_block_17 : decode cL_block 17 = .ok (.iconst 1, 1) := by decide +kernel
theorem dL_block_18 : decode cL_block 18 = .ok (.ireturn, 1) := by decide +kernel
theorem dL_block_19 : decode cL_block 19 = .ok (.astore 5, 2) := by decide +kernel
theorem dL_block_21 : decode cL_block 21 = .ok (.iconst 2, 1) := by decide +kernel
theorem dL_block_22 : decode cL_block 22 = .ok (.ireturn, 1) := by decide +kernel
theorem dL_block_23 : decode cL_block 23 = .ok (.astore 5, 2) := by decide +kernel
theorem dL_block_25 : decode cL_block 25 = .ok (.iconst 3, 1) := by decide +kernel
theorem dL_block_26 : decode cL_block 26 = .ok (.ireturn, 1) := by decide +kernel
theorem dL_block_27 : decode cL_block 27 = .ok (.iconst 0, 1) := by decide +kernel
theorem dL_block_28 : decode cL_block 28 = .ok (.ireturn, 1) := by decide +kernel
theorem dL_cell_0 : decode cL_cell 0 = .ok (.aload_n 3, 1) := by decide +kernel
theorem dL_cell_1 : decode cL_cell 1 = .ok (.iconst 0, 1) := by decide +kernel
theorem dL_cell_2 : decode cL_cell 2 = .ok (.aload_n 0, 1) := by decide +kernel
theorem dL_cell_3 : decode cL_cell 3 = .ok (.iload_n 1, 1) := by decide +kernel
theorem dL_cell_4 : decode cL_cell 4 = .ok (.iload_n 2, 1) := by decide +kernel
theorem dL_cell_5 : decode cL_cell 5 = .ok (.invokevirtual 23, 3) := by decide +kernel
theorem dL_cell_8 : decode cL_cell 8 = .ok (.i2l, 1) := by decide +kernel
theorem dL_cell_9 : decode cL_cell 9 = .ok (.lastore, 1) := by decide +kernel
theorem dL_cell_10 : decode cL_cell 10 = .ok (.goto 7, 3) := by decide +kernel
theorem dL_cell_13 : decode cL_cell 13 = .ok (.astore 4, 2) := by decide +kernel
theorem dL_cell_15 : decode cL_cell 15 = .ok (.iconst 1, 1) := by decide +kernel
theorem dL_cell_16 : decode cL_cell 16 = .ok (.ireturn, 1) := by decide +kernel
theorem dL_cell_17 : decode cL_cell 17 = .ok (.iconst 0, 1) := by decide +kernel
theorem dL_cell_18 : decode cL_cell 18 = .ok (.ireturn, 1) := by decide +kernel
theorem dL_gather_0 : decode cL_gather 0 = .ok (.aload 4, 2) := by decide +kernel
theorem dL_gather_2 : decode cL_gather 2 = .ok (.iconst 0, 1) := by decide +kernel
theorem dL_gather_3 : decode cL_gather 3 = .ok (.aload_n 0, 1) := by decide +kernel
theorem dL_gather_4 : decode cL_gather 4 = .ok (.iload_n 1, 1) := by decide +kernel
theorem dL_gather_5 : decode cL_gather 5 = .ok (.iload_n 2, 1) := by decide +kernel
theorem dL_gather_6 : decode cL_gather 6 = .ok (.iload_n 3, 1) := by decide +kernel
theorem dL_gather_7 : decode cL_gather 7 = .ok (.invokevirtual 27, 3) := by decide +kernel
theorem dL_gather_10 : decode cL_gather 10 = .ok (.i2l, 1) := by decide +kernel
theorem dL_gather_11 : decode cL_gather 11 = .ok (.lastore, 1) := by decide +kernel
theorem dL_gather_12 : decode cL_gather 12 = .ok (.goto 15, 3) := by decide +kernel
theorem dL_gather_15 : decode cL_gather 15 = .ok (.astore 5, 2) := by decide +kernel
theorem dL_gather_17 : decode cL_gather 17 = .ok (.iconst 1, 1) := by decide +kernel
theorem dL_gather_18 : decode cL_gather 18 = .ok (.ireturn, 1) := by decide +kernel
theorem dL_gather_19 : decode cL_gather 19 = .ok (.astore 5, 2) := by decide +kernel
theorem dL_gather_21 : decode cL_gather 21 = .ok (.iconst 2, 1) := by decide +kernel
theorem dL_gather_22 : decode cL_gather 22 = .ok (.ireturn, 1) := by decide +kernel
theorem dL_gather_23 : decode cL_gather 23 = .ok (.astore 5, 2) := by decide +kernel
theorem dL_gather_25 : decode cL_gather 25 = .ok (.iconst 3, 1) := by decide +kernel
theorem dL_gather_26 : decode cL_gather 26 = .ok (.ireturn, 1) := by decide +kernel
theorem dL_gather_27 : decode cL_gather 27 = .ok (.iconst 0, 1) := by decide +kernel
theorem dL_gather_28 : decode cL_gather 28 = .ok (.ireturn, 1) := by decide +kernel
theorem dL_order_0 : decode cL_order 0 = .ok (.aload_n 3, 1) := by decide +kernel
theorem dL_order_1 : decode cL_order 1 = .ok (.iconst 0, 1) := by decide +kernel
theorem dL_order_2 : decode cL_order 2 = .ok (.aload_n 0, 1) := by decide +kernel
theorem dL_order_3 : decode cL_order 3 = .ok (.iload_n 1, 1) := by decide +kernel
theorem dL_order_4 : decode cL_order 4 = .ok (.iload_n 2, 1) := by decide +kernel
theorem dL_order_5 : decode cL_order 5 = .ok (.invokevirtual 30, 3) := by decide +kernel
theorem dL_order_8 : decode cL_order 8 = .ok (.i2l, 1) := by decide +kernel
theorem dL_order_9 : decode cL_order 9 = .ok (.lastore, 1) := by decide +kernel
theorem dL_order_10 : decode cL_order 10 = .ok (.goto 15, 3) := by decide +kernel
theorem dL_order_13 : decode cL_order 13 = .ok (.astore 4, 2) := by decide +kernel
theorem dL_order_15 : decode cL_order 15 = .ok (.iconst 1, 1) := by decide +kernel
theorem dL_order_16 : decode cL_order 16 = .ok (.ireturn, 1) := by decide +kernel
theorem dL_order_17 : decode cL_order 17 = .ok (.astore 4, 2) := by decide +kernel
theorem dL_order_19 : decode cL_order 19 = .ok (.iconst 2, 1) := by decide +kernel
theorem dL_order_20 : decode cL_order 20 = .ok (.ireturn, 1) := by decide +kernel
theorem dL_order_21 : decode cL_order 21 = .ok (.astore 4, 2) := by decide +kernel
theorem dL_order_23 : decode cL_order 23 = .ok (.iconst 3, 1) := by decide +kernel
theorem dL_order_24 : decode cL_order 24 = .ok (.ireturn, 1) := by decide +kernel
theorem dL_order_25 : decode cL_order 25 = .ok (.iconst 0, 1) := by decide +kernel
theorem dL_order_26 : decode cL_order 26 = .ok (.ireturn, 1) := by decide +kernel
theorem dL_torch_0 : decode cL_torch 0 = .ok (.aload_n 2, 1) := by decide +kernel
theorem dL_torch_1 : decode cL_torch 1 = .ok (.iconst 0, 1) := by decide +kernel
theorem dL_torch_2 : decode cL_torch 2 = .ok (.aload_n 0, 1) := by decide +kernel
theorem dL_torch_3 : decode cL_torch 3 = .ok (.iload_n 1, 1) := by decide +kernel
theorem dL_torch_4 : decode cL_torch 4 = .ok (.invokevirtual 33, 3) := by decide +kernel
theorem dL_torch_7 : decode cL_torch 7 = .ok (.ifCond .eq 7, 3) := by decide +kernel
theorem dL_torch_10 : decode cL_torch 10 = .ok (.lconst 1, 1) := by decide +kernel
theorem dL_torch_11 : decode cL_torch 11 = .ok (.goto 4, 3) := by decide +kernel
theorem dL_torch_14 : decode cL_torch 14 = .ok (.lconst 0, 1) := by decide +kernel
theorem dL_torch_15 : decode cL_torch 15 = .ok (.lastore, 1) := by decide +kernel
theorem dL_torch_16 : decode cL_torch 16 = .ok (.goto 9, 3) := by decide +kernel
theorem dL_torch_19 : decode cL_torch 19 = .ok (.astore_n 3, 1) := by decide +kernel
theorem dL_torch_20 : decode cL_torch 20 = .ok (.iconst 1, 1) := by decide +kernel
theorem dL_torch_21 : decode cL_torch 21 = .ok (.ireturn, 1) := by decide +kernel
theorem dL_torch_22 : decode cL_torch 22 = .ok (.astore_n 3, 1) := by decide +kernel
theorem dL_torch_23 : decode cL_torch 23 = .ok (.iconst 2, 1) := by decide +kernel
theorem dL_torch_24 : decode cL_torch 24 = .ok (.ireturn, 1) := by decide +kernel
theorem dL_torch_25 : decode cL_torch 25 = .ok (.iconst 0, 1) := by decide +kernel
theorem dL_torch_26 : decode cL_torch 26 = .ok (.ireturn, 1) := by decide +kernel
theorem dL_patrol_0 : decode cL_patrol 0 = .ok (.aload 5, 2) := by decide +kernel
theorem dL_patrol_2 : decode cL_patrol 2 = .ok (.iconst 0, 1) := by decide +kernel
theorem dL_patrol_3 : decode cL_patrol 3 = .ok (.aload_n 0, 1) := by decide +kernel
theorem dL_patrol_4 : decode cL_patrol 4 = .ok (.iload_n 1, 1) := by decide +kernel
theorem dL_patrol_5 : decode cL_patrol 5 = .ok (.iload_n 2, 1) := by decide +kernel
theorem dL_patrol_6 : decode cL_patrol 6 = .ok (.iload_n 3, 1) := by decide +kernel
theorem dL_patrol_7 : decode cL_patrol 7 = .ok (.iload 4, 2) := by decide +kernel
theorem dL_patrol_9 : decode cL_patrol 9 = .ok (.invokevirtual 37, 3) := by decide +kernel
theorem dL_patrol_12 : decode cL_patrol 12 = .ok (.i2l, 1) := by decide +kernel
theorem dL_patrol_13 : decode cL_patrol 13 = .ok (.lastore, 1) := by decide +kernel
theorem dL_patrol_14 : decode cL_patrol 14 = .ok (.goto 15, 3) := by decide +kernel
theorem dL_patrol_17 : decode cL_patrol 17 = .ok (.astore 6, 2) := by decide +kernel
theorem dL_patrol_19 : decode cL_patrol 19 = .ok (.iconst 1, 1) := by decide +kernel
theorem dL_patrol_20 : decode cL_patrol 20 = .ok (.ireturn, 1) := by decide +kernel
theorem dL_patrol_21 : decode cL_patrol 21 = .ok (.astore 6, 2) := by decide +kernel
theorem dL_patrol_23 : decode cL_patrol 23 = .ok (.iconst 2, 1) := by decide +kernel
theorem dL_patrol_24 : decode cL_patrol 24 = .ok (.ireturn, 1) := by decide +kernel
theorem dL_patrol_25 : decode cL_patrol 25 = .ok (.astore 6, 2) := by decide +kernel
theorem dL_patrol_27 : decode cL_patrol 27 = .ok (.iconst 3, 1) := by decide +kernel
theorem dL_patrol_28 : decode cL_patrol 28 = .ok (.ireturn, 1) := by decide +kernel
theorem dL_patrol_29 : decode cL_patrol 29 = .ok (.iconst 0, 1) := by decide +kernel
theorem dL_patrol_30 : decode cL_patrol 30 = .ok (.ireturn, 1) := by decide +kernel
theorem dL_crowd_0 : decode cL_crowd 0 = .ok (.aload_n 3, 1) := by decide +kernel
theorem dL_crowd_1 : decode cL_crowd 1 = .ok (.iconst 0, 1) := by decide +kernel
theorem dL_crowd_2 : decode cL_crowd 2 = .ok (.aload_n 0, 1) := by decide +kernel
theorem dL_crowd_3 : decode cL_crowd 3 = .ok (.iload_n 1, 1) := by decide +kernel
theorem dL_crowd_4 : decode cL_crowd 4 = .ok (.iload_n 2, 1) := by decide +kernel
theorem dL_crowd_5 : decode cL_crowd 5 = .ok (.invokevirtual 41, 3) := by decide +kernel
theorem dL_crowd_8 : decode cL_crowd 8 = .ok (.i2l, 1) := by decide +kernel
theorem dL_crowd_9 : decode cL_crowd 9 = .ok (.lastore, 1) := by decide +kernel
theorem dL_crowd_10 : decode cL_crowd 10 = .ok (.goto 7, 3) := by decide +kernel
theorem dL_crowd_13 : decode cL_crowd 13 = .ok (.astore 4, 2) := by decide +kernel
theorem dL_crowd_15 : decode cL_crowd 15 = .ok (.iconst 1, 1) := by decide +kernel
theorem dL_crowd_16 : decode cL_crowd 16 = .ok (.ireturn, 1) := by decide +kernel
theorem dL_crowd_17 : decode cL_crowd 17 = .ok (.iconst 0, 1) := by decide +kernel
theorem dL_crowd_18 : decode cL_crowd 18 = .ok (.ireturn, 1) := by decide +kernel
theorem dL_guard_0 : decode cL_guard 0 = .ok (.aload_n 3, 1) := by decide +kernel
theorem dL_guard_1 : decode cL_guard 1 = .ok (.iconst 0, 1) := by decide +kernel
theorem dL_guard_2 : decode cL_guard 2 = .ok (.aload_n 0, 1) := by decide +kernel
theorem dL_guard_3 : decode cL_guard 3 = .ok (.iload_n 1, 1) := by decide +kernel
theorem dL_guard_4 : decode cL_guard 4 = .ok (.iload_n 2, 1) := by decide +kernel
theorem dL_guard_5 : decode cL_guard 5 = .ok (.invokevirtual 44, 3) := by decide +kernel
theorem dL_guard_8 : decode cL_guard 8 = .ok (.i2l, 1) := by decide +kernel
theorem dL_guard_9 : decode cL_guard 9 = .ok (.lastore, 1) := by decide +kernel
theorem dL_guard_10 : decode cL_guard 10 = .ok (.goto 7, 3) := by decide +kernel
theorem dL_guard_13 : decode cL_guard 13 = .ok (.astore 4, 2) := by decide +kernel
theorem dL_guard_15 : decode cL_guard 15 = .ok (.iconst 1, 1) := by decide +kernel
theorem dL_guard_16 : decode cL_guard 16 = .ok (.ireturn, 1) := by decide +kernel
theorem dL_guard_17 : decode cL_guard 17 = .ok (.iconst 0, 1) := by decide +kernel
theorem dL_guard_18 : decode cL_guard 18 = .ok (.ireturn, 1) := by decide +kernel
theorem dL_sees_0 : decode cL_sees 0 = .ok (.aload_n 3, 1) := by decide +kernel
theorem dL_sees_1 : decode cL_sees 1 = .ok (.iconst 0, 1) := by decide +kernel
theorem dL_sees_2 : decode cL_sees 2 = .ok (.aload_n 0, 1) := by decide +kernel
theorem dL_sees_3 : decode cL_sees 3 = .ok (.iload_n 1, 1) := by decide +kernel
theorem dL_sees_4 : decode cL_sees 4 = .ok (.iload_n 2, 1) := by decide +kernel
theorem dL_sees_5 : decode cL_sees 5 = .ok (.invokevirtual 47, 3) := by decide +kernel
theorem dL_sees_8 : decode cL_sees 8 = .ok (.ifCond .eq 7, 3) := by decide +kernel
theorem dL_sees_11 : decode cL_sees 11 = .ok (.lconst 1, 1) := by decide +kernel
theorem dL_sees_12 : decode cL_sees 12 = .ok (.goto 4, 3) := by decide +kernel
theorem dL_sees_15 : decode cL_sees 15 = .ok (.lconst 0, 1) := by decide +kernel
theorem dL_sees_16 : decode cL_sees 16 = .ok (.lastore, 1) := by decide +kernel
theorem dL_sees_17 : decode cL_sees 17 = .ok (.goto 7, 3) := by decide +kernel
theorem dL_sees_20 : decode cL_sees 20 = .ok (.astore 4, 2) := by decide +kernel
theorem dL_sees_22 : decode cL_sees 22 = .ok (.iconst 1, 1) := by decide +kernel
theorem dL_sees_23 : decode cL_sees 23 = .ok (.ireturn, 1) := by decide +kernel
theorem dL_sees_24 : decode cL_sees 24 = .ok (.iconst 0, 1) := by decide +kernel
theorem dL_sees_25 : decode cL_sees 25 = .ok (.ireturn, 1) := by decide +kernel
theorem dL_count_0 : decode cL_count 0 = .ok (.aload_n 2, 1) := by decide +kernel
theorem dL_count_1 : decode cL_count 1 = .ok (.iconst 0, 1) := by decide +kernel
theorem dL_count_2 : decode cL_count 2 = .ok (.aload_n 0, 1) := by decide +kernel
theorem dL_count_3 : decode cL_count 3 = .ok (.iload_n 1, 1) := by decide +kernel
theorem dL_count_4 : decode cL_count 4 = .ok (.invokevirtual 50, 3) := by decide +kernel
theorem dL_count_7 : decode cL_count 7 = .ok (.i2l, 1) := by decide +kernel
theorem dL_count_8 : decode cL_count 8 = .ok (.lastore, 1) := by decide +kernel
theorem dL_count_9 : decode cL_count 9 = .ok (.goto 6, 3) := by decide +kernel
theorem dL_count_12 : decode cL_count 12 = .ok (.astore_n 3, 1) := by decide +kernel
theorem dL_count_13 : decode cL_count 13 = .ok (.iconst 1, 1) := by decide +kernel
theorem dL_count_14 : decode cL_count 14 = .ok (.ireturn, 1) := by decide +kernel
theorem dL_count_15 : decode cL_count 15 = .ok (.iconst 0, 1) := by decide +kernel
theorem dL_count_16 : decode cL_count 16 = .ok (.ireturn, 1) := by decide +kernel
theorem dL_way_0 : decode cL_way 0 = .ok (.aload 5, 2) := by decide +kernel
theorem dL_way_2 : decode cL_way 2 = .ok (.iconst 0, 1) := by decide +kernel
theorem dL_way_3 : decode cL_way 3 = .ok (.aload_n 0, 1) := by decide +kernel
theorem dL_way_4 : decode cL_way 4 = .ok (.iload_n 1, 1) := by decide +kernel
theorem dL_way_5 : decode cL_way 5 = .ok (.iload_n 2, 1) := by decide +kernel
theorem dL_way_6 : decode cL_way 6 = .ok (.iload_n 3, 1) := by decide +kernel
theorem dL_way_7 : decode cL_way 7 = .ok (.iload 4, 2) := by decide +kernel
theorem dL_way_9 : decode cL_way 9 = .ok (.invokevirtual 54, 3) := by decide +kernel
theorem dL_way_12 : decode cL_way 12 = .ok (.i2l, 1) := by decide +kernel
theorem dL_way_13 : decode cL_way 13 = .ok (.lastore, 1) := by decide +kernel
theorem dL_way_14 : decode cL_way 14 = .ok (.goto 7, 3) := by decide +kernel
theorem dL_way_17 : decode cL_way 17 = .ok (.astore 6, 2) := by decide +kernel
theorem dL_way_19 : decode cL_way 19 = .ok (.iconst 1, 1) := by decide +kernel
theorem dL_way_20 : decode cL_way 20 = .ok (.ireturn, 1) := by decide +kernel
theorem dL_way_21 : decode cL_way 21 = .ok (.iconst 0, 1) := by decide +kernel
theorem dL_way_22 : decode cL_way 22 = .ok (.ireturn, 1) := by decide +kernel
theorem dL_pass_0 : decode cL_pass 0 = .ok (.aload_n 2, 1) := by decide +kernel
theorem dL_pass_1 : decode cL_pass 1 = .ok (.iconst 0, 1) := by decide +kernel
theorem dL_pass_2 : decode cL_pass 2 = .ok (.aload_n 0, 1) := by decide +kernel
theorem dL_pass_3 : decode cL_pass 3 = .ok (.iload_n 1, 1) := by decide +kernel
theorem dL_pass_4 : decode cL_pass 4 = .ok (.invokevirtual 57, 3) := by decide +kernel
theorem dL_pass_7 : decode cL_pass 7 = .ok (.i2l, 1) := by decide +kernel
theorem dL_pass_8 : decode cL_pass 8 = .ok (.lastore, 1) := by decide +kernel
theorem dL_pass_9 : decode cL_pass 9 = .ok (.goto 6, 3) := by decide +kernel
theorem dL_pass_12 : decode cL_pass 12 = .ok (.astore_n 3, 1) := by decide +kernel
theorem dL_pass_13 : decode cL_pass 13 = .ok (.iconst 1, 1) := by decide +kernel
theorem dL_pass_14 : decode cL_pass 14 = .ok (.ireturn, 1) := by decide +kernel
theorem dL_pass_15 : decode cL_pass 15 = .ok (.iconst 0, 1) := by decide +kernel
theorem dL_pass_16 : decode cL_pass 16 = .ok (.ireturn, 1) := by decide +kernel
theorem dL_foresee_0 : decode cL_foresee 0 = .ok (.aload_n 3, 1) := by decide +kernel
theorem dL_foresee_1 : decode cL_foresee 1 = .ok (.iconst 0, 1) := by decide +kernel
theorem dL_foresee_2 : decode cL_foresee 2 = .ok (.aload_n 0, 1) := by decide +kernel
theorem dL_foresee_3 : decode cL_foresee 3 = .ok (.iload_n 1, 1) := by decide +kernel
theorem dL_foresee_4 : decode cL_foresee 4 = .ok (.iload_n 2, 1) := by decide +kernel
theorem dL_foresee_5 : decode cL_foresee 5 = .ok (.invokevirtual 60, 3) := by decide +kernel
theorem dL_foresee_8 : decode cL_foresee 8 = .ok (.i2l, 1) := by decide +kernel
theorem dL_foresee_9 : decode cL_foresee 9 = .ok (.lastore, 1) := by decide +kernel
theorem dL_foresee_10 : decode cL_foresee 10 = .ok (.goto 11, 3) := by decide +kernel
theorem dL_foresee_13 : decode cL_foresee 13 = .ok (.astore 4, 2) := by decide +kernel
theorem dL_foresee_15 : decode cL_foresee 15 = .ok (.iconst 1, 1) := by decide +kernel
theorem dL_foresee_16 : decode cL_foresee 16 = .ok (.ireturn, 1) := by decide +kernel
theorem dL_foresee_17 : decode cL_foresee 17 = .ok (.astore 4, 2) := by decide +kernel
theorem dL_foresee_19 : decode cL_foresee 19 = .ok (.iconst 2, 1) := by decide +kernel
theorem dL_foresee_20 : decode cL_foresee 20 = .ok (.ireturn, 1) := by decide +kernel
theorem dL_foresee_21 : decode cL_foresee 21 = .ok (.iconst 0, 1) := by decide +kernel
theorem dL_foresee_22 : decode cL_foresee 22 = .ok (.ireturn, 1) := by decide +kernel
theorem dL_advise_0 : decode cL_advise 0 = .ok (.aload_n 2, 1) := by decide +kernel
theorem dL_advise_1 : decode cL_advise 1 = .ok (.iconst 0, 1) := by decide +kernel
theorem dL_advise_2 : decode cL_advise 2 = .ok (.aload_n 0, 1) := by decide +kernel
theorem dL_advise_3 : decode cL_advise 3 = .ok (.iload_n 1, 1) := by decide +kernel
theorem dL_advise_4 : decode cL_advise 4 = .ok (.invokevirtual 63, 3) := by decide +kernel
theorem dL_advise_7 : decode cL_advise 7 = .ok (.i2l, 1) := by decide +kernel
theorem dL_advise_8 : decode cL_advise 8 = .ok (.lastore, 1) := by decide +kernel
theorem dL_advise_9 : decode cL_advise 9 = .ok (.goto 6, 3) := by decide +kernel
theorem dL_advise_12 : decode cL_advise 12 = .ok (.astore_n 3, 1) := by decide +kernel
theorem dL_advise_13 : decode cL_advise 13 = .ok (.iconst 1, 1) := by decide +kernel
theorem dL_advise_14 : decode cL_advise 14 = .ok (.ireturn, 1) := by decide +kernel
theorem dL_advise_15 : decode cL_advise 15 = .ok (.iconst 0, 1) := by decide +kernel
theorem dL_advise_16 : decode cL_advise 16 = .ok (.ireturn, 1) := by decide +kernel
theorem dL_law_0 : decode cL_law 0 = .ok (.new 8, 3) := by decide +kernel
theorem dL_law_3 : decode cL_law 3 = .ok (.dup, 1) := by decide +kernel
theorem dL_law_4 : decode cL_law 4 = .ok (.invokespecial 66, 3) := by decide +kernel
theorem dL_law_7 : decode cL_law 7 = .ok (.astore_n 1, 1) := by decide +kernel
theorem dL_law_8 : decode cL_law 8 = .ok (.new 67, 3) := by decide +kernel
theorem dL_law_11 : decode cL_law 11 = .ok (.dup, 1) := by decide +kernel
theorem dL_law_12 : decode cL_law 12 = .ok (.invokespecial 69, 3) := by decide +kernel
theorem dL_law_15 : decode cL_law 15 = .ok (.astore_n 2, 1) := by decide +kernel
theorem dL_law_16 : decode cL_law 16 = .ok (.iconst 1, 1) := by decide +kernel
theorem dL_law_17 : decode cL_law 17 = .ok (.newarray .long, 2) := by decide +kernel
theorem dL_law_19 : decode cL_law 19 = .ok (.astore_n 3, 1) := by decide +kernel
theorem dL_law_20 : decode cL_law 20 = .ok (.iconst 0, 1) := by decide +kernel
theorem dL_law_21 : decode cL_law 21 = .ok (.istore 4, 2) := by decide +kernel
theorem dL_law_23 : decode cL_law 23 = .ok (.iload 4, 2) := by decide +kernel
theorem dL_law_25 : decode cL_law 25 = .ok (.aload_n 0, 1) := by decide +kernel
theorem dL_law_26 : decode cL_law 26 = .ok (.arraylength, 1) := by decide +kernel
theorem dL_law_27 : decode cL_law 27 = .ok (.iconst 5, 1) := by decide +kernel
theorem dL_law_28 : decode cL_law 28 = .ok (.isub, 1) := by decide +kernel
theorem dL_law_29 : decode cL_law 29 = .ok (.if_icmp .gt 1234, 3) := by decide +kernel
theorem dL_law_32 : decode cL_law 32 = .ok (.aload_n 0, 1) := by decide +kernel
theorem dL_law_33 : decode cL_law 33 = .ok (.iload 4, 2) := by decide +kernel
theorem dL_law_35 : decode cL_law 35 = .ok (.iaload, 1) := by decide +kernel
theorem dL_law_36 : decode cL_law 36 = .ok (.bipush 31, 2) := by decide +kernel
theorem dL_law_38 : decode cL_law 38 = .ok (.iand, 1) := by decide +kernel
theorem dL_law_39 : decode cL_law 39 = .ok (.tableswitch 1218 0 17 #[85, 160, 240, 308, 388, 456, 519, 611, 679, 747, 822, 878, 970, 983, 1039, 1107, 1163, 1204], 85) := by decide +kernel
theorem dL_law_124 : decode cL_law 124 = .ok (.aload_n 1, 1) := by decide +kernel
theorem dL_law_125 : decode cL_law 125 = .ok (.aload_n 0, 1) := by decide +kernel
theorem dL_law_126 : decode cL_law 126 = .ok (.iload 4, 2) := by decide +kernel
theorem dL_law_128 : decode cL_law 128 = .ok (.iconst 1, 1) := by decide +kernel
theorem dL_law_129 : decode cL_law 129 = .ok (.iadd, 1) := by decide +kernel
theorem dL_law_130 : decode cL_law 130 = .ok (.iaload, 1) := by decide +kernel
theorem dL_law_131 : decode cL_law 131 = .ok (.aload_n 0, 1) := by decide +kernel
theorem dL_law_132 : decode cL_law 132 = .ok (.iload 4, 2) := by decide +kernel
theorem dL_law_134 : decode cL_law 134 = .ok (.iconst 2, 1) := by decide +kernel
theorem dL_law_135 : decode cL_law 135 = .ok (.iadd, 1) := by decide +kernel
theorem dL_law_136 : decode cL_law 136 = .ok (.iaload, 1) := by decide +kernel
theorem dL_law_137 : decode cL_law 137 = .ok (.aload_n 3, 1) := by decide +kernel
theorem dL_law_138 : decode cL_law 138 = .ok (.invokestatic 70, 3) := by decide +kernel
theorem dL_law_141 : decode cL_law 141 = .ok (.istore 5, 2) := by decide +kernel
theorem dL_law_143 : decode cL_law 143 = .ok (.aload_n 2, 1) := by decide +kernel
theorem dL_law_144 : decode cL_law 144 = .ok (.aload_n 0, 1) := by decide +kernel
theorem dL_law_145 : decode cL_law 145 = .ok (.iload 4, 2) := by decide +kernel
theorem dL_law_147 : decode cL_law 147 = .ok (.iconst 1, 1) := by decide +kernel
theorem dL_law_148 : decode cL_law 148 = .ok (.iadd, 1) := by decide +kernel
theorem dL_law_149 : decode cL_law 149 = .ok (.iaload, 1) := by decide +kernel
theorem dL_law_150 : decode cL_law 150 = .ok (.aload_n 0, 1) := by decide +kernel
theorem dL_law_151 : decode cL_law 151 = .ok (.iload 4, 2) := by decide +kernel
theorem dL_law_153 : decode cL_law 153 = .ok (.iconst 2, 1) := by decide +kernel
theorem dL_law_154 : decode cL_law 154 = .ok (.iadd, 1) := by decide +kernel
theorem dL_law_155 : decode cL_law 155 = .ok (.iaload, 1) := by decide +kernel
theorem dL_law_156 : decode cL_law 156 = .ok (.invokevirtual 75, 3) := by decide +kernel
theorem dL_law_159 : decode cL_law 159 = .ok (.istore 6, 2) := by decide +kernel
theorem dL_law_161 : decode cL_law 161 = .ok (.aload_n 2, 1) := by decide +kernel
theorem dL_law_162 : decode cL_law 162 = .ok (.invokevirtual 76, 3) := by decide +kernel
theorem dL_law_165 : decode cL_law 165 = .ok (.iload 5, 2) := by decide +kernel
theorem dL_law_167 : decode cL_law 167 = .ok (.if_icmp .eq 5, 3) := by decide +kernel
theorem dL_law_170 : decode cL_law 170 = .ok (.iconst 0, 1) := by decide +kernel
theorem dL_law_171 : decode cL_law 171 = .ok (.ireturn, 1) := by decide +kernel
theorem dL_law_172 : decode cL_law 172 = .ok (.iload 5, 2) := by decide +kernel
theorem dL_law_174 : decode cL_law 174 = .ok (.ifCond .ne 22, 3) := by decide +kernel
theorem dL_law_177 : decode cL_law 177 = .ok (.aload_n 3, 1) := by decide +kernel
theorem dL_law_178 : decode cL_law 178 = .ok (.iconst 0, 1) := by decide +kernel
theorem dL_law_179 : decode cL_law 179 = .ok (.laload, 1) := by decide +kernel
theorem dL_law_180 : decode cL_law 180 = .ok (.iload 6, 2) := by decide +kernel
theorem dL_law_182 : decode cL_law 182 = .ok (.ifCond .eq 7, 3) := by decide +kernel
theorem dL_law_185 : decode cL_law 185 = .ok (.lconst 1, 1) := by decide +kernel
theorem dL_law_186 : decode cL_law 186 = .ok (.goto 4, 3) := by decide +kernel
theorem dL_law_189 : decode cL_law 189 = .ok (.lconst 0, 1) := by decide +kernel
theorem dL_law_190 : decode cL_law 190 = .ok (.lcmp, 1) := by decide +kernel
theorem dL_law_191 : decode cL_law 191 = .ok (.ifCond .eq 5, 3) := by decide +kernel
theorem dL_law_194 : decode cL_law 194 = .ok (.iconst 0, 1) := by decide +kernel
theorem dL_law_195 : decode cL_law 195 = .ok (.ireturn, 1) := by decide +kernel
theorem dL_law_196 : decode cL_law 196 = .ok (.goto 1061, 3) := by decide +kernel
theorem dL_law_199 : decode cL_law 199 = .ok (.aload_n 1, 1) := by decide +kernel
theorem dL_law_200 : decode cL_law 200 = .ok (.aload_n 0, 1) := by decide +kernel
theorem dL_law_201 : decode cL_law 201 = .ok (.iload 4, 2) := by decide +kernel
theorem dL_law_203 : decode cL_law 203 = .ok (.iconst 1, 1) := by decide +kernel
theorem dL_law_204 : decode cL_law 204 = .ok (.iadd, 1) := by decide +kernel
theorem dL_law_205 : decode cL_law 205 = .ok (.iaload, 1) := by decide +kernel
theorem dL_law_206 : decode cL_law 206 = .ok (.aload_n 0, 1) := by decide +kernel
theorem dL_law_207 : decode cL_law 207 = .ok (.iload 4, 2) := by decide +kernel
theorem dL_law_209 : decode cL_law 209 = .ok (.iconst 2, 1) := by decide +kernel
theorem dL_law_210 : decode cL_law 210 = .ok (.iadd, 1) := by decide +kernel
theorem dL_law_211 : decode cL_law 211 = .ok (.iaload, 1) := by decide +kernel
theorem dL_law_212 : decode cL_law 212 = .ok (.aload_n 0, 1) := by decide +kernel
theorem dL_law_213 : decode cL_law 213 = .ok (.iload 4, 2) := by decide +kernel
theorem dL_law_215 : decode cL_law 215 = .ok (.iconst 3, 1) := by decide +kernel
theorem dL_law_216 : decode cL_law 216 = .ok (.iadd, 1) := by decide +kernel
theorem dL_law_217 : decode cL_law 217 = .ok (.iaload, 1) := by decide +kernel
theorem dL_law_218 : decode cL_law 218 = .ok (.aload_n 3, 1) := by decide +kernel
theorem dL_law_219 : decode cL_law 219 = .ok (.invokestatic 80, 3) := by decide +kernel
theorem dL_law_222 : decode cL_law 222 = .ok (.istore 5, 2) := by decide +kernel
theorem dL_law_224 : decode cL_law 224 = .ok (.aload_n 2, 1) := by decide +kernel
theorem dL_law_225 : decode cL_law 225 = .ok (.aload_n 0, 1) := by decide +kernel
theorem dL_law_226 : decode cL_law 226 = .ok (.iload 4, 2) := by decide +kernel
theorem dL_law_228 : decode cL_law 228 = .ok (.iconst 1, 1) := by decide +kernel
theorem dL_law_229 : decode cL_law 229 = .ok (.iadd, 1) := by decide +kernel
theorem dL_law_230 : decode cL_law 230 = .ok (.iaload, 1) := by decide +kernel
theorem dL_law_231 : decode cL_law 231 = .ok (.aload_n 0, 1) := by decide +kernel
theorem dL_law_232 : decode cL_law 232 = .ok (.iload 4, 2) := by decide +kernel
theorem dL_law_234 : decode cL_law 234 = .ok (.iconst 2, 1) := by decide +kernel
theorem dL_law_235 : decode cL_law 235 = .ok (.iadd, 1) := by decide +kernel
theorem dL_law_236 : decode cL_law 236 = .ok (.iaload, 1) := by decide +kernel
theorem dL_law_237 : decode cL_law 237 = .ok (.aload_n 0, 1) := by decide +kernel
theorem dL_law_238 : decode cL_law 238 = .ok (.iload 4, 2) := by decide +kernel
theorem dL_law_240 : decode cL_law 240 = .ok (.iconst 3, 1) := by decide +kernel
theorem dL_law_241 : decode cL_law 241 = .ok (.iadd, 1) := by decide +kernel
theorem dL_law_242 : decode cL_law 242 = .ok (.iaload, 1) := by decide +kernel
theorem dL_law_243 : decode cL_law 243 = .ok (.invokevirtual 83, 3) := by decide +kernel
theorem dL_law_246 : decode cL_law 246 = .ok (.istore 6, 2) := by decide +kernel
theorem dL_law_248 : decode cL_law 248 = .ok (.aload_n 2, 1) := by decide +kernel
theorem dL_law_249 : decode cL_law 249 = .ok (.invokevirtual 76, 3) := by decide +kernel
theorem dL_law_252 : decode cL_law 252 = .ok (.iload 5, 2) := by decide +kernel
theorem dL_law_254 : decode cL_law 254 = .ok (.if_icmp .eq 5, 3) := by decide +kernel
theorem dL_law_257 : decode cL_law 257 = .ok (.iconst 0, 1) := by decide +kernel
theorem dL_law_258 : decode cL_law 258 = .ok (.ireturn, 1) := by decide +kernel
theorem dL_law_259 : decode cL_law 259 = .ok (.iload 5, 2) := by decide +kernel
theorem dL_law_261 : decode cL_law 261 = .ok (.ifCond .ne 15, 3) := by decide +kernel
theorem dL_law_264 : decode cL_law 264 = .ok (.aload_n 3, 1) := by decide +kernel
theorem dL_law_265 : decode cL_law 265 = .ok (.iconst 0, 1) := by decide +kernel
theorem dL_law_266 : decode cL_law 266 = .ok (.laload, 1) := by decide +kernel
theorem dL_law_267 : decode cL_law 267 = .ok (.iload 6, 2) := by decide +kernel
theorem dL_law_269 : decode cL_law 269 = .ok (.i2l, 1) := by decide +kernel
theorem dL_law_270 : decode cL_law 270 = .ok (.lcmp, 1) := by decide +kernel
theorem dL_law_271 : decode cL_law 271 = .ok (.ifCond .eq 5, 3) := by decide +kernel
theorem dL_law_274 : decode cL_law 274 = .ok (.iconst 0, 1) := by decide +kernel
theorem dL_law_275 : decode cL_law 275 = .ok (.ireturn, 1) := by decide +kernel
theorem dL_law_276 : decode cL_law 276 = .ok (.goto 981, 3) := by decide +kernel
theorem dL_law_279 : decode cL_law 279 = .ok (.aload_n 1, 1) := by decide +kernel
theorem dL_law_280 : decode cL_law 280 = .ok (.aload_n 0, 1) := by decide +kernel
theorem dL_law_281 : decode cL_law 281 = .ok (.iload 4, 2) := by decide +kernel
theorem dL_law_283 : decode cL_law 283 = .ok (.iconst 1, 1) := by decide +kernel
theorem dL_law_284 : decode cL_law 284 = .ok (.iadd, 1) := by decide +kernel
theorem dL_law_285 : decode cL_law 285 = .ok (.iaload, 1) := by decide +kernel
theorem dL_law_286 : decode cL_law 286 = .ok (.aload_n 0, 1) := by decide +kernel
theorem dL_law_287 : decode cL_law 287 = .ok (.iload 4, 2) := by decide +kernel
theorem dL_law_289 : decode cL_law 289 = .ok (.iconst 2, 1) := by decide +kernel
theorem dL_law_290 : decode cL_law 290 = .ok (.iadd, 1) := by decide +kernel
theorem dL_law_291 : decode cL_law 291 = .ok (.iaload, 1) := by decide +kernel
theorem dL_law_292 : decode cL_law 292 = .ok (.aload_n 3, 1) := by decide +kernel
theorem dL_law_293 : decode cL_law 293 = .ok (.invokestatic 84, 3) := by decide +kernel
theorem dL_law_296 : decode cL_law 296 = .ok (.istore 5, 2) := by decide +kernel
theorem dL_law_298 : decode cL_law 298 = .ok (.aload_n 2, 1) := by decide +kernel
theorem dL_law_299 : decode cL_law 299 = .ok (.aload_n 0, 1) := by decide +kernel
theorem dL_law_300 : decode cL_law 300 = .ok (.iload 4, 2) := by decide +kernel
theorem dL_law_302 : decode cL_law 302 = .ok (.iconst 1, 1) := by decide +kernel
theorem dL_law_303 : decode cL_law 303 = .ok (.iadd, 1) := by decide +kernel
theorem dL_law_304 : decode cL_law 304 = .ok (.iaload, 1) := by decide +kernel
theorem dL_law_305 : decode cL_law 305 = .ok (.aload_n 0, 1) := by decide +kernel
theorem dL_law_306 : decode cL_law 306 = .ok (.iload 4, 2) := by decide +kernel
theorem dL_law_308 : decode cL_law 308 = .ok (.iconst 2, 1) := by decide +kernel
theorem dL_law_309 : decode cL_law 309 = .ok (.iadd, 1) := by decide +kernel
theorem dL_law_310 : decode cL_law 310 = .ok (.iaload, 1) := by decide +kernel
theorem dL_law_311 : decode cL_law 311 = .ok (.invokevirtual 86, 3) := by decide +kernel
theorem dL_law_314 : decode cL_law 314 = .ok (.istore 6, 2) := by decide +kernel
theorem dL_law_316 : decode cL_law 316 = .ok (.aload_n 2, 1) := by decide +kernel
theorem dL_law_317 : decode cL_law 317 = .ok (.invokevirtual 76, 3) := by decide +kernel
theorem dL_law_320 : decode cL_law 320 = .ok (.iload 5, 2) := by decide +kernel
theorem dL_law_322 : decode cL_law 322 = .ok (.if_icmp .eq 5, 3) := by decide +kernel
theorem dL_law_325 : decode cL_law 325 = .ok (.iconst 0, 1) := by decide +kernel
theorem dL_law_326 : decode cL_law 326 = .ok (.ireturn, 1) := by decide +kernel
theorem dL_law_327 : decode cL_law 327 = .ok (.iload 5, 2) := by decide +kernel
theorem dL_law_329 : decode cL_law 329 = .ok (.ifCond .ne 15, 3) := by decide +kernel
theorem dL_law_332 : decode cL_law 332 = .ok (.aload_n 3, 1) := by decide +kernel
theorem dL_law_333 : decode cL_law 333 = .ok (.iconst 0, 1) := by decide +kernel
theorem dL_law_334 : decode cL_law 334 = .ok (.laload, 1) := by decide +kernel
theorem dL_law_335 : decode cL_law 335 = .ok (.iload 6, 2) := by decide +kernel
theorem dL_law_337 : decode cL_law 337 = .ok (.i2l, 1) := by decide +kernel
theorem dL_law_338 : decode cL_law 338 = .ok (.lcmp, 1) := by decide +kernel
theorem dL_law_339 : decode cL_law 339 = .ok (.ifCond .eq 5, 3) := by decide +kernel
theorem dL_law_342 : decode cL_law 342 = .ok (.iconst 0, 1) := by decide +kernel
theorem dL_law_343 : decode cL_law 343 = .ok (.ireturn, 1) := by decide +kernel
theorem dL_law_344 : decode cL_law 344 = .ok (.goto 913, 3) := by decide +kernel
theorem dL_law_347 : decode cL_law 347 = .ok (.aload_n 1, 1) := by decide +kernel
theorem dL_law_348 : decode cL_law 348 = .ok (.aload_n 0, 1) := by decide +kernel
theorem dL_law_349 : decode cL_law 349 = .ok (.iload 4, 2) := by decide +kernel
theorem dL_law_351 : decode cL_law 351 = .ok (.iconst 1, 1) := by decide +kernel
theorem dL_law_352 : decode cL_law 352 = .ok (.iadd, 1) := by decide +kernel
theorem dL_law_353 : decode cL_law 353 = .ok (.iaload, 1) := by decide +kernel
theorem dL_law_354 : decode cL_law 354 = .ok (.aload_n 0, 1) := by decide +kernel
theorem dL_law_355 : decode cL_law 355 = .ok (.iload 4, 2) := by decide +kernel
theorem dL_law_357 : decode cL_law 357 = .ok (.iconst 2, 1) := by decide +kernel
theorem dL_law_358 : decode cL_law 358 = .ok (.iadd, 1) := by decide +kernel
theorem dL_law_359 : decode cL_law 359 = .ok (.iaload, 1) := by decide +kernel
theorem dL_law_360 : decode cL_law 360 = .ok (.aload_n 0, 1) := by decide +kernel
theorem dL_law_361 : decode cL_law 361 = .ok (.iload 4, 2) := by decide +kernel
theorem dL_law_363 : decode cL_law 363 = .ok (.iconst 3, 1) := by decide +kernel
theorem dL_law_364 : decode cL_law 364 = .ok (.iadd, 1) := by decide +kernel
theorem dL_law_365 : decode cL_law 365 = .ok (.iaload, 1) := by decide +kernel
theorem dL_law_366 : decode cL_law 366 = .ok (.aload_n 3, 1) := by decide +kernel
theorem dL_law_367 : decode cL_law 367 = .ok (.invokestatic 87, 3) := by decide +kernel
theorem dL_law_370 : decode cL_law 370 = .ok (.istore 5, 2) := by decide +kernel
theorem dL_law_372 : decode cL_law 372 = .ok (.aload_n 2, 1) := by decide +kernel
theorem dL_law_373 : decode cL_law 373 = .ok (.aload_n 0, 1) := by decide +kernel
theorem dL_law_374 : decode cL_law 374 = .ok (.iload 4, 2) := by decide +kernel
theorem dL_law_376 : decode cL_law 376 = .ok (.iconst 1, 1) := by decide +kernel
theorem dL_law_377 : decode cL_law 377 = .ok (.iadd, 1) := by decide +kernel
theorem dL_law_378 : decode cL_law 378 = .ok (.iaload, 1) := by decide +kernel
theorem dL_law_379 : decode cL_law 379 = .ok (.aload_n 0, 1) := by decide +kernel
theorem dL_law_380 : decode cL_law 380 = .ok (.iload 4, 2) := by decide +kernel
theorem dL_law_382 : decode cL_law 382 = .ok (.iconst 2, 1) := by decide +kernel
theorem dL_law_383 : decode cL_law 383 = .ok (.iadd, 1) := by decide +kernel
theorem dL_law_384 : decode cL_law 384 = .ok (.iaload, 1) := by decide +kernel
theorem dL_law_385 : decode cL_law 385 = .ok (.aload_n 0, 1) := by decide +kernel
theorem dL_law_386 : decode cL_law 386 = .ok (.iload 4, 2) := by decide +kernel
theorem dL_law_388 : decode cL_law 388 = .ok (.iconst 3, 1) := by decide +kernel
theorem dL_law_389 : decode cL_law 389 = .ok (.iadd, 1) := by decide +kernel
theorem dL_law_390 : decode cL_law 390 = .ok (.iaload, 1) := by decide +kernel
theorem dL_law_391 : decode cL_law 391 = .ok (.invokevirtual 89, 3) := by decide +kernel
theorem dL_law_394 : decode cL_law 394 = .ok (.istore 6, 2) := by decide +kernel
theorem dL_law_396 : decode cL_law 396 = .ok (.aload_n 2, 1) := by decide +kernel
theorem dL_law_397 : decode cL_law 397 = .ok (.invokevirtual 76, 3) := by decide +kernel
theorem dL_law_400 : decode cL_law 400 = .ok (.iload 5, 2) := by decide +kernel
theorem dL_law_402 : decode cL_law 402 = .ok (.if_icmp .eq 5, 3) := by decide +kernel
theorem dL_law_405 : decode cL_law 405 = .ok (.iconst 0, 1) := by decide +kernel
theorem dL_law_406 : decode cL_law 406 = .ok (.ireturn, 1) := by decide +kernel
theorem dL_law_407 : decode cL_law 407 = .ok (.iload 5, 2) := by decide +kernel
theorem dL_law_409 : decode cL_law 409 = .ok (.ifCond .ne 15, 3) := by decide +kernel
theorem dL_law_412 : decode cL_law 412 = .ok (.aload_n 3, 1) := by decide +kernel
theorem dL_law_413 : decode cL_law 413 = .ok (.iconst 0, 1) := by decide +kernel
theorem dL_law_414 : decode cL_law 414 = .ok (.laload, 1) := by decide +kernel
theorem dL_law_415 : decode cL_law 415 = .ok (.iload 6, 2) := by decide +kernel
theorem dL_law_417 : decode cL_law 417 = .ok (.i2l, 1) := by decide +kernel
theorem dL_law_418 : decode cL_law 418 = .ok (.lcmp, 1) := by decide +kernel
theorem dL_law_419 : decode cL_law 419 = .ok (.ifCond .eq 5, 3) := by decide +kernel
theorem dL_law_422 : decode cL_law 422 = .ok (.iconst 0, 1) := by decide +kernel
theorem dL_law_423 : decode cL_law 423 = .ok (.ireturn, 1) := by decide +kernel
theorem dL_law_424 : decode cL_law 424 = .ok (.goto 833, 3) := by decide +kernel
theorem dL_law_427 : decode cL_law 427 = .ok (.aload_n 1, 1) := by decide +kernel
theorem dL_law_428 : decode cL_law 428 = .ok (.aload_n 0, 1) := by decide +kernel
theorem dL_law_429 : decode cL_law 429 = .ok (.iload 4, 2) := by decide +kernel
theorem dL_law_431 : decode cL_law 431 = .ok (.iconst 1, 1) := by decide +kernel
theorem dL_law_432 : decode cL_law 432 = .ok (.iadd, 1) := by decide +kernel
theorem dL_law_433 : decode cL_law 433 = .ok (.iaload, 1) := by decide +kernel
theorem dL_law_434 : decode cL_law 434 = .ok (.aload_n 0, 1) := by decide +kernel
theorem dL_law_435 : decode cL_law 435 = .ok (.iload 4, 2) := by decide +kernel
theorem dL_law_437 : decode cL_law 437 = .ok (.iconst 2, 1) := by decide +kernel
theorem dL_law_438 : decode cL_law 438 = .ok (.iadd, 1) := by decide +kernel
theorem dL_law_439 : decode cL_law 439 = .ok (.iaload, 1) := by decide +kernel
theorem dL_law_440 : decode cL_law 440 = .ok (.aload_n 3, 1) := by decide +kernel
theorem dL_law_441 : decode cL_law 441 = .ok (.invokestatic 90, 3) := by decide +kernel
theorem dL_law_444 : decode cL_law 444 = .ok (.istore 5, 2) := by decide +kernel
theorem dL_law_446 : decode cL_law 446 = .ok (.aload_n 2, 1) := by decide +kernel
theorem dL_law_447 : decode cL_law 447 = .ok (.aload_n 0, 1) := by decide +kernel
theorem dL_law_448 : decode cL_law 448 = .ok (.iload 4, 2) := by decide +kernel
theorem dL_law_450 : decode cL_law 450 = .ok (.iconst 1, 1) := by decide +kernel
theorem dL_law_451 : decode cL_law 451 = .ok (.iadd, 1) := by decide +kernel
theorem dL_law_452 : decode cL_law 452 = .ok (.iaload, 1) := by decide +kernel
theorem dL_law_453 : decode cL_law 453 = .ok (.aload_n 0, 1) := by decide +kernel
theorem dL_law_454 : decode cL_law 454 = .ok (.iload 4, 2) := by decide +kernel
theorem dL_law_456 : decode cL_law 456 = .ok (.iconst 2, 1) := by decide +kernel
theorem dL_law_457 : decode cL_law 457 = .ok (.iadd, 1) := by decide +kernel
theorem dL_law_458 : decode cL_law 458 = .ok (.iaload, 1) := by decide +kernel
theorem dL_law_459 : decode cL_law 459 = .ok (.invokevirtual 92, 3) := by decide +kernel
theorem dL_law_462 : decode cL_law 462 = .ok (.istore 6, 2) := by decide +kernel
theorem dL_law_464 : decode cL_law 464 = .ok (.aload_n 2, 1) := by decide +kernel
theorem dL_law_465 : decode cL_law 465 = .ok (.invokevirtual 76, 3) := by decide +kernel
theorem dL_law_468 : decode cL_law 468 = .ok (.iload 5, 2) := by decide +kernel
theorem dL_law_470 : decode cL_law 470 = .ok (.if_icmp .eq 5, 3) := by decide +kernel
theorem dL_law_473 : decode cL_law 473 = .ok (.iconst 0, 1) := by decide +kernel
theorem dL_law_474 : decode cL_law 474 = .ok (.ireturn, 1) := by decide +kernel
theorem dL_law_475 : decode cL_law 475 = .ok (.iload 5, 2) := by decide +kernel
theorem dL_law_477 : decode cL_law 477 = .ok (.ifCond .ne 15, 3) := by decide +kernel
theorem dL_law_480 : decode cL_law 480 = .ok (.aload_n 3, 1) := by decide +kernel
theorem dL_law_481 : decode cL_law 481 = .ok (.iconst 0, 1) := by decide +kernel
theorem dL_law_482 : decode cL_law 482 = .ok (.laload, 1) := by decide +kernel
theorem dL_law_483 : decode cL_law 483 = .ok (.iload 6, 2) := by decide +kernel
theorem dL_law_485 : decode cL_law 485 = .ok (.i2l, 1) := by decide +kernel
theorem dL_law_486 : decode cL_law 486 = .ok (.lcmp, 1) := by decide +kernel
theorem dL_law_487 : decode cL_law 487 = .ok (.ifCond .eq 5, 3) := by decide +kernel
theorem dL_law_490 : decode cL_law 490 = .ok (.iconst 0, 1) := by decide +kernel
theorem dL_law_491 : decode cL_law 491 = .ok (.ireturn, 1) := by decide +kernel
theorem dL_law_492 : decode cL_law 492 = .ok (.goto 765, 3) := by decide +kernel
theorem dL_law_495 : decode cL_law 495 = .ok (.aload_n 1, 1) := by decide +kernel
theorem dL_law_496 : decode cL_law 496 = .ok (.aload_n 0, 1) := by decide +kernel
theorem dL_law_497 : decode cL_law 497 = .ok (.iload 4, 2) := by decide +kernel
theorem dL_law_499 : decode cL_law 499 = .ok (.iconst 1, 1) := by decide +kernel
theorem dL_law_500 : decode cL_law 500 = .ok (.iadd, 1) := by decide +kernel
theorem dL_law_501 : decode cL_law 501 = .ok (.iaload, 1) := by decide +kernel
theorem dL_law_502 : decode cL_law 502 = .ok (.aload_n 3, 1) := by decide +kernel
theorem dL_law_503 : decode cL_law 503 = .ok (.invokestatic 93, 3) := by decide +kernel
theorem dL_law_506 : decode cL_law 506 = .ok (.istore 5, 2) := by decide +kernel
theorem dL_law_508 : decode cL_law 508 = .ok (.aload_n 2, 1) := by decide +kernel
theorem dL_law_509 : decode cL_law 509 = .ok (.aload_n 0, 1) := by decide +kernel
theorem dL_law_510 : decode cL_law 510 = .ok (.iload 4, 2) := by decide +kernel
theorem dL_law_512 : decode cL_law 512 = .ok (.iconst 1, 1) := by decide +kernel
theorem dL_law_513 : decode cL_law 513 = .ok (.iadd, 1) := by decide +kernel
theorem dL_law_514 : decode cL_law 514 = .ok (.iaload, 1) := by decide +kernel
theorem dL_law_515 : decode cL_law 515 = .ok (.invokevirtual 96, 3) := by decide +kernel
theorem dL_law_518 : decode cL_law 518 = .ok (.istore 6, 2) := by decide +kernel
theorem dL_law_520 : decode cL_law 520 = .ok (.aload_n 2, 1) := by decide +kernel
theorem dL_law_521 : decode cL_law 521 = .ok (.invokevirtual 76, 3) := by decide +kernel
theorem dL_law_524 : decode cL_law 524 = .ok (.iload 5, 2) := by decide +kernel
theorem dL_law_526 : decode cL_law 526 = .ok (.if_icmp .eq 5, 3) := by decide +kernel
theorem dL_law_529 : decode cL_law 529 = .ok (.iconst 0, 1) := by decide +kernel
theorem dL_law_530 : decode cL_law 530 = .ok (.ireturn, 1) := by decide +kernel
theorem dL_law_531 : decode cL_law 531 = .ok (.iload 5, 2) := by decide +kernel
theorem dL_law_533 : decode cL_law 533 = .ok (.ifCond .ne 22, 3) := by decide +kernel
theorem dL_law_536 : decode cL_law 536 = .ok (.aload_n 3, 1) := by decide +kernel
theorem dL_law_537 : decode cL_law 537 = .ok (.iconst 0, 1) := by decide +kernel
theorem dL_law_538 : decode cL_law 538 = .ok (.laload, 1) := by decide +kernel
theorem dL_law_539 : decode cL_law 539 = .ok (.iload 6, 2) := by decide +kernel
theorem dL_law_541 : decode cL_law 541 = .ok (.ifCond .eq 7, 3) := by decide +kernel
theorem dL_law_544 : decode cL_law 544 = .ok (.lconst 1, 1) := by decide +kernel
theorem dL_law_545 : decode cL_law 545 = .ok (.goto 4, 3) := by decide +kernel
theorem dL_law_548 : decode cL_law 548 = .ok (.lconst 0, 1) := by decide +kernel
theorem dL_law_549 : decode cL_law 549 = .ok (.lcmp, 1) := by decide +kernel
theorem dL_law_550 : decode cL_law 550 = .ok (.ifCond .eq 5, 3) := by decide +kernel
theorem dL_law_553 : decode cL_law 553 = .ok (.iconst 0, 1) := by decide +kernel
theorem dL_law_554 : decode cL_law 554 = .ok (.ireturn, 1) := by decide +kernel
theorem dL_law_555 : decode cL_law 555 = .ok (.goto 702, 3) := by decide +kernel
theorem dL_law_558 : decode cL_law 558 = .ok (.aload_n 1, 1) := by decide +kernel
theorem dL_law_559 : decode cL_law 559 = .ok (.aload_n 0, 1) := by decide +kernel
theorem dL_law_560 : decode cL_law 560 = .ok (.iload 4, 2) := by decide +kernel
theorem dL_law_562 : decode cL_law 562 = .ok (.iconst 1, 1) := by decide +kernel
theorem dL_law_563 : decode cL_law 563 = .ok (.iadd, 1) := by decide +kernel
theorem dL_law_564 : decode cL_law 564 = .ok (.iaload, 1) := by decide +kernel
theorem dL_law_565 : decode cL_law 565 = .ok (.aload_n 0, 1) := by decide +kernel
theorem dL_law_566 : decode cL_law 566 = .ok (.iload 4, 2) := by decide +kernel
theorem dL_law_568 : decode cL_law 568 = .ok (.iconst 2, 1) := by decide +kernel
theorem dL_law_569 : decode cL_law 569 = .ok (.iadd, 1) := by decide +kernel
theorem dL_law_570 : decode cL_law 570 = .ok (.iaload, 1) := by decide +kernel
theorem dL_law_571 : decode cL_law 571 = .ok (.aload_n 0, 1) := by decide +kernel
theorem dL_law_572 : decode cL_law 572 = .ok (.iload 4, 2) := by decide +kernel
theorem dL_law_574 : decode cL_law 574 = .ok (.iconst 3, 1) := by decide +kernel
theorem dL_law_575 : decode cL_law 575 = .ok (.iadd, 1) := by decide +kernel
theorem dL_law_576 : decode cL_law 576 = .ok (.iaload, 1) := by decide +kernel
theorem dL_law_577 : decode cL_law 577 = .ok (.aload_n 0, 1) := by decide +kernel
theorem dL_law_578 : decode cL_law 578 = .ok (.iload 4, 2) := by decide +kernel
theorem dL_law_580 : decode cL_law 580 = .ok (.iconst 4, 1) := by decide +kernel
theorem dL_law_581 : decode cL_law 581 = .ok (.iadd, 1) := by decide +kernel
theorem dL_law_582 : decode cL_law 582 = .ok (.iaload, 1) := by decide +kernel
theorem dL_law_583 : decode cL_law 583 = .ok (.aload_n 3, 1) := by decide +kernel
theorem dL_law_584 : decode cL_law 584 = .ok (.invokestatic 97, 3) := by decide +kernel
theorem dL_law_587 : decode cL_law 587 = .ok (.istore 5, 2) := by decide +kernel
theorem dL_law_589 : decode cL_law 589 = .ok (.aload_n 2, 1) := by decide +kernel
theorem dL_law_590 : decode cL_law 590 = .ok (.aload_n 0, 1) := by decide +kernel
theorem dL_law_591 : decode cL_law 591 = .ok (.iload 4, 2) := by decide +kernel
theorem dL_law_593 : decode cL_law 593 = .ok (.iconst 1, 1) := by decide +kernel
theorem dL_law_594 : decode cL_law 594 = .ok (.iadd, 1) := by decide +kernel
theorem dL_law_595 : decode cL_law 595 = .ok (.iaload, 1) := by decide +kernel
theorem dL_law_596 : decode cL_law 596 = .ok (.aload_n 0, 1) := by decide +kernel
theorem dL_law_597 : decode cL_law 597 = .ok (.iload 4, 2) := by decide +kernel
theorem dL_law_599 : decode cL_law 599 = .ok (.iconst 2, 1) := by decide +kernel
theorem dL_law_600 : decode cL_law 600 = .ok (.iadd, 1) := by decide +kernel
theorem dL_law_601 : decode cL_law 601 = .ok (.iaload, 1) := by decide +kernel
theorem dL_law_602 : decode cL_law 602 = .ok (.aload_n 0, 1) := by decide +kernel
theorem dL_law_603 : decode cL_law 603 = .ok (.iload 4, 2) := by decide +kernel
theorem dL_law_605 : decode cL_law 605 = .ok (.iconst 3, 1) := by decide +kernel
theorem dL_law_606 : decode cL_law 606 = .ok (.iadd, 1) := by decide +kernel
theorem dL_law_607 : decode cL_law 607 = .ok (.iaload, 1) := by decide +kernel
theorem dL_law_608 : decode cL_law 608 = .ok (.aload_n 0, 1) := by decide +kernel
theorem dL_law_609 : decode cL_law 609 = .ok (.iload 4, 2) := by decide +kernel
theorem dL_law_611 : decode cL_law 611 = .ok (.iconst 4, 1) := by decide +kernel
theorem dL_law_612 : decode cL_law 612 = .ok (.iadd, 1) := by decide +kernel
theorem dL_law_613 : decode cL_law 613 = .ok (.iaload, 1) := by decide +kernel
theorem dL_law_614 : decode cL_law 614 = .ok (.invokevirtual 100, 3) := by decide +kernel
theorem dL_law_617 : decode cL_law 617 = .ok (.istore 6, 2) := by decide +kernel
theorem dL_law_619 : decode cL_law 619 = .ok (.aload_n 2, 1) := by decide +kernel
theorem dL_law_620 : decode cL_law 620 = .ok (.invokevirtual 76, 3) := by decide +kernel
theorem dL_law_623 : decode cL_law 623 = .ok (.iload 5, 2) := by decide +kernel
theorem dL_law_625 : decode cL_law 625 = .ok (.if_icmp .eq 5, 3) := by decide +kernel
theorem dL_law_628 : decode cL_law 628 = .ok (.iconst 0, 1) := by decide +kernel
theorem dL_law_629 : decode cL_law 629 = .ok (.ireturn, 1) := by decide +kernel
theorem dL_law_630 : decode cL_law 630 = .ok (.iload 5, 2) := by decide +kernel
theorem dL_law_632 : decode cL_law 632 = .ok (.ifCond .ne 15, 3) := by decide +kernel
theorem dL_law_635 : decode cL_law 635 = .ok (.aload_n 3, 1) := by decide +kernel
theorem dL_law_636 : decode cL_law 636 = .ok (.iconst 0, 1) := by decide +kernel
theorem dL_law_637 : decode cL_law 637 = .ok (.laload, 1) := by decide +kernel
theorem dL_law_638 : decode cL_law 638 = .ok (.iload 6, 2) := by decide +kernel
theorem dL_law_640 : decode cL_law 640 = .ok (.i2l, 1) := by decide +kernel
theorem dL_law_641 : decode cL_law 641 = .ok (.lcmp, 1) := by decide +kernel
theorem dL_law_642 : decode cL_law 642 = .ok (.ifCond .eq 5, 3) := by decide +kernel
theorem dL_law_645 : decode cL_law 645 = .ok (.iconst 0, 1) := by decide +kernel
theorem dL_law_646 : decode cL_law 646 = .ok (.ireturn, 1) := by decide +kernel
theorem dL_law_647 : decode cL_law 647 = .ok (.goto 610, 3) := by decide +kernel
theorem dL_law_650 : decode cL_law 650 = .ok (.aload_n 1, 1) := by decide +kernel
theorem dL_law_651 : decode cL_law 651 = .ok (.aload_n 0, 1) := by decide +kernel
theorem dL_law_652 : decode cL_law 652 = .ok (.iload 4, 2) := by decide +kernel
theorem dL_law_654 : decode cL_law 654 = .ok (.iconst 1, 1) := by decide +kernel
theorem dL_law_655 : decode cL_law 655 = .ok (.iadd, 1) := by decide +kernel
theorem dL_law_656 : decode cL_law 656 = .ok (.iaload, 1) := by decide +kernel
theorem dL_law_657 : decode cL_law 657 = .ok (.aload_n 0, 1) := by decide +kernel
theorem dL_law_658 : decode cL_law 658 = .ok (.iload 4, 2) := by decide +kernel
theorem dL_law_660 : decode cL_law 660 = .ok (.iconst 2, 1) := by decide +kernel
theorem dL_law_661 : decode cL_law 661 = .ok (.iadd, 1) := by decide +kernel
theorem dL_law_662 : decode cL_law 662 = .ok (.iaload, 1) := by decide +kernel
theorem dL_law_663 : decode cL_law 663 = .ok (.aload_n 3, 1) := by decide +kernel
theorem dL_law_664 : decode cL_law 664 = .ok (.invokestatic 101, 3) := by decide +kernel
theorem dL_law_667 : decode cL_law 667 = .ok (.istore 5, 2) := by decide +kernel
theorem dL_law_669 : decode cL_law 669 = .ok (.aload_n 2, 1) := by decide +kernel
theorem dL_law_670 : decode cL_law 670 = .ok (.aload_n 0, 1) := by decide +kernel
theorem dL_law_671 : decode cL_law 671 = .ok (.iload 4, 2) := by decide +kernel
theorem dL_law_673 : decode cL_law 673 = .ok (.iconst 1, 1) := by decide +kernel
theorem dL_law_674 : decode cL_law 674 = .ok (.iadd, 1) := by decide +kernel
theorem dL_law_675 : decode cL_law 675 = .ok (.iaload, 1) := by decide +kernel
theorem dL_law_676 : decode cL_law 676 = .ok (.aload_n 0, 1) := by decide +kernel
theorem dL_law_677 : decode cL_law 677 = .ok (.iload 4, 2) := by decide +kernel
theorem dL_law_679 : decode cL_law 679 = .ok (.iconst 2, 1) := by decide +kernel
theorem dL_law_680 : decode cL_law 680 = .ok (.iadd, 1) := by decide +kernel
theorem dL_law_681 : decode cL_law 681 = .ok (.iaload, 1) := by decide +kernel
theorem dL_law_682 : decode cL_law 682 = .ok (.invokevirtual 103, 3) := by decide +kernel
theorem dL_law_685 : decode cL_law 685 = .ok (.istore 6, 2) := by decide +kernel
theorem dL_law_687 : decode cL_law 687 = .ok (.aload_n 2, 1) := by decide +kernel
theorem dL_law_688 : decode cL_law 688 = .ok (.invokevirtual 76, 3) := by decide +kernel
theorem dL_law_691 : decode cL_law 691 = .ok (.iload 5, 2) := by decide +kernel
theorem dL_law_693 : decode cL_law 693 = .ok (.if_icmp .eq 5, 3) := by decide +kernel
theorem dL_law_696 : decode cL_law 696 = .ok (.iconst 0, 1) := by decide +kernel
theorem dL_law_697 : decode cL_law 697 = .ok (.ireturn, 1) := by decide +kernel
theorem dL_law_698 : decode cL_law 698 = .ok (.iload 5, 2) := by decide +kernel
theorem dL_law_700 : decode cL_law 700 = .ok (.ifCond .ne 15, 3) := by decide +kernel
theorem dL_law_703 : decode cL_law 703 = .ok (.aload_n 3, 1) := by decide +kernel
theorem dL_law_704 : decode cL_law 704 = .ok (.iconst 0, 1) := by decide +kernel
theorem dL_law_705 : decode cL_law 705 = .ok (.laload, 1) := by decide +kernel
theorem dL_law_706 : decode cL_law 706 = .ok (.iload 6, 2) := by decide +kernel
theorem dL_law_708 : decode cL_law 708 = .ok (.i2l, 1) := by decide +kernel
theorem dL_law_709 : decode cL_law 709 = .ok (.lcmp, 1) := by decide +kernel
theorem dL_law_710 : decode cL_law 710 = .ok (.ifCond .eq 5, 3) := by decide +kernel
theorem dL_law_713 : decode cL_law 713 = .ok (.iconst 0, 1) := by decide +kernel
theorem dL_law_714 : decode cL_law 714 = .ok (.ireturn, 1) := by decide +kernel
theorem dL_law_715 : decode cL_law 715 = .ok (.goto 542, 3) := by decide +kernel
theorem dL_law_718 : decode cL_law 718 = .ok (.aload_n 1, 1) := by decide +kernel
theorem dL_law_719 : decode cL_law 719 = .ok (.aload_n 0, 1) := by decide +kernel
theorem dL_law_720 : decode cL_law 720 = .ok (.iload 4, 2) := by decide +kernel
theorem dL_law_722 : decode cL_law 722 = .ok (.iconst 1, 1) := by decide +kernel
theorem dL_law_723 : decode cL_law 723 = .ok (.iadd, 1) := by decide +kernel
theorem dL_law_724 : decode cL_law 724 = .ok (.iaload, 1) := by decide +kernel
theorem dL_law_725 : decode cL_law 725 = .ok (.aload_n 0, 1) := by decide +kernel
theorem dL_law_726 : decode cL_law 726 = .ok (.iload 4, 2) := by decide +kernel
theorem dL_law_728 : decode cL_law 728 = .ok (.iconst 2, 1) := by decide +kernel
theorem dL_law_729 : decode cL_law 729 = .ok (.iadd, 1) := by decide +kernel
theorem dL_law_730 : decode cL_law 730 = .ok (.iaload, 1) := by decide +kernel
theorem dL_law_731 : decode cL_law 731 = .ok (.aload_n 3, 1) := by decide +kernel
theorem dL_law_732 : decode cL_law 732 = .ok (.invokestatic 104, 3) := by decide +kernel
theorem dL_law_735 : decode cL_law 735 = .ok (.istore 5, 2) := by decide +kernel
theorem dL_law_737 : decode cL_law 737 = .ok (.aload_n 2, 1) := by decide +kernel
theorem dL_law_738 : decode cL_law 738 = .ok (.aload_n 0, 1) := by decide +kernel
theorem dL_law_739 : decode cL_law 739 = .ok (.iload 4, 2) := by decide +kernel
theorem dL_law_741 : decode cL_law 741 = .ok (.iconst 1, 1) := by decide +kernel
theorem dL_law_742 : decode cL_law 742 = .ok (.iadd, 1) := by decide +kernel
theorem dL_law_743 : decode cL_law 743 = .ok (.iaload, 1) := by decide +kernel
theorem dL_law_744 : decode cL_law 744 = .ok (.aload_n 0, 1) := by decide +kernel
theorem dL_law_745 : decode cL_law 745 = .ok (.iload 4, 2) := by decide +kernel
theorem dL_law_747 : decode cL_law 747 = .ok (.iconst 2, 1) := by decide +kernel
theorem dL_law_748 : decode cL_law 748 = .ok (.iadd, 1) := by decide +kernel
theorem dL_law_749 : decode cL_law 749 = .ok (.iaload, 1) := by decide +kernel
theorem dL_law_750 : decode cL_law 750 = .ok (.invokevirtual 106, 3) := by decide +kernel
theorem dL_law_753 : decode cL_law 753 = .ok (.istore 6, 2) := by decide +kernel
theorem dL_law_755 : decode cL_law 755 = .ok (.aload_n 2, 1) := by decide +kernel
theorem dL_law_756 : decode cL_law 756 = .ok (.invokevirtual 76, 3) := by decide +kernel
theorem dL_law_759 : decode cL_law 759 = .ok (.iload 5, 2) := by decide +kernel
theorem dL_law_761 : decode cL_law 761 = .ok (.if_icmp .eq 5, 3) := by decide +kernel
theorem dL_law_764 : decode cL_law 764 = .ok (.iconst 0, 1) := by decide +kernel
theorem dL_law_765 : decode cL_law 765 = .ok (.ireturn, 1) := by decide +kernel
theorem dL_law_766 : decode cL_law 766 = .ok (.iload 5, 2) := by decide +kernel
theorem dL_law_768 : decode cL_law 768 = .ok (.ifCond .ne 15, 3) := by decide +kernel
theorem dL_law_771 : decode cL_law 771 = .ok (.aload_n 3, 1) := by decide +kernel
theorem dL_law_772 : decode cL_law 772 = .ok (.iconst 0, 1) := by decide +kernel
theorem dL_law_773 : decode cL_law 773 = .ok (.laload, 1) := by decide +kernel
theorem dL_law_774 : decode cL_law 774 = .ok (.iload 6, 2) := by decide +kernel
theorem dL_law_776 : decode cL_law 776 = .ok (.i2l, 1) := by decide +kernel
theorem dL_law_777 : decode cL_law 777 = .ok (.lcmp, 1) := by decide +kernel
theorem dL_law_778 : decode cL_law 778 = .ok (.ifCond .eq 5, 3) := by decide +kernel
theorem dL_law_781 : decode cL_law 781 = .ok (.iconst 0, 1) := by decide +kernel
theorem dL_law_782 : decode cL_law 782 = .ok (.ireturn, 1) := by decide +kernel
theorem dL_law_783 : decode cL_law 783 = .ok (.goto 474, 3) := by decide +kernel
theorem dL_law_786 : decode cL_law 786 = .ok (.aload_n 1, 1) := by decide +kernel
theorem dL_law_787 : decode cL_law 787 = .ok (.aload_n 0, 1) := by decide +kernel
theorem dL_law_788 : decode cL_law 788 = .ok (.iload 4, 2) := by decide +kernel
theorem dL_law_790 : decode cL_law 790 = .ok (.iconst 1, 1) := by decide +kernel
theorem dL_law_791 : decode cL_law 791 = .ok (.iadd, 1) := by decide +kernel
theorem dL_law_792 : decode cL_law 792 = .ok (.iaload, 1) := by decide +kernel
theorem dL_law_793 : decode cL_law 793 = .ok (.aload_n 0, 1) := by decide +kernel
theorem dL_law_794 : decode cL_law 794 = .ok (.iload 4, 2) := by decide +kernel
theorem dL_law_796 : decode cL_law 796 = .ok (.iconst 2, 1) := by decide +kernel
theorem dL_law_797 : decode cL_law 797 = .ok (.iadd, 1) := by decide +kernel
theorem dL_law_798 : decode cL_law 798 = .ok (.iaload, 1) := by decide +kernel
theorem dL_law_799 : decode cL_law 799 = .ok (.aload_n 3, 1) := by decide +kernel
theorem dL_law_800 : decode cL_law 800 = .ok (.invokestatic 107, 3) := by decide +kernel
theorem dL_law_803 : decode cL_law 803 = .ok (.istore 5, 2) := by decide +kernel
theorem dL_law_805 : decode cL_law 805 = .ok (.aload_n 2, 1) := by decide +kernel
theorem dL_law_806 : decode cL_law 806 = .ok (.aload_n 0, 1) := by decide +kernel
theorem dL_law_807 : decode cL_law 807 = .ok (.iload 4, 2) := by decide +kernel
theorem dL_law_809 : decode cL_law 809 = .ok (.iconst 1, 1) := by decide +kernel
theorem dL_law_810 : decode cL_law 810 = .ok (.iadd, 1) := by decide +kernel
theorem dL_law_811 : decode cL_law 811 = .ok (.iaload, 1) := by decide +kernel
theorem dL_law_812 : decode cL_law 812 = .ok (.aload_n 0, 1) := by decide +kernel
theorem dL_law_813 : decode cL_law 813 = .ok (.iload 4, 2) := by decide +kernel
theorem dL_law_815 : decode cL_law 815 = .ok (.iconst 2, 1) := by decide +kernel
theorem dL_law_816 : decode cL_law 816 = .ok (.iadd, 1) := by decide +kernel
theorem dL_law_817 : decode cL_law 817 = .ok (.iaload, 1) := by decide +kernel
theorem dL_law_818 : decode cL_law 818 = .ok (.invokevirtual 109, 3) := by decide +kernel
theorem dL_law_821 : decode cL_law 821 = .ok (.istore 6, 2) := by decide +kernel
theorem dL_law_823 : decode cL_law 823 = .ok (.aload_n 2, 1) := by decide +kernel
theorem dL_law_824 : decode cL_law 824 = .ok (.invokevirtual 76, 3) := by decide +kernel
theorem dL_law_827 : decode cL_law 827 = .ok (.iload 5, 2) := by decide +kernel
theorem dL_law_829 : decode cL_law 829 = .ok (.if_icmp .eq 5, 3) := by decide +kernel
theorem dL_law_832 : decode cL_law 832 = .ok (.iconst 0, 1) := by decide +kernel
theorem dL_law_833 : decode cL_law 833 = .ok (.ireturn, 1) := by decide +kernel
theorem dL_law_834 : decode cL_law 834 = .ok (.iload 5, 2) := by decide +kernel
theorem dL_law_836 : decode cL_law 836 = .ok (.ifCond .ne 22, 3) := by decide +kernel
theorem dL_law_839 : decode cL_law 839 = .ok (.aload_n 3, 1) := by decide +kernel
theorem dL_law_840 : decode cL_law 840 = .ok (.iconst 0, 1) := by decide +kernel
theorem dL_law_841 : decode cL_law 841 = .ok (.laload, 1) := by decide +kernel
theorem dL_law_842 : decode cL_law 842 = .ok (.iload 6, 2) := by decide +kernel
theorem dL_law_844 : decode cL_law 844 = .ok (.ifCond .eq 7, 3) := by decide +kernel
theorem dL_law_847 : decode cL_law 847 = .ok (.lconst 1, 1) := by decide +kernel
theorem dL_law_848 : decode cL_law 848 = .ok (.goto 4, 3) := by decide +kernel
theorem dL_law_851 : decode cL_law 851 = .ok (.lconst 0, 1) := by decide +kernel
theorem dL_law_852 : decode cL_law 852 = .ok (.lcmp, 1) := by decide +kernel
theorem dL_law_853 : decode cL_law 853 = .ok (.ifCond .eq 5, 3) := by decide +kernel
theorem dL_law_856 : decode cL_law 856 = .ok (.iconst 0, 1) := by decide +kernel
theorem dL_law_857 : decode cL_law 857 = .ok (.ireturn, 1) := by decide +kernel
theorem dL_law_858 : decode cL_law 858 = .ok (.goto 399, 3) := by decide +kernel
theorem dL_law_861 : decode cL_law 861 = .ok (.aload_n 1, 1) := by decide +kernel
theorem dL_law_862 : decode cL_law 862 = .ok (.aload_n 0, 1) := by decide +kernel
theorem dL_law_863 : decode cL_law 863 = .ok (.iload 4, 2) := by decide +kernel
theorem dL_law_865 : decode cL_law 865 = .ok (.iconst 1, 1) := by decide +kernel
theorem dL_law_866 : decode cL_law 866 = .ok (.iadd, 1) := by decide +kernel
theorem dL_law_867 : decode cL_law 867 = .ok (.iaload, 1) := by decide +kernel
theorem dL_law_868 : decode cL_law 868 = .ok (.aload_n 3, 1) := by decide +kernel
theorem dL_law_869 : decode cL_law 869 = .ok (.invokestatic 110, 3) := by decide +kernel
theorem dL_law_872 : decode cL_law 872 = .ok (.istore 5, 2) := by decide +kernel
theorem dL_law_874 : decode cL_law 874 = .ok (.aload_n 2, 1) := by decide +kernel
theorem dL_law_875 : decode cL_law 875 = .ok (.aload_n 0, 1) := by decide +kernel
theorem dL_law_876 : decode cL_law 876 = .ok (.iload 4, 2) := by decide +kernel
theorem dL_law_878 : decode cL_law 878 = .ok (.iconst 1, 1) := by decide +kernel
theorem dL_law_879 : decode cL_law 879 = .ok (.iadd, 1) := by decide +kernel
theorem dL_law_880 : decode cL_law 880 = .ok (.iaload, 1) := by decide +kernel
theorem dL_law_881 : decode cL_law 881 = .ok (.invokevirtual 112, 3) := by decide +kernel
theorem dL_law_884 : decode cL_law 884 = .ok (.istore 6, 2) := by decide +kernel
theorem dL_law_886 : decode cL_law 886 = .ok (.aload_n 2, 1) := by decide +kernel
theorem dL_law_887 : decode cL_law 887 = .ok (.invokevirtual 76, 3) := by decide +kernel
theorem dL_law_890 : decode cL_law 890 = .ok (.iload 5, 2) := by decide +kernel
theorem dL_law_892 : decode cL_law 892 = .ok (.if_icmp .eq 5, 3) := by decide +kernel
theorem dL_law_895 : decode cL_law 895 = .ok (.iconst 0, 1) := by decide +kernel
theorem dL_law_896 : decode cL_law 896 = .ok (.ireturn, 1) := by decide +kernel
theorem dL_law_897 : decode cL_law 897 = .ok (.iload 5, 2) := by decide +kernel
theorem dL_law_899 : decode cL_law 899 = .ok (.ifCond .ne 15, 3) := by decide +kernel
theorem dL_law_902 : decode cL_law 902 = .ok (.aload_n 3, 1) := by decide +kernel
theorem dL_law_903 : decode cL_law 903 = .ok (.iconst 0, 1) := by decide +kernel
theorem dL_law_904 : decode cL_law 904 = .ok (.laload, 1) := by decide +kernel
theorem dL_law_905 : decode cL_law 905 = .ok (.iload 6, 2) := by decide +kernel
theorem dL_law_907 : decode cL_law 907 = .ok (.i2l, 1) := by decide +kernel
theorem dL_law_908 : decode cL_law 908 = .ok (.lcmp, 1) := by decide +kernel
theorem dL_law_909 : decode cL_law 909 = .ok (.ifCond .eq 5, 3) := by decide +kernel
theorem dL_law_912 : decode cL_law 912 = .ok (.iconst 0, 1) := by decide +kernel
theorem dL_law_913 : decode cL_law 913 = .ok (.ireturn, 1) := by decide +kernel
theorem dL_law_914 : decode cL_law 914 = .ok (.goto 343, 3) := by decide +kernel
theorem dL_law_917 : decode cL_law 917 = .ok (.aload_n 1, 1) := by decide +kernel
theorem dL_law_918 : decode cL_law 918 = .ok (.aload_n 0, 1) := by decide +kernel
theorem dL_law_919 : decode cL_law 919 = .ok (.iload 4, 2) := by decide +kernel
theorem dL_law_921 : decode cL_law 921 = .ok (.iconst 1, 1) := by decide +kernel
theorem dL_law_922 : decode cL_law 922 = .ok (.iadd, 1) := by decide +kernel
theorem dL_law_923 : decode cL_law 923 = .ok (.iaload, 1) := by decide +kernel
theorem dL_law_924 : decode cL_law 924 = .ok (.aload_n 0, 1) := by decide +kernel
theorem dL_law_925 : decode cL_law 925 = .ok (.iload 4, 2) := by decide +kernel
theorem dL_law_927 : decode cL_law 927 = .ok (.iconst 2, 1) := by decide +kernel
theorem dL_law_928 : decode cL_law 928 = .ok (.iadd, 1) := by decide +kernel
theorem dL_law_929 : decode cL_law 929 = .ok (.iaload, 1) := by decide +kernel
theorem dL_law_930 : decode cL_law 930 = .ok (.aload_n 0, 1) := by decide +kernel
theorem dL_law_931 : decode cL_law 931 = .ok (.iload 4, 2) := by decide +kernel
theorem dL_law_933 : decode cL_law 933 = .ok (.iconst 3, 1) := by decide +kernel
theorem dL_law_934 : decode cL_law 934 = .ok (.iadd, 1) := by decide +kernel
theorem dL_law_935 : decode cL_law 935 = .ok (.iaload, 1) := by decide +kernel
theorem dL_law_936 : decode cL_law 936 = .ok (.aload_n 0, 1) := by decide +kernel
theorem dL_law_937 : decode cL_law 937 = .ok (.iload 4, 2) := by decide +kernel
theorem dL_law_939 : decode cL_law 939 = .ok (.iconst 4, 1) := by decide +kernel
theorem dL_law_940 : decode cL_law 940 = .ok (.iadd, 1) := by decide +kernel
theorem dL_law_941 : decode cL_law 941 = .ok (.iaload, 1) := by decide +kernel
theorem dL_law_942 : decode cL_law 942 = .ok (.aload_n 3, 1) := by decide +kernel
theorem dL_law_943 : decode cL_law 943 = .ok (.invokestatic 113, 3) := by decide +kernel
theorem dL_law_946 : decode cL_law 946 = .ok (.istore 5, 2) := by decide +kernel
theorem dL_law_948 : decode cL_law 948 = .ok (.aload_n 2, 1) := by decide +kernel
theorem dL_law_949 : decode cL_law 949 = .ok (.aload_n 0, 1) := by decide +kernel
theorem dL_law_950 : decode cL_law 950 = .ok (.iload 4, 2) := by decide +kernel
theorem dL_law_952 : decode cL_law 952 = .ok (.iconst 1, 1) := by decide +kernel
theorem dL_law_953 : decode cL_law 953 = .ok (.iadd, 1) := by decide +kernel
theorem dL_law_954 : decode cL_law 954 = .ok (.iaload, 1) := by decide +kernel
theorem dL_law_955 : decode cL_law 955 = .ok (.aload_n 0, 1) := by decide +kernel
theorem dL_law_956 : decode cL_law 956 = .ok (.iload 4, 2) := by decide +kernel
theorem dL_law_958 : decode cL_law 958 = .ok (.iconst 2, 1) := by decide +kernel
theorem dL_law_959 : decode cL_law 959 = .ok (.iadd, 1) := by decide +kernel
theorem dL_law_960 : decode cL_law 960 = .ok (.iaload, 1) := by decide +kernel
theorem dL_law_961 : decode cL_law 961 = .ok (.aload_n 0, 1) := by decide +kernel
theorem dL_law_962 : decode cL_law 962 = .ok (.iload 4, 2) := by decide +kernel
theorem dL_law_964 : decode cL_law 964 = .ok (.iconst 3, 1) := by decide +kernel
theorem dL_law_965 : decode cL_law 965 = .ok (.iadd, 1) := by decide +kernel
theorem dL_law_966 : decode cL_law 966 = .ok (.iaload, 1) := by decide +kernel
theorem dL_law_967 : decode cL_law 967 = .ok (.aload_n 0, 1) := by decide +kernel
theorem dL_law_968 : decode cL_law 968 = .ok (.iload 4, 2) := by decide +kernel
theorem dL_law_970 : decode cL_law 970 = .ok (.iconst 4, 1) := by decide +kernel
theorem dL_law_971 : decode cL_law 971 = .ok (.iadd, 1) := by decide +kernel
theorem dL_law_972 : decode cL_law 972 = .ok (.iaload, 1) := by decide +kernel
theorem dL_law_973 : decode cL_law 973 = .ok (.invokevirtual 115, 3) := by decide +kernel
theorem dL_law_976 : decode cL_law 976 = .ok (.istore 6, 2) := by decide +kernel
theorem dL_law_978 : decode cL_law 978 = .ok (.aload_n 2, 1) := by decide +kernel
theorem dL_law_979 : decode cL_law 979 = .ok (.invokevirtual 76, 3) := by decide +kernel
theorem dL_law_982 : decode cL_law 982 = .ok (.iload 5, 2) := by decide +kernel
theorem dL_law_984 : decode cL_law 984 = .ok (.if_icmp .eq 5, 3) := by decide +kernel
theorem dL_law_987 : decode cL_law 987 = .ok (.iconst 0, 1) := by decide +kernel
theorem dL_law_988 : decode cL_law 988 = .ok (.ireturn, 1) := by decide +kernel
theorem dL_law_989 : decode cL_law 989 = .ok (.iload 5, 2) := by decide +kernel
theorem dL_law_991 : decode cL_law 991 = .ok (.ifCond .ne 15, 3) := by decide +kernel
theorem dL_law_994 : decode cL_law 994 = .ok (.aload_n 3, 1) := by decide +kernel
theorem dL_law_995 : decode cL_law 995 = .ok (.iconst 0, 1) := by decide +kernel
theorem dL_law_996 : decode cL_law 996 = .ok (.laload, 1) := by decide +kernel
theorem dL_law_997 : decode cL_law 997 = .ok (.iload 6, 2) := by decide +kernel
theorem dL_law_999 : decode cL_law 999 = .ok (.i2l, 1) := by decide +kernel
theorem dL_law_1000 : decode cL_law 1000 = .ok (.lcmp, 1) := by decide +kernel
theorem dL_law_1001 : decode cL_law 1001 = .ok (.ifCond .eq 5, 3) := by decide +kernel
theorem dL_law_1004 : decode cL_law 1004 = .ok (.iconst 0, 1) := by decide +kernel
theorem dL_law_1005 : decode cL_law 1005 = .ok (.ireturn, 1) := by decide +kernel
theorem dL_law_1006 : decode cL_law 1006 = .ok (.goto 251, 3) := by decide +kernel
theorem dL_law_1009 : decode cL_law 1009 = .ok (.aload_n 1, 1) := by decide +kernel
theorem dL_law_1010 : decode cL_law 1010 = .ok (.invokevirtual 116, 3) := by decide +kernel
theorem dL_law_1013 : decode cL_law 1013 = .ok (.aload_n 2, 1) := by decide +kernel
theorem dL_law_1014 : decode cL_law 1014 = .ok (.invokevirtual 119, 3) := by decide +kernel
theorem dL_law_1017 : decode cL_law 1017 = .ok (.if_icmp .eq 240, 3) := by decide +kernel
theorem dL_law_1020 : decode cL_law 1020 = .ok (.iconst 0, 1) := by decide +kernel
theorem dL_law_1021 : decode cL_law 1021 = .ok (.ireturn, 1) := by decide +kernel
theorem dL_law_1022 : decode cL_law 1022 = .ok (.aload_n 1, 1) := by decide +kernel
theorem dL_law_1023 : decode cL_law 1023 = .ok (.aload_n 0, 1) := by decide +kernel
theorem dL_law_1024 : decode cL_law 1024 = .ok (.iload 4, 2) := by decide +kernel
theorem dL_law_1026 : decode cL_law 1026 = .ok (.iconst 1, 1) := by decide +kernel
theorem dL_law_1027 : decode cL_law 1027 = .ok (.iadd, 1) := by decide +kernel
theorem dL_law_1028 : decode cL_law 1028 = .ok (.iaload, 1) := by decide +kernel
theorem dL_law_1029 : decode cL_law 1029 = .ok (.aload_n 3, 1) := by decide +kernel
theorem dL_law_1030 : decode cL_law 1030 = .ok (.invokestatic 120, 3) := by decide +kernel
theorem dL_law_1033 : decode cL_law 1033 = .ok (.istore 5, 2) := by decide +kernel
theorem dL_law_1035 : decode cL_law 1035 = .ok (.aload_n 2, 1) := by decide +kernel
theorem dL_law_1036 : decode cL_law 1036 = .ok (.aload_n 0, 1) := by decide +kernel
theorem dL_law_1037 : decode cL_law 1037 = .ok (.iload 4, 2) := by decide +kernel
theorem dL_law_1039 : decode cL_law 1039 = .ok (.iconst 1, 1) := by decide +kernel
theorem dL_law_1040 : decode cL_law 1040 = .ok (.iadd, 1) := by decide +kernel
theorem dL_law_1041 : decode cL_law 1041 = .ok (.iaload, 1) := by decide +kernel
theorem dL_law_1042 : decode cL_law 1042 = .ok (.invokevirtual 122, 3) := by decide +kernel
theorem dL_law_1045 : decode cL_law 1045 = .ok (.istore 6, 2) := by decide +kernel
theorem dL_law_1047 : decode cL_law 1047 = .ok (.aload_n 2, 1) := by decide +kernel
theorem dL_law_1048 : decode cL_law 1048 = .ok (.invokevirtual 76, 3) := by decide +kernel
theorem dL_law_1051 : decode cL_law 1051 = .ok (.iload 5, 2) := by decide +kernel
theorem dL_law_1053 : decode cL_law 1053 = .ok (.if_icmp .eq 5, 3) := by decide +kernel
theorem dL_law_1056 : decode cL_law 1056 = .ok (.iconst 0, 1) := by decide +kernel
theorem dL_law_1057 : decode cL_law 1057 = .ok (.ireturn, 1) := by decide +kernel
theorem dL_law_1058 : decode cL_law 1058 = .ok (.iload 5, 2) := by decide +kernel
theorem dL_law_1060 : decode cL_law 1060 = .ok (.ifCond .ne 15, 3) := by decide +kernel
theorem dL_law_1063 : decode cL_law 1063 = .ok (.aload_n 3, 1) := by decide +kernel
theorem dL_law_1064 : decode cL_law 1064 = .ok (.iconst 0, 1) := by decide +kernel
theorem dL_law_1065 : decode cL_law 1065 = .ok (.laload, 1) := by decide +kernel
theorem dL_law_1066 : decode cL_law 1066 = .ok (.iload 6, 2) := by decide +kernel
theorem dL_law_1068 : decode cL_law 1068 = .ok (.i2l, 1) := by decide +kernel
theorem dL_law_1069 : decode cL_law 1069 = .ok (.lcmp, 1) := by decide +kernel
theorem dL_law_1070 : decode cL_law 1070 = .ok (.ifCond .eq 5, 3) := by decide +kernel
theorem dL_law_1073 : decode cL_law 1073 = .ok (.iconst 0, 1) := by decide +kernel
theorem dL_law_1074 : decode cL_law 1074 = .ok (.ireturn, 1) := by decide +kernel
theorem dL_law_1075 : decode cL_law 1075 = .ok (.goto 182, 3) := by decide +kernel
theorem dL_law_1078 : decode cL_law 1078 = .ok (.aload_n 1, 1) := by decide +kernel
theorem dL_law_1079 : decode cL_law 1079 = .ok (.aload_n 0, 1) := by decide +kernel
theorem dL_law_1080 : decode cL_law 1080 = .ok (.iload 4, 2) := by decide +kernel
theorem dL_law_1082 : decode cL_law 1082 = .ok (.iconst 1, 1) := by decide +kernel
theorem dL_law_1083 : decode cL_law 1083 = .ok (.iadd, 1) := by decide +kernel
theorem dL_law_1084 : decode cL_law 1084 = .ok (.iaload, 1) := by decide +kernel
theorem dL_law_1085 : decode cL_law 1085 = .ok (.aload_n 0, 1) := by decide +kernel
theorem dL_law_1086 : decode cL_law 1086 = .ok (.iload 4, 2) := by decide +kernel
theorem dL_law_1088 : decode cL_law 1088 = .ok (.iconst 2, 1) := by decide +kernel
theorem dL_law_1089 : decode cL_law 1089 = .ok (.iadd, 1) := by decide +kernel
theorem dL_law_1090 : decode cL_law 1090 = .ok (.iaload, 1) := by decide +kernel
theorem dL_law_1091 : decode cL_law 1091 = .ok (.aload_n 3, 1) := by decide +kernel
theorem dL_law_1092 : decode cL_law 1092 = .ok (.invokestatic 123, 3) := by decide +kernel
theorem dL_law_1095 : decode cL_law 1095 = .ok (.istore 5, 2) := by decide +kernel
theorem dL_law_1097 : decode cL_law 1097 = .ok (.aload_n 2, 1) := by decide +kernel
theorem dL_law_1098 : decode cL_law 1098 = .ok (.aload_n 0, 1) := by decide +kernel
theorem dL_law_1099 : decode cL_law 1099 = .ok (.iload 4, 2) := by decide +kernel
theorem dL_law_1101 : decode cL_law 1101 = .ok (.iconst 1, 1) := by decide +kernel
theorem dL_law_1102 : decode cL_law 1102 = .ok (.iadd, 1) := by decide +kernel
theorem dL_law_1103 : decode cL_law 1103 = .ok (.iaload, 1) := by decide +kernel
theorem dL_law_1104 : decode cL_law 1104 = .ok (.aload_n 0, 1) := by decide +kernel
theorem dL_law_1105 : decode cL_law 1105 = .ok (.iload 4, 2) := by decide +kernel
theorem dL_law_1107 : decode cL_law 1107 = .ok (.iconst 2, 1) := by decide +kernel
theorem dL_law_1108 : decode cL_law 1108 = .ok (.iadd, 1) := by decide +kernel
theorem dL_law_1109 : decode cL_law 1109 = .ok (.iaload, 1) := by decide +kernel
theorem dL_law_1110 : decode cL_law 1110 = .ok (.invokevirtual 125, 3) := by decide +kernel
theorem dL_law_1113 : decode cL_law 1113 = .ok (.istore 6, 2) := by decide +kernel
theorem dL_law_1115 : decode cL_law 1115 = .ok (.aload_n 2, 1) := by decide +kernel
theorem dL_law_1116 : decode cL_law 1116 = .ok (.invokevirtual 76, 3) := by decide +kernel
theorem dL_law_1119 : decode cL_law 1119 = .ok (.iload 5, 2) := by decide +kernel
theorem dL_law_1121 : decode cL_law 1121 = .ok (.if_icmp .eq 5, 3) := by decide +kernel
theorem dL_law_1124 : decode cL_law 1124 = .ok (.iconst 0, 1) := by decide +kernel
theorem dL_law_1125 : decode cL_law 1125 = .ok (.ireturn, 1) := by decide +kernel
theorem dL_law_1126 : decode cL_law 1126 = .ok (.iload 5, 2) := by decide +kernel
theorem dL_law_1128 : decode cL_law 1128 = .ok (.ifCond .ne 15, 3) := by decide +kernel
theorem dL_law_1131 : decode cL_law 1131 = .ok (.aload_n 3, 1) := by decide +kernel
theorem dL_law_1132 : decode cL_law 1132 = .ok (.iconst 0, 1) := by decide +kernel
theorem dL_law_1133 : decode cL_law 1133 = .ok (.laload, 1) := by decide +kernel
theorem dL_law_1134 : decode cL_law 1134 = .ok (.iload 6, 2) := by decide +kernel
theorem dL_law_1136 : decode cL_law 1136 = .ok (.i2l, 1) := by decide +kernel
theorem dL_law_1137 : decode cL_law 1137 = .ok (.lcmp, 1) := by decide +kernel
theorem dL_law_1138 : decode cL_law 1138 = .ok (.ifCond .eq 5, 3) := by decide +kernel
theorem dL_law_1141 : decode cL_law 1141 = .ok (.iconst 0, 1) := by decide +kernel
theorem dL_law_1142 : decode cL_law 1142 = .ok (.ireturn, 1) := by decide +kernel
theorem dL_law_1143 : decode cL_law 1143 = .ok (.goto 114, 3) := by decide +kernel
theorem dL_law_1146 : decode cL_law 1146 = .ok (.aload_n 1, 1) := by decide +kernel
theorem dL_law_1147 : decode cL_law 1147 = .ok (.aload_n 0, 1) := by decide +kernel
theorem dL_law_1148 : decode cL_law 1148 = .ok (.iload 4, 2) := by decide +kernel
theorem dL_law_1150 : decode cL_law 1150 = .ok (.iconst 1, 1) := by decide +kernel
theorem dL_law_1151 : decode cL_law 1151 = .ok (.iadd, 1) := by decide +kernel
theorem dL_law_1152 : decode cL_law 1152 = .ok (.iaload, 1) := by decide +kernel
theorem dL_law_1153 : decode cL_law 1153 = .ok (.aload_n 3, 1) := by decide +kernel
theorem dL_law_1154 : decode cL_law 1154 = .ok (.invokestatic 126, 3) := by decide +kernel
theorem dL_law_1157 : decode cL_law 1157 = .ok (.istore 5, 2) := by decide +kernel
theorem dL_law_1159 : decode cL_law 1159 = .ok (.aload_n 2, 1) := by decide +kernel
theorem dL_law_1160 : decode cL_law 1160 = .ok (.aload_n 0, 1) := by decide +kernel
theorem dL_law_1161 : decode cL_law 1161 = .ok (.iload 4, 2) := by decide +kernel
theorem dL_law_1163 : decode cL_law 1163 = .ok (.iconst 1, 1) := by decide +kernel
theorem dL_law_1164 : decode cL_law 1164 = .ok (.iadd, 1) := by decide +kernel
theorem dL_law_1165 : decode cL_law 1165 = .ok (.iaload, 1) := by decide +kernel
theorem dL_law_1166 : decode cL_law 1166 = .ok (.invokevirtual 128, 3) := by decide +kernel
theorem dL_law_1169 : decode cL_law 1169 = .ok (.istore 6, 2) := by decide +kernel
theorem dL_law_1171 : decode cL_law 1171 = .ok (.aload_n 2, 1) := by decide +kernel
theorem dL_law_1172 : decode cL_law 1172 = .ok (.invokevirtual 76, 3) := by decide +kernel
theorem dL_law_1175 : decode cL_law 1175 = .ok (.iload 5, 2) := by decide +kernel
theorem dL_law_1177 : decode cL_law 1177 = .ok (.if_icmp .eq 5, 3) := by decide +kernel
theorem dL_law_1180 : decode cL_law 1180 = .ok (.iconst 0, 1) := by decide +kernel
theorem dL_law_1181 : decode cL_law 1181 = .ok (.ireturn, 1) := by decide +kernel
theorem dL_law_1182 : decode cL_law 1182 = .ok (.iload 5, 2) := by decide +kernel
theorem dL_law_1184 : decode cL_law 1184 = .ok (.ifCond .ne 15, 3) := by decide +kernel
theorem dL_law_1187 : decode cL_law 1187 = .ok (.aload_n 3, 1) := by decide +kernel
theorem dL_law_1188 : decode cL_law 1188 = .ok (.iconst 0, 1) := by decide +kernel
theorem dL_law_1189 : decode cL_law 1189 = .ok (.laload, 1) := by decide +kernel
theorem dL_law_1190 : decode cL_law 1190 = .ok (.iload 6, 2) := by decide +kernel
theorem dL_law_1192 : decode cL_law 1192 = .ok (.i2l, 1) := by decide +kernel
theorem dL_law_1193 : decode cL_law 1193 = .ok (.lcmp, 1) := by decide +kernel
theorem dL_law_1194 : decode cL_law 1194 = .ok (.ifCond .eq 5, 3) := by decide +kernel
theorem dL_law_1197 : decode cL_law 1197 = .ok (.iconst 0, 1) := by decide +kernel
theorem dL_law_1198 : decode cL_law 1198 = .ok (.ireturn, 1) := by decide +kernel
theorem dL_law_1199 : decode cL_law 1199 = .ok (.goto 58, 3) := by decide +kernel
theorem dL_law_1202 : decode cL_law 1202 = .ok (.aload_n 1, 1) := by decide +kernel
theorem dL_law_1203 : decode cL_law 1203 = .ok (.invokevirtual 129, 3) := by decide +kernel
theorem dL_law_1206 : decode cL_law 1206 = .ok (.dstore 5, 2) := by decide +kernel
theorem dL_law_1208 : decode cL_law 1208 = .ok (.aload_n 2, 1) := by decide +kernel
theorem dL_law_1209 : decode cL_law 1209 = .ok (.invokevirtual 133, 3) := by decide +kernel
theorem dL_law_1212 : decode cL_law 1212 = .ok (.dstore 7, 2) := by decide +kernel
theorem dL_law_1214 : decode cL_law 1214 = .ok (.dload 5, 2) := by decide +kernel
theorem dL_law_1216 : decode cL_law 1216 = .ok (.dload 7, 2) := by decide +kernel
theorem dL_law_1218 : decode cL_law 1218 = .ok (.dcmp .l, 1) := by decide +kernel
theorem dL_law_1219 : decode cL_law 1219 = .ok (.ifCond .eq 21, 3) := by decide +kernel
theorem dL_law_1222 : decode cL_law 1222 = .ok (.dload 5, 2) := by decide +kernel
theorem dL_law_1224 : decode cL_law 1224 = .ok (.dload 5, 2) := by decide +kernel
theorem dL_law_1226 : decode cL_law 1226 = .ok (.dcmp .l, 1) := by decide +kernel
theorem dL_law_1227 : decode cL_law 1227 = .ok (.ifCond .eq 11, 3) := by decide +kernel
theorem dL_law_1230 : decode cL_law 1230 = .ok (.dload 7, 2) := by decide +kernel
theorem dL_law_1232 : decode cL_law 1232 = .ok (.dload 7, 2) := by decide +kernel
theorem dL_law_1234 : decode cL_law 1234 = .ok (.dcmp .l, 1) := by decide +kernel
theorem dL_law_1235 : decode cL_law 1235 = .ok (.ifCond .ne 5, 3) := by decide +kernel
theorem dL_law_1238 : decode cL_law 1238 = .ok (.iconst 0, 1) := by decide +kernel
theorem dL_law_1239 : decode cL_law 1239 = .ok (.ireturn, 1) := by decide +kernel
theorem dL_law_1240 : decode cL_law 1240 = .ok (.goto 17, 3) := by decide +kernel
theorem dL_law_1243 : decode cL_law 1243 = .ok (.aload_n 1, 1) := by decide +kernel
theorem dL_law_1244 : decode cL_law 1244 = .ok (.invokevirtual 134, 3) := by decide +kernel
theorem dL_law_1247 : decode cL_law 1247 = .ok (.aload_n 2, 1) := by decide +kernel
theorem dL_law_1248 : decode cL_law 1248 = .ok (.invokevirtual 138, 3) := by decide +kernel
theorem dL_law_1251 : decode cL_law 1251 = .ok (.lcmp, 1) := by decide +kernel
theorem dL_law_1252 : decode cL_law 1252 = .ok (.ifCond .eq 5, 3) := by decide +kernel
theorem dL_law_1255 : decode cL_law 1255 = .ok (.iconst 0, 1) := by decide +kernel
theorem dL_law_1256 : decode cL_law 1256 = .ok (.ireturn, 1) := by decide +kernel
theorem dL_law_1257 : decode cL_law 1257 = .ok (.iinc 4 5, 3) := by decide +kernel
theorem dL_law_1260 : decode cL_law 1260 = .ok (.goto (-1237), 3) := by decide +kernel
theorem dL_law_1263 : decode cL_law 1263 = .ok (.iconst 1, 1) := by decide +kernel
theorem dL_law_1264 : decode cL_law 1264 = .ok (.ireturn, 1) := by decide +kernel
end
section
/-! ===== the memory: a cell's number, a place in it: an int; the graph of the cells stands still ===== -/
abbrev Mem : Type := Nat → Nat → Int32
def mst (M : Mem) (k j : Nat) (x : Int32) : Mem := fun a b => if a = k ∧ b = j then x else M a b
def mcp (M : Mem) (k0 k1 sp dp n : Nat) : Mem := fun a b => if a = k1 then va_cpy (M k0) (M k1) sp dp n b else M a b
theorem mst_row (M : Mem) (k j : Nat) (x : Int32) : mst M k j x k = upd (M k) j x := by
  funext b
  simp [mst, upd]
theorem mst_ne {M : Mem} {k j a : Nat} {x : Int32} (h : a ≠ k) : mst M k j x a = M a := by
  funext b
  simp [mst, h]
theorem mcp_row (M : Mem) (k0 k1 sp dp n : Nat) : mcp M k0 k1 sp dp n k1 = va_cpy (M k0) (M k1) sp dp n := by
  funext b
  simp [mcp]
theorem mcp_ne {M : Mem} {k0 k1 sp dp n a : Nat} (h : a ≠ k1) : mcp M k0 k1 sp dp n a = M a := by
  funext b
  simp [mcp, h]
/-- the kinds of the cells: 0 Crowd, 1 Night, 2 Patrol, 3 Quarter, 4 Ways, 5 LaneCrowds, 6 State, 7 Model, 8 int[], 9 Crowd[], 10 Patrol[] -/
def kdl : List Nat := [1, 3, 8, 9, 10, 0, 8, 0, 8, 0, 8, 0, 8, 0, 8, 0, 8, 2, 2, 2, 1, 3, 8, 9, 10, 0, 8, 0, 8, 0, 8, 0, 8, 0, 8, 0, 8, 2, 2, 2, 5, 4, 8, 8, 7, 8, 8, 8, 8, 6, 8, 8, 8, 8, 8, 8, 8, 8, 8, 6, 8, 8, 8, 8, 8, 8, 8, 8, 8]
def alenl : List Nat := [0, 0, 108, 6, 3, 0, 24, 0, 24, 0, 24, 0, 24, 0, 24, 0, 24, 0, 0, 0, 0, 0, 108, 6, 3, 0, 24, 0, 24, 0, 24, 0, 24, 0, 24, 0, 24, 0, 0, 0, 0, 0, 108, 216, 0, 3, 36, 108, 108, 0, 108, 6, 6, 6, 6, 144, 6, 3, 3, 0, 108, 6, 6, 6, 6, 144, 6, 3, 3]
def kd (k : Nat) : Nat := kdl.getD k 99
def alen (k : Nat) : Nat := alenl.getD k 0
theorem kd_lt {k c : Nat} (h : kd k = c) (hc : c < 99) : k < 69 := by
  rcases Nat.lt_or_ge k 69 with q | q
  · exact q
  · have : kd k = 99 := by
      have hn : kdl[k]? = none := List.getElem?_eq_none (show kdl.length ≤ k from q)
      simp [kd, List.getD, hn]
    omega
theorem alen_lt (k : Nat) : alen k < 2 ^ 31 := by
  rcases Nat.lt_or_ge k 69 with q | q
  · exact (by decide +kernel : ∀ k < 69, alen k < 2 ^ 31) k q
  · have : alen k = 0 := by
      have hn : alenl[k]? = none := List.getElem?_eq_none (show alenl.length ≤ k from q)
      simp [alen, List.getD, hn]
    omega
def inb (i : Int32) (n : Nat) : Bool := decide (¬ i < 0) && decide (i.toNatClampNeg < n)
theorem inb_vp {i : Int32} {n : Nat} (h : inb i n = true) : vp_in i n := by
  simp only [inb, Bool.and_eq_true, decide_eq_true_eq] at h
  intro q
  rcases q with q | q
  · exact h.1 q
  · omega
theorem inb_lt {i : Int32} {n : Nat} (h : inb i n = true) : i.toNatClampNeg < n := by
  simp only [inb, Bool.and_eq_true, decide_eq_true_eq] at h
  exact h.2
theorem inb_of {i : Int32} {n : Nat} (h0 : ¬ i < 0) (h : i.toNatClampNeg < n) : inb i n = true := by
  simp only [inb, Bool.and_eq_true, decide_eq_true_eq]
  exact ⟨h0, h⟩
def isb (x : Int32) : Bool := decide (x = 0) || decide (x = 1)
def elC (a : Nat) (i : Int32) : Nat := a + 2 + 2 * i.toNatClampNeg
def elP (a : Nat) (i : Int32) : Nat := a + 13 + i.toNatClampNeg
abbrev fl0 (g : Nat → Nat) (r : Nat → Int32) (k : Nat) : List Value := [.int (r 0), .int (r 1), .int (r 2), .ref (g (k + 1)), .int (r 4), .int (r 5)]
abbrev fl1 (g : Nat → Nat) (r : Nat → Int32) (k : Nat) : List Value := [.ref (g (k + 1)), .ref (g (k + 3)), .int (r 2), .ref (g (k + 4)), .int (r 4), .int (r 5)]
abbrev fl2 (g : Nat → Nat) (r : Nat → Int32) (k : Nat) : List Value := [.int (r 0), .int (r 1), .int (r 2), .int (r 3)]
abbrev fl3 (g : Nat → Nat) (r : Nat → Int32) (k : Nat) : List Value := [.ref (g (k + 1))]
abbrev fl4 (g : Nat → Nat) (r : Nat → Int32) (k : Nat) : List Value := [.ref (g (k + 1)), .ref (g (k + 2)), .int (r 2), .int (r 3)]
abbrev fl5 (g : Nat → Nat) (r : Nat → Int32) (k : Nat) : List Value := [.ref (g 0), .ref (g 20), .ref (g 41)]
abbrev fl6 (g : Nat → Nat) (r : Nat → Int32) (k : Nat) : List Value := [.int (r 0), .ref (g (k + 1)), .ref (g (k + 2)), .ref (g (k + 3)), .ref (g (k + 4)), .ref (g (k + 5)), .ref (g (k + 6)), .ref (g (k + 7)), .ref (g (k + 8)), .ref (g (k + 9)), .ref (g 44)]
abbrev fl7 (g : Nat → Nat) (r : Nat → Int32) (k : Nat) : List Value := [.int (r 0), .int (r 1), .int (r 2), .ref (g (k + 1)), .ref (g (k + 2)), .ref (g (k + 3)), .ref (g (k + 4)), .ref (g 49), .ref (g 59)]
/-- the classes of the arrays: int[], Crowd[], Patrol[] -/
abbrev vCA : Type := ClassId × ClassId × ClassId
def gdesc (ca : vCA) (g : Nat → Nat) (r : Nat → Int32) (k : Nat) : va_E := match kd k with
  | 0 => .inr (0, fl0 g r k)
  | 1 => .inr (1, fl1 g r k)
  | 2 => .inr (2, fl2 g r k)
  | 3 => .inr (3, fl3 g r k)
  | 4 => .inr (4, fl4 g r k)
  | 5 => .inr (5, fl5 g r k)
  | 6 => .inr (6, fl6 g r k)
  | 7 => .inr (7, fl7 g r k)
  | 8 => .inl (ca.1, alen k, .inl r)
  | 9 => .inl (ca.2.1, 6, .inr (.inr (.inr (.inr (fun j => some (g (k + 2 + 2 * j)))))))
  | 10 => .inl (ca.2.2, 3, .inr (.inr (.inr (.inr (fun j => some (g (k + 13 + j)))))))
  | _ => .inr (0, [])
def gws (ca : vCA) (g : Nat → Nat) (M : Mem) : va_W := (List.range 69).map (fun k => (g k, gdesc ca g (M k) k))
theorem gws_len (ca : vCA) (g : Nat → Nat) (M : Mem) : (gws ca g M).length = 69 := by simp [gws]
theorem gws_at (ca : vCA) (g : Nat → Nat) (M : Mem) {k : Nat} (hk : k < 69) : (gws ca g M)[k]? = some (g k, gdesc ca g (M k) k) := by
  simp [gws, hk]
theorem gws_of {ca : vCA} {g : Nat → Nat} {M : Mem} {k : Nat} {q : Nat × va_E} (h : (gws ca g M)[k]? = some q) : k < 69 ∧ q = (g k, gdesc ca g (M k) k) := by
  have hl : k < (gws ca g M).length := (List.getElem?_eq_some_iff.mp h).1
  rw [gws_len] at hl
  rw [gws_at ca g M hl] at h
  exact ⟨hl, (Option.some.inj h).symm⟩
theorem gws_set {ca : vCA} {g : Nat → Nat} {M M1 : Mem} {k : Nat} {e : va_E} (hk : k < 69) (he : gdesc ca g (M1 k) k = e) (ho : ∀ a, a ≠ k → M1 a = M a) : (gws ca g M).set k (g k, e) = gws ca g M1 := by
  apply List.ext_getElem?
  intro j
  by_cases hj : j < 69
  · rw [gws_at ca g M1 hj]
    by_cases h : j = k
    · subst h
      rw [List.getElem?_set_self (by rw [gws_len]; exact hj), he]
    · rw [List.getElem?_set_ne (Ne.symm h), gws_at ca g M hj, ho j h]
  · rw [List.getElem?_eq_none (by rw [List.length_set, gws_len]; omega), List.getElem?_eq_none (by rw [gws_len]; omega)]
theorem gd0 {ca : vCA} {g : Nat → Nat} {r : Nat → Int32} {k : Nat} (h : kd k = 0) : gdesc ca g r k = .inr (0, fl0 g r k) := by simp only [gdesc, h]
theorem gd1 {ca : vCA} {g : Nat → Nat} {r : Nat → Int32} {k : Nat} (h : kd k = 1) : gdesc ca g r k = .inr (1, fl1 g r k) := by simp only [gdesc, h]
theorem gd2 {ca : vCA} {g : Nat → Nat} {r : Nat → Int32} {k : Nat} (h : kd k = 2) : gdesc ca g r k = .inr (2, fl2 g r k) := by simp only [gdesc, h]
theorem gd3 {ca : vCA} {g : Nat → Nat} {r : Nat → Int32} {k : Nat} (h : kd k = 3) : gdesc ca g r k = .inr (3, fl3 g r k) := by simp only [gdesc, h]
theorem gd4 {ca : vCA} {g : Nat → Nat} {r : Nat → Int32} {k : Nat} (h : kd k = 4) : gdesc ca g r k = .inr (4, fl4 g r k) := by simp only [gdesc, h]
theorem gd5 {ca : vCA} {g : Nat → Nat} {r : Nat → Int32} {k : Nat} (h : kd k = 5) : gdesc ca g r k = .inr (5, fl5 g r k) := by simp only [gdesc, h]
theorem gd6 {ca : vCA} {g : Nat → Nat} {r : Nat → Int32} {k : Nat} (h : kd k = 6) : gdesc ca g r k = .inr (6, fl6 g r k) := by simp only [gdesc, h]
theorem gd7 {ca : vCA} {g : Nat → Nat} {r : Nat → Int32} {k : Nat} (h : kd k = 7) : gdesc ca g r k = .inr (7, fl7 g r k) := by simp only [gdesc, h]
theorem gd8 {ca : vCA} {g : Nat → Nat} {r : Nat → Int32} {k : Nat} (h : kd k = 8) : gdesc ca g r k = .inl (ca.1, alen k, .inl r) := by simp only [gdesc, h]
theorem gd9 {ca : vCA} {g : Nat → Nat} {r : Nat → Int32} {k : Nat} (h : kd k = 9) : gdesc ca g r k = .inl (ca.2.1, 6, .inr (.inr (.inr (.inr (fun j => some (g (k + 2 + 2 * j))))))) := by simp only [gdesc, h]
theorem gd10 {ca : vCA} {g : Nat → Nat} {r : Nat → Int32} {k : Nat} (h : kd k = 10) : gdesc ca g r k = .inl (ca.2.2, 3, .inr (.inr (.inr (.inr (fun j => some (g (k + 13 + j))))))) := by simp only [gdesc, h]
/-! the topology -/
theorem kt_orders {k : Nat} (h : kd k = 0) : kd (k + 1) = 8 := (by decide +kernel : ∀ k < 69, kd k = 0 → kd (k + 1) = 8) k (kd_lt h (by decide)) h
theorem ka_orders {k : Nat} (h : kd k = 0) : alen (k + 1) = 24 := (by decide +kernel : ∀ k < 69, kd k = 0 → alen (k + 1) = 24) k (kd_lt h (by decide)) h
theorem kt_quarter {k : Nat} (h : kd k = 1) : kd (k + 1) = 3 := (by decide +kernel : ∀ k < 69, kd k = 1 → kd (k + 1) = 3) k (kd_lt h (by decide)) h
theorem kt_crowds {k : Nat} (h : kd k = 1) : kd (k + 3) = 9 := (by decide +kernel : ∀ k < 69, kd k = 1 → kd (k + 3) = 9) k (kd_lt h (by decide)) h
theorem kt_patrols {k : Nat} (h : kd k = 1) : kd (k + 4) = 10 := (by decide +kernel : ∀ k < 69, kd k = 1 → kd (k + 4) = 10) k (kd_lt h (by decide)) h
theorem kt_qcells {k : Nat} (h : kd k = 3) : kd (k + 1) = 8 := (by decide +kernel : ∀ k < 69, kd k = 3 → kd (k + 1) = 8) k (kd_lt h (by decide)) h
theorem kt_far {k : Nat} (h : kd k = 4) : kd (k + 1) = 8 := (by decide +kernel : ∀ k < 69, kd k = 4 → kd (k + 1) = 8) k (kd_lt h (by decide)) h
theorem kt_line {k : Nat} (h : kd k = 4) : kd (k + 2) = 8 := (by decide +kernel : ∀ k < 69, kd k = 4 → kd (k + 2) = 8) k (kd_lt h (by decide)) h
theorem kt_st {k : Nat} (h : kd k = 6) : kd (k + 1) = 8 ∧ kd (k + 2) = 8 ∧ kd (k + 3) = 8 ∧ kd (k + 4) = 8 ∧ kd (k + 5) = 8 ∧ kd (k + 6) = 8 ∧ kd (k + 7) = 8 ∧ kd (k + 8) = 8 ∧ kd (k + 9) = 8 := (by decide +kernel : ∀ k < 69, kd k = 6 → kd (k + 1) = 8 ∧ kd (k + 2) = 8 ∧ kd (k + 3) = 8 ∧ kd (k + 4) = 8 ∧ kd (k + 5) = 8 ∧ kd (k + 6) = 8 ∧ kd (k + 7) = 8 ∧ kd (k + 8) = 8 ∧ kd (k + 9) = 8) k (kd_lt h (by decide)) h
theorem kt_s1 {k : Nat} (h : kd k = 6) : kd (k + 1) = 8 := (kt_st h).1
theorem kt_s2 {k : Nat} (h : kd k = 6) : kd (k + 2) = 8 := (kt_st h).2.1
theorem kt_s3 {k : Nat} (h : kd k = 6) : kd (k + 3) = 8 := (kt_st h).2.2.1
theorem kt_s4 {k : Nat} (h : kd k = 6) : kd (k + 4) = 8 := (kt_st h).2.2.2.1
theorem kt_s5 {k : Nat} (h : kd k = 6) : kd (k + 5) = 8 := (kt_st h).2.2.2.2.1
theorem kt_s6 {k : Nat} (h : kd k = 6) : kd (k + 6) = 8 := (kt_st h).2.2.2.2.2.1
theorem kt_s7 {k : Nat} (h : kd k = 6) : kd (k + 7) = 8 := (kt_st h).2.2.2.2.2.2.1
theorem kt_s8 {k : Nat} (h : kd k = 6) : kd (k + 8) = 8 := (kt_st h).2.2.2.2.2.2.2.1
theorem kt_s9 {k : Nat} (h : kd k = 6) : kd (k + 9) = 8 := (kt_st h).2.2.2.2.2.2.2.2
theorem kt_m {k : Nat} (h : kd k = 7) : kd (k + 1) = 8 ∧ kd (k + 2) = 8 ∧ kd (k + 3) = 8 ∧ kd (k + 4) = 8 := (by decide +kernel : ∀ k < 69, kd k = 7 → kd (k + 1) = 8 ∧ kd (k + 2) = 8 ∧ kd (k + 3) = 8 ∧ kd (k + 4) = 8) k (kd_lt h (by decide)) h
theorem kt_m1 {k : Nat} (h : kd k = 7) : kd (k + 1) = 8 := (kt_m h).1
theorem kt_m2 {k : Nat} (h : kd k = 7) : kd (k + 2) = 8 := (kt_m h).2.1
theorem kt_m3 {k : Nat} (h : kd k = 7) : kd (k + 3) = 8 := (kt_m h).2.2.1
theorem kt_m4 {k : Nat} (h : kd k = 7) : kd (k + 4) = 8 := (kt_m h).2.2.2
theorem kt_elC {k : Nat} {i : Int32} (h : kd k = 9) (hi : inb i 6 = true) : kd (elC k i) = 0 := (by decide +kernel : ∀ k < 69, ∀ j < 6, kd k = 9 → kd (k + 2 + 2 * j) = 0) k (kd_lt h (by decide)) _ (inb_lt hi) h
theorem kt_elP {k : Nat} {i : Int32} (h : kd k = 10) (hi : inb i 3 = true) : kd (elP k i) = 2 := (by decide +kernel : ∀ k < 69, ∀ j < 3, kd k = 10 → kd (k + 13 + j) = 2) k (kd_lt h (by decide)) _ (inb_lt hi) h
/-! ===== the facts of the tables, and the graph on a heap ===== -/
def okW (w : Cond) : Bool := (w.onTables && w.keeps) || (match w with
  | .fieldLinkNest _ _ _ _ _ _ => true
  | .methodLinkNest _ _ _ _ => true
  | .castable _ _ => true
  | _ => false)
theorem castable_warm {a b : String} {s U : State} (hW : s.WarmedH U.vm) (h : va_Nw (.castable a b) s) : va_Nw (.castable a b) U := by
  have e1 := hW.alike.findClass
  have e2 := hW.alike.assignable
  unfold va_Nw Cond.before Cond.holds at h ⊢
  simp only [Cond.value] at h ⊢
  simp only [e1, e2]
  exact h
def KD (U : State) : Prop := ∀ w ∈ lw_tbl, okW w = true → va_Nw w U
theorem okW_on {w : Cond} (h : okW w = true) : w.onTables = true := by
  cases w <;> first | rfl | (simp [okW, Cond.onTables] at h ⊢; done) | (simp only [okW, Bool.or_false, Bool.and_eq_true] at h; exact h.1)
theorem KD.warm {s U : State} (hW : s.WarmedH U.vm) (h : KD s) : KD U := by
  intro w hw ho
  have hs := h w hw ho
  by_cases hg : (w.onTables && w.keeps) = true
  · exact word_at hW (Or.inl hg) hs
  · cases w <;> first | exact va_Nw.warmF hW hs | exact va_Nw.warmM hW hs | exact castable_warm hW hs | (exfalso; apply hg; simp only [okW, Bool.or_false] at ho; exact ho)
theorem KD.same {s U : State} (h : s.vm = U.vm) (hK : KD s) : KD U := fun w hw ho => va_Nw.same (okW_on ho) h (hK w hw ho)
def gA (g : Nat → Nat) (sz : Nat) : Nat → Prop := fun q => (∃ k, k < 69 ∧ q = g k) ∨ sz ≤ q
def gInj (g : Nat → Nat) : Prop := ∀ i j, i < 69 → j < 69 → g i = g j → i = j
/-- the two statics of the reference -/
def byX (j : Nat) : Value := .int (if j = 1 then 1 else if j = 3 then -1 else 0)
def byY (j : Nat) : Value := .int (if j = 0 then -1 else if j = 2 then 1 else 0)
def KS (g : Nat → Nat) (U : State) : Prop := ∃ tx ty : Nat, va_Z "LaneCrowdsModel" "BY_X" "[I" (.ref tx) (gA g U.heap.size) U U.heap ∧ va_Z "LaneCrowdsModel" "BY_Y" "[I" (.ref ty) (gA g U.heap.size) U U.heap ∧ va_T .int tx 4 byX (gA g U.heap.size) U U.heap ∧ va_T .int ty 4 byY (gA g U.heap.size) U U.heap
/-- what the throws need of the world: the texts, two statics of Throwable, the exceptions' kinds -/
def xtx : List (Nat × String) := [(46, "barricades or somebody there"), (57, "barricades not 0 to 3"), (60, "a house or somebody there"), (62, "people not 1 to 9"), (71, "6 crowds already, or the cell is not free"), (80, "code not 0 to 11"), (95, "scattered, or 24 orders already"), (100, "scattered"), (106, "length not 1 to 12, or round not of so many digits"), (111, "3 patrols already, or the cell is not free"), (191, "no such cell"), (194, "no such crowd"), (196, "no such patrol"), (198, "no such number is told"), (200, "steps not 1 to 60")]
abbrev xI : String := "java/lang/IndexOutOfBoundsException"
abbrev xS : String := "java/lang/IllegalStateException"
abbrev xA : String := "java/lang/IllegalArgumentException"
def xnc : List (String × String) := [(xI, xS), (xI, xA), (xS, xI), (xS, xA), (xA, xI), (xA, xS)]
def KX (g : Nat → Nat) (U : State) : Prop := vx_Zq Bundle.tN "UNASSIGNED_STACK" Bundle.steD (gA g U.heap.size) U U.heap ∧ vx_Zq Bundle.tN "SUPPRESSED_SENTINEL" Bundle.listD (gA g U.heap.size) U U.heap ∧ (∀ q ∈ xtx, ∃ sa : Nat, vk_R RX5 q.1 q.2 sa U) ∧ (∀ q ∈ xnc, va_Nc q.1 q.2 U)
abbrev tyL (ca : vCA) : List (ClassId × FieldType) := [(ca.1, .int), (ca.2.1, .object RX0), (ca.2.2, .object RX2)]
def KW (D : va_G) (ca : vCA) (g : Nat → Nat) (U : State) : Prop := va_K D vwCl (tyL ca) U ∧ KD U ∧ gInj g ∧ KS g U ∧ KX g U
theorem gA_mono {g : Nat → Nat} {a b q : Nat} (h : a ≤ b) (hq : gA g b q) : gA g a q := by
  rcases hq with hq | hq
  · exact Or.inl hq
  · exact Or.inr (by omega)
theorem gA_new {g : Nat → Nat} {sz q : Nat} (h : sz ≤ q) : gA g sz q := Or.inr h
theorem gA_at {g : Nat → Nat} {sz k : Nat} (h : k < 69) : gA g sz (g k) := Or.inl ⟨k, h, rfl⟩
theorem gD {g : Nat → Nat} (hi : gInj g) (ca : vCA) (M : Mem) (sz : Nat) : va_D (gA g sz) (gws ca g M) := by
  refine ⟨fun i j p q h1 h2 h3 => ?_, fun k q h => ?_⟩
  · obtain ⟨a1, rfl⟩ := gws_of h1
    obtain ⟨a2, rfl⟩ := gws_of h2
    exact hi i j a1 a2 h3
  · obtain ⟨a1, rfl⟩ := gws_of h
    exact gA_at a1
theorem KS.to {g : Nat → Nat} {s U : State} {locs : List Loc} (h : KS g s) (hvm : s.vm.Alike U.vm) (hS : va_S (gA g s.heap.size) s.heap U.heap locs) : KS g U := by
  obtain ⟨tx, ty, h1, h2, h3, h4⟩ := h
  have hq : ∀ a : Nat, a < s.heap.size → ¬ gA g s.heap.size a → U.heap[a]? = s.heap[a]? := hS.2.1
  have hn : ∀ q, gA g U.heap.size q → gA g s.heap.size q := fun q h => gA_mono hS.1 h
  exact ⟨tx, ty, ((h1.kept hq).narrow hn).moved hvm, ((h2.kept hq).narrow hn).moved hvm, ((h3.kept hq).narrow hn).moved hvm, ((h4.kept hq).narrow hn).moved hvm⟩
theorem KX.to {g : Nat → Nat} {s U : State} {locs : List Loc} (h : KX g s) (hW : s.WarmedH U.vm) (hS : va_S (gA g s.heap.size) s.heap U.heap locs) : KX g U := by
  obtain ⟨h1, h2, h3, h4⟩ := h
  have hq : ∀ a : Nat, a < s.heap.size → ¬ gA g s.heap.size a → U.heap[a]? = s.heap[a]? := hS.2.1
  have hn : ∀ q, gA g U.heap.size q → gA g s.heap.size q := fun q h => gA_mono hS.1 h
  exact ⟨((h1.kept hq).narrow hn).moved hW.alike, ((h2.kept hq).narrow hn).moved hW.alike, fun q hq => by
    obtain ⟨sa, h⟩ := h3 q hq
    exact ⟨sa, h.warm hW⟩, fun q hq => (h4 q hq).moved hW.alike⟩
/-- the graph on a heap, within a method that began at s -/
def GW (D : va_G) (ca : vCA) (g : Nat → Nat) (s : State) (M : Mem) (H : Heap) (locs : List Loc) : Prop := va_P D vwCl (gws ca g M) H ∧ va_S (gA g s.heap.size) s.heap H locs
theorem KW.to {D : va_G} {ca : vCA} {g : Nat → Nat} {s U : State} {M : Mem} {locs : List Loc} (h : KW D ca g s) (hW : s.WarmedH U.vm) (hS : va_S (gA g s.heap.size) s.heap U.heap locs) : KW D ca g U := ⟨va_K.moved hW.alike h.1, h.2.1.warm hW, h.2.2.1, h.2.2.2.1.to hW.alike hS, h.2.2.2.2.to hW hS⟩
/-- a contract's start -/
def cPc (D : va_G) (ca : vCA) (g : Nat → Nat) (M : Mem) (sz : Nat) (av : List Value) : Array Value → State → Prop := va_Pc av (fun U => U.heap.size = sz ∧ va_P D vwCl (gws ca g M) U.heap ∧ KW D ca g U)
theorem cPc_blind (D : va_G) (ca : vCA) (g : Nat → Nat) (M : Mem) (sz : Nat) (av : List Value) : FrameBlind (cPc D ca g M sz av) := by
  intro a U f mk q
  obtain ⟨q0, q1, qP, qK, qD, qI, qS, qX⟩ := q
  exact ⟨q0, q1, qP, va_K.moved (u := U) (U := U.calling f mk a) (Vm.Alike.refl U.vm) qK, KD.same (s := U) (U := U.calling f mk a) rfl qD, qI, KS.to (s := U) (U := U.calling f mk a) (locs := []) qS (Vm.Alike.refl U.vm) va_S.rf, KX.to (s := U) (U := U.calling f mk a) (locs := []) qX (State.WarmedH.refl U) va_S.rf⟩
def wB (D : va_G) (ca : vCA) (g : Nat → Nat) (N : Mem) (t : State) : Prop := va_P D vwCl (gws ca g N) t.heap
def cQi (D : va_G) (ca : vCA) (g : Nat → Nat) (sz : Nat) (M' : Mem) (r : Int32) : Array Value → State → Outcome → State → Prop := va_Qi (fun (r' : Int32) (N : Mem) => r' = r ∧ N = M') (wB D ca g) (gA g sz)
def cQl (D : va_G) (ca : vCA) (g : Nat → Nat) (sz : Nat) (M' : Mem) (r : Int64) : Array Value → State → Outcome → State → Prop := va_Ql (fun (r' : Int64) (N : Mem) => r' = r ∧ N = M') (wB D ca g) (gA g sz)
def cQd (D : va_G) (ca : vCA) (g : Nat → Nat) (sz : Nat) (M' : Mem) (r : UInt64) : Array Value → State → Outcome → State → Prop := va_Qd (fun (r' : UInt64) (N : Mem) => r' = r ∧ N = M') (wB D ca g) (gA g sz)
def cQv (D : va_G) (ca : vCA) (g : Nat → Nat) (sz : Nat) (M' : Mem) : Array Value → State → Outcome → State → Prop := va_Qv (fun (N : Mem) => N = M') (wB D ca g) (gA g sz)
end
section
section RW
variable {p : Program} {l : Launch} {e : Env} {R : Room} {s : State} {m : MethodId} {args : Array Value} {below : List Frame} {meth : Method} {c : Code} {H : Heap} {locs : List Loc} {cells slots : Nat} {Q : State → Prop}
variable {cc : ByteArray} {nL pc : Nat} {ls : Array Slot} {rest : List Value} {D : va_G} {ca : vCA} {g : Nat → Nat} {M M1 : Mem} {own : String} {k : Nat}
/-- what stands fast within a method -/
def FX (p : Program) (m : MethodId) (c : Code) (cc : ByteArray) (nL : Nat) (s : State) (D : va_G) (ca : vCA) (g : Nat → Nat) (own : String) : Prop := p.tables.exec = Jvm.exec ∧ c.code = cc ∧ c.maxLocals = nL ∧ s.vm.findClass own = some m.cls ∧ KW D ca g s
theorem FX.kd (F : FX p m c cc nL s D ca g own) : KD s := F.2.2.2.2.2.1
theorem FX.inj (F : FX p m c cc nL s D ca g own) : gInj g := F.2.2.2.2.2.2.1
theorem FX.ks (F : FX p m c cc nL s D ca g own) : KS g s := F.2.2.2.2.2.2.2.1
theorem FX.kx (F : FX p m c cc nL s D ca g own) : KX g s := F.2.2.2.2.2.2.2.2
theorem FX.hK (F : FX p m c cc nL s D ca g own) : va_K D vwCl (tyL ca) s := F.2.2.2.2.1
theorem GW.put (hi : gInj g) (hG : GW D ca g s M H locs) {H1 : Heap} {locs1 : List Loc} (hk : k < 69) {el : va_E} (hP : va_P D vwCl ((gws ca g M).set k (g k, el)) H1) (he : gdesc ca g (M1 k) k = el) (ho : ∀ a, a ≠ k → M1 a = M a) (hS : va_S (gA g s.heap.size) s.heap H1 locs1) : GW D ca g s M1 H1 locs1 := ⟨by rw [gws_set hk he ho] at hP; exact hP, hS⟩
/-- a field is read -/
theorem r_get (F : FX p m c cc nL s D ca g own) (hG : GW D ca g s M H locs) {C : String} {T : u_T} {N ci index : Nat} {fs : List Value} (hk : k < 69) (hd : gdesc ca g (M k) k = .inr (ci, fs)) (hc : vwCl[ci]? = some (C, T, N)) (hu : ∀ w ∈ u_ws C T N, w.before args s = true) (j : Nat) (hj : j < N) (hlink : (Cond.fieldLink own index (T j).1 (T j).2.1 (T j).2.2.1).before args s = true) {v : Value} (hv : fs[j]? = some v) (hdg : decode cc pc = .ok (.getfield index, 3))
    (kk : W p l e R s m args below meth c H locs cells slots Q (F0 m (pc + 3) ls (v :: rest))) : W p l e R s m args below meth c H locs cells slots Q (F0 m pc ls (.ref (g k) :: rest)) :=
  va_get (D := D) (ci := ci) F.1 F.2.1 hu (fun _ h => h) F.2.2.2.1 F.hK hG.1 k (by rw [gws_at ca g M hk, hd]) hc j hj hlink (fun _ h9 => h9) hv hdg kk
theorem r_getN (F : FX p m c cc nL s D ca g own) (hG : GW D ca g s M H locs) {C host : String} {T : u_T} {N ci index : Nat} {fs : List Value} (hk : k < 69) (hd : gdesc ca g (M k) k = .inr (ci, fs)) (hc : vwCl[ci]? = some (C, T, N)) (hu : ∀ w ∈ u_ws C T N, w.before args s = true) (j : Nat) (hj : j < N) (hlink : (Cond.fieldLinkNest own index (T j).1 (T j).2.1 (T j).2.2.1 host).before args s = true) {v : Value} (hv : fs[j]? = some v) (hdg : decode cc pc = .ok (.getfield index, 3))
    (kk : W p l e R s m args below meth c H locs cells slots Q (F0 m (pc + 3) ls (v :: rest))) : W p l e R s m args below meth c H locs cells slots Q (F0 m pc ls (.ref (g k) :: rest)) :=
  va_getN (D := D) (ci := ci) F.1 F.2.1 hu (fun _ h => h) F.2.2.2.1 F.hK hG.1 k (by rw [gws_at ca g M hk, hd]) hc j hj hlink (fun _ h9 => h9) hv hdg kk
/-- a field of ints is written -/
theorem r_put (F : FX p m c cc nL s D ca g own) (hG : GW D ca g s M H locs) {C : String} {T : u_T} {N ci index : Nat} {fs fs1 : List Value} {ty0 : Nat → FieldType} {x : Int32} {j : Nat} {ty : FieldType} (hk : k < 69) (eM : M1 = mst M k j x) (hd : gdesc ca g (M k) k = .inr (ci, fs)) (hd1 : gdesc ca g (upd (M k) j x) k = .inr (ci, fs.set j (.int x))) (hc : vwCl[ci]? = some (C, T, N)) (hu : ∀ w ∈ u_ws C T N, w.before args s = true) (hty : ∀ k, k < N → parseFieldDescriptor (T k).2.2.1 = some (ty0 k)) (hnm : ∀ a, a < N → ∀ b, b < N → a ≠ b → (T a).2.1 ≠ (T b).2.1) (hj : j < N) (hlink : (Cond.fieldLink own index (T j).1 (T j).2.1 (T j).2.2.1).before args s = true) (hfin : (T j).2.2.2 = false) (hpd : parseFieldDescriptor (T j).2.2.1 = some ty) (hn : narrow ty (.int x) = .int x) (hfit : fits ty (.int x) = true) (hl : j < fs.length) (hdg : decode cc pc = .ok (.putfield index, 3))
    (kk : ∀ (H1 : Heap) (locs1 : List Loc), GW D ca g s M1 H1 locs1 → W p l e R s m args below meth c H1 locs1 cells slots Q (F0 m (pc + 3) ls rest)) : W p l e R s m args below meth c H locs cells slots Q (F0 m pc ls (.int x :: .ref (g k) :: rest)) :=
  va_put (D := D) (ci := ci) F.1 F.2.1 hu (fun _ h => h) ty0 hty hnm F.2.2.2.1 F.hK hG.1 (gD F.inj ca M _) hG.2 k (by rw [gws_at ca g M hk, hd]) hc j hj hlink (fun _ h9 => h9) hfin hpd hn hfit hl hdg (fun H1 locs1 hP _ hS => kk H1 locs1 (GW.put F.inj hG hk hP (by rw [eM, mst_row]; exact hd1) (fun a ha => by rw [eM]; exact mst_ne ha) hS))
theorem r_putN (F : FX p m c cc nL s D ca g own) (hG : GW D ca g s M H locs) {C host : String} {T : u_T} {N ci index : Nat} {fs fs1 : List Value} {ty0 : Nat → FieldType} {x : Int32} {j : Nat} {ty : FieldType} (hk : k < 69) (eM : M1 = mst M k j x) (hd : gdesc ca g (M k) k = .inr (ci, fs)) (hd1 : gdesc ca g (upd (M k) j x) k = .inr (ci, fs.set j (.int x))) (hc : vwCl[ci]? = some (C, T, N)) (hu : ∀ w ∈ u_ws C T N, w.before args s = true) (hty : ∀ k, k < N → parseFieldDescriptor (T k).2.2.1 = some (ty0 k)) (hnm : ∀ a, a < N → ∀ b, b < N → a ≠ b → (T a).2.1 ≠ (T b).2.1) (hj : j < N) (hlink : (Cond.fieldLinkNest own index (T j).1 (T j).2.1 (T j).2.2.1 host).before args s = true) (hfin : (T j).2.2.2 = false) (hpd : parseFieldDescriptor (T j).2.2.1 = some ty) (hn : narrow ty (.int x) = .int x) (hfit : fits ty (.int x) = true) (hl : j < fs.length) (hdg : decode cc pc = .ok (.putfield index, 3))
    (kk : ∀ (H1 : Heap) (locs1 : List Loc), GW D ca g s M1 H1 locs1 → W p l e R s m args below meth c H1 locs1 cells slots Q (F0 m (pc + 3) ls rest)) : W p l e R s m args below meth c H locs cells slots Q (F0 m pc ls (.int x :: .ref (g k) :: rest)) :=
  va_putN (D := D) (ci := ci) F.1 F.2.1 hu (fun _ h => h) ty0 hty hnm F.2.2.2.1 F.hK hG.1 (gD F.inj ca M _) hG.2 k (by rw [gws_at ca g M hk, hd]) hc j hj hlink (fun _ h9 => h9) hfin hpd hn hfit hl hdg (fun H1 locs1 hP _ hS => kk H1 locs1 (GW.put F.inj hG hk hP (by rw [eM, mst_row]; exact hd1) (fun a ha => by rw [eM]; exact mst_ne ha) hS))
/-- arrays of ints -/
theorem r_ald (F : FX p m c cc nL s D ca g own) (hG : GW D ca g s M H locs) (hk : kd k = 8) {i : Int32} (hi : inb i (alen k) = true) (hdg : decode cc pc = .ok (.iaload, 1))
    (kk : W p l e R s m args below meth c H locs cells slots Q (F0 m (pc + 1) ls (.int (M k i.toNatClampNeg) :: rest))) : W p l e R s m args below meth c H locs cells slots Q (F0 m pc ls (.int i :: .ref (g k) :: rest)) :=
  va_iald (D := D) F.1 F.2.1 F.hK hG.1 k 0 (by rw [gws_at ca g M (kd_lt hk (by decide)), gd8 hk]) rfl (inb_vp hi) hdg kk
theorem r_ast (F : FX p m c cc nL s D ca g own) (hG : GW D ca g s M H locs) (hk : kd k = 8) {i x : Int32} (hi : inb i (alen k) = true) (eM : M1 = mst M k i.toNatClampNeg x) (hdg : decode cc pc = .ok (.iastore, 1))
    (kk : ∀ (H1 : Heap) (locs1 : List Loc), GW D ca g s M1 H1 locs1 → W p l e R s m args below meth c H1 locs1 cells slots Q (F0 m (pc + 1) ls rest)) : W p l e R s m args below meth c H locs cells slots Q (F0 m pc ls (.int x :: .int i :: .ref (g k) :: rest)) :=
  va_iast (D := D) F.1 F.2.1 F.hK hG.1 (gD F.inj ca M _) hG.2 k 0 (by rw [gws_at ca g M (kd_lt hk (by decide)), gd8 hk]) rfl (inb_vp hi) hdg (fun H1 locs1 hP _ hS => kk H1 locs1 (GW.put F.inj hG (kd_lt hk (by decide)) hP (by rw [eM, mst_row, gd8 hk]) (fun a ha => by rw [eM]; exact mst_ne ha) hS))
theorem r_alen (F : FX p m c cc nL s D ca g own) (hG : GW D ca g s M H locs) (hk : kd k = 8) {v : Int32} (hv : Int32.ofNat (alen k) = v) (hdg : decode cc pc = .ok (.arraylength, 1))
    (kk : W p l e R s m args below meth c H locs cells slots Q (F0 m (pc + 1) ls (.int v :: rest))) : W p l e R s m args below meth c H locs cells slots Q (F0 m pc ls (.ref (g k) :: rest)) :=
  va_alen (D := D) F.1 F.2.1 F.hK hG.1 k 0 (by rw [gws_at ca g M (kd_lt hk (by decide)), gd8 hk]) rfl hv hdg kk
theorem r_aldC (F : FX p m c cc nL s D ca g own) (hG : GW D ca g s M H locs) (hk : kd k = 9) {i : Int32} (hi : inb i 6 = true) (hdg : decode cc pc = .ok (.aaload, 1))
    (kk : W p l e R s m args below meth c H locs cells slots Q (F0 m (pc + 1) ls (.ref (g (elC k i)) :: rest))) : W p l e R s m args below meth c H locs cells slots Q (F0 m pc ls (.int i :: .ref (g k) :: rest)) :=
  va_aldq (D := D) (f := fun j => some (g (k + 2 + 2 * j))) F.1 F.2.1 F.hK hG.1 k 1 (by rw [gws_at ca g M (kd_lt hk (by decide)), gd9 hk]) rfl (inb_vp hi) hdg kk
theorem r_aldP (F : FX p m c cc nL s D ca g own) (hG : GW D ca g s M H locs) (hk : kd k = 10) {i : Int32} (hi : inb i 3 = true) (hdg : decode cc pc = .ok (.aaload, 1))
    (kk : W p l e R s m args below meth c H locs cells slots Q (F0 m (pc + 1) ls (.ref (g (elP k i)) :: rest))) : W p l e R s m args below meth c H locs cells slots Q (F0 m pc ls (.int i :: .ref (g k) :: rest)) :=
  va_aldq (D := D) (f := fun j => some (g (k + 13 + j))) F.1 F.2.1 F.hK hG.1 k 2 (by rw [gws_at ca g M (kd_lt hk (by decide)), gd10 hk]) rfl (inb_vp hi) hdg kk
/-- System.arraycopy between arrays of ints -/
def cpok (sp dp n : Int32) (n0 n1 : Nat) : Bool := decide (¬ sp < 0) && decide (¬ dp < 0) && decide (¬ n < 0) && decide (sp.toNatClampNeg + n.toNatClampNeg ≤ n0) && decide (dp.toNatClampNeg + n.toNatClampNeg ≤ n1)
theorem r_copy (F : FX p m c cc nL s D ca g own) (hG : GW D ca g s M H locs) {k0 k1 index : Nat} (h0 : kd k0 = 8) (h1 : kd k1 = 8) {sp dp n : Int32} (hok : cpok sp dp n (alen k0) (alen k1) = true) (eM : M1 = mcp M k0 k1 sp.toNatClampNeg dp.toNatClampNeg n.toNatClampNeg) (hls : ls.size = nL) (hlink : (Cond.methodLink own index arraycopyName).before args s = true) (hnat : (Cond.native arraycopyName).before args s = true) (hstat : (Cond.static arraycopyName).before args s = true) (hini : (Cond.initialized "java/lang/System").before args s = true) (hframes : 1 ≤ R.frames) (hlocals : (rest.map fun v => v.category).sum + (nativeFrameWords "java/lang/System" "arraycopy" 5 + 11) ≤ R.locals) (hdg : decode cc pc = .ok (.invokestatic index, 3))
    (kk : ∀ (H1 : Heap) (locs1 : List Loc), GW D ca g s M1 H1 locs1 → W p l e R s m args below meth c H1 locs1 cells slots Q (F0 m (pc + 3) ls rest)) : W p l e R s m args below meth c H locs cells slots Q (F0 m pc ls (.int n :: .int dp :: .ref (g k1) :: .int sp :: .ref (g k0) :: rest)) := by
  simp only [cpok, Bool.and_eq_true, decide_eq_true_eq] at hok
  obtain ⟨⟨⟨⟨q1, q2⟩, q3⟩, q4⟩, q5⟩ := hok
  exact va_copyi (D := D) F.1 F.2.1 (F.2.2.1.trans hls.symm) F.2.2.2.1 hlink hnat hstat hini F.hK hG.1 (gD F.inj ca M _) hG.2 k0 k1 0 0 (by rw [gws_at ca g M (kd_lt h0 (by decide)), gd8 h0]) (by rw [gws_at ca g M (kd_lt h1 (by decide)), gd8 h1]) rfl rfl rfl q1 q2 q3 q4 q5 (fun _ _ => rfl) hframes hlocals hdg (fun H1 locs1 hP _ hS => kk H1 locs1 (GW.put F.inj hG (kd_lt h1 (by decide)) hP (by rw [eM, mcp_row, gd8 h1]) (fun a ha => by rw [eM]; exact mcp_ne ha) hS))
/-! the ends -/
theorem end_i {r : Int32} (F : FX p m c cc nL s D ca g own) (hr : meth.sig.returnType = some .int) (hlocks : meth.locks = false) (hG : GW D ca g s M H locs) (hdg : decode cc pc = .ok (.ireturn, 1)) : W p l e R s m args below meth c H locs cells slots (MQ below (cQi D ca g s.heap.size M r) args s cells slots (gA g s.heap.size)) (F0 m pc ls [.int r]) :=
  W.iret (v := r) F.1 F.2.1 hr (fun t ht hW => ⟨⟨r, M, rfl, ⟨rfl, rfl⟩, by show va_P D vwCl (gws ca g M) t.heap; rw [ht]; exact hG.1⟩, hG.2.F ht⟩) hG.2.2.2 hdg hlocks
theorem isb_nar {x : Int32} (h : isb x = true) : narrow .boolean (.int x) = .int x ∧ fits .boolean (.int x) = true := by
  simp only [isb, Bool.or_eq_true, decide_eq_true_eq] at h
  rcases h with rfl | rfl <;> exact ⟨by decide, by decide⟩
theorem end_z {r : Int32} (F : FX p m c cc nL s D ca g own) (hr : meth.sig.returnType = some .boolean) (hlocks : meth.locks = false) (hz : isb r = true) (hG : GW D ca g s M H locs) (hdg : decode cc pc = .ok (.ireturn, 1)) : W p l e R s m args below meth c H locs cells slots (MQ below (cQi D ca g s.heap.size M r) args s cells slots (gA g s.heap.size)) (F0 m pc ls [.int r]) :=
  W.zret (v := r) F.1 F.2.1 hr (isb_nar hz).1 (fun t ht hW => ⟨⟨r, M, rfl, ⟨rfl, rfl⟩, by show va_P D vwCl (gws ca g M) t.heap; rw [ht]; exact hG.1⟩, hG.2.F ht⟩) hG.2.2.2 hdg hlocks
theorem end_l {r : Int64} (F : FX p m c cc nL s D ca g own) (hr : meth.sig.returnType = some .long) (hlocks : meth.locks = false) (hG : GW D ca g s M H locs) (hdg : decode cc pc = .ok (.lreturn, 1)) : W p l e R s m args below meth c H locs cells slots (MQ below (cQl D ca g s.heap.size M r) args s cells slots (gA g s.heap.size)) (F0 m pc ls [.long r]) :=
  W.lret (v := r) F.1 F.2.1 hr (fun t ht hW => ⟨⟨r, M, rfl, ⟨rfl, rfl⟩, by show va_P D vwCl (gws ca g M) t.heap; rw [ht]; exact hG.1⟩, hG.2.F ht⟩) hG.2.2.2 hdg hlocks
theorem end_v (F : FX p m c cc nL s D ca g own) (hr : meth.sig.returnType = none) (hlocks : meth.locks = false) (hG : GW D ca g s M H locs) (hdg : decode cc pc = .ok (.return_, 1)) : W p l e R s m args below meth c H locs cells slots (MQ below (cQv D ca g s.heap.size M) args s cells slots (gA g s.heap.size)) (F0 m pc ls []) :=
  W.vret F.1 F.2.1 hr (fun t ht hW => ⟨⟨M, rfl, rfl, by show va_P D vwCl (gws ca g M) t.heap; rw [ht]; exact hG.1⟩, hG.2.F ht⟩) hG.2.2.2 hdg
end RW
/-! ===== contracts over the whole graph, and their calls ===== -/
def cM (l : Launch) (y : MethodName) (bytes : ByteArray) (maxL : Nat) (ret : Option FieldType) (rm : Room) (D : va_G) (ca : vCA) (g : Nat → Nat) (M : Mem) (av : List Value) (Qc : Nat → Array Value → State → Outcome → State → Prop) : Prop :=
  ∀ sz : Nat, Met l y [Cond.code y bytes maxL ret] rm (cPc D ca g M sz av) (Qc sz) rm.cells rm.slots (gA g sz)
theorem mk_Met {l : Launch} {y : MethodName} {bytes : ByteArray} {maxL : Nat} {ret : Option FieldType} {rm : Room} {D : va_G} {ca : vCA} {g : Nat → Nat} {M : Mem} {av : List Value} {Qc : Nat → Array Value → State → Outcome → State → Prop} (hy : plainName y.cls = true) (hn : (lg_sl av).length ≤ maxL)
    (body : ∀ (p : Program) (e : Env) (s : State) (m : MethodId) (below : List Frame) (meth : Method) (c : Code), FX p m c bytes maxL s D ca g y.cls → meth.sig.returnType = ret → meth.locks = false → meth.name = y.name → GW D ca g s M s.heap [] → ∀ ls : Array Slot, lv_has ls maxL (lv_args 0 av) → W p l e rm s m av.toArray below meth c s.heap [] 0 0 (MQ below (Qc s.heap.size) av.toArray s rm.cells rm.slots (gA g s.heap.size)) (F0 m 0 ls [])) : cM l y bytes maxL ret rm D ca g M av Qc := by
  intro sz
  refine Met.ofW (cc := bytes) (maxL := maxL) (ret := ret) hy rfl ?_
  intro p e s m args below meth c s₁ B hml hv
  obtain ⟨rfl, hsz, hP, hKW⟩ := hv
  subst hsz
  rw [lg_entry_eq]
  exact body p e s m below meth c ⟨B.exec, B.bytes, hml, findClass_of_methodNamed B.named, hKW⟩ B.returns B.notSynchronized (name_of_methodNamed B.named B.method).1 ⟨hP, va_S.rf⟩ _ (lv_entry av hn)
theorem pay1 {w : Cond} {args : Array Value} {s : State} (hw : (w.onTables && w.keeps) = true) (h : w.before args s = true) : ∀ w' ∈ [w], ∀ (a' : Array Value) (U : State), s.WarmedH U.vm → w'.before a' U = true := by
  intro w' hw' a' U hW
  rw [List.mem_singleton] at hw'
  subst hw'
  exact word_at hW (Or.inl hw) h
section RC
variable {p : Program} {l : Launch} {e : Env} {R : Room} {s : State} {m : MethodId} {args : Array Value} {below : List Frame} {meth : Method} {c : Code} {H : Heap} {locs : List Loc} {cells slots : Nat} {Q : State → Prop}
variable {cc : ByteArray} {nL pc : Nat} {ls : Array Slot} {rest st0 : List Value} {D : va_G} {ca : vCA} {g : Nat → Nat} {M M1 : Mem} {own : String} {k : Nat}
variable {y : MethodName} {bytes : ByteArray} {maxL n index : Nat} {ret : Option FieldType} {rm : Room} {Qc : Nat → Array Value → State → Outcome → State → Prop} {As : List Value}
theorem cPc_to (F : FX p m c cc nL s D ca g own) (hG : GW D ca g s M H locs) {av : List Value} : ∀ U : State, U.heap = H → s.WarmedH U.vm → cPc D ca g M H.size av av.toArray U := fun U hU hW => ⟨rfl, by rw [hU], by rw [hU]; exact hG.1, KW.to (M := M) (locs := locs) F.2.2.2.2 hW (by rw [hU]; exact hG.2)⟩
theorem r_recv (F : FX p m c cc nL s D ca g own) (hG : GW D ca g s M H locs) {ci : Nat} {q : vw_C} {fs : List Value} (hk : k < 69) (hd : gdesc ca g (M k) k = .inr (ci, fs)) (hc : vwCl[ci]? = some q) : ∃ cell : Cell, H[g k]? = some cell ∧ cell.vm.isStatics = false ∧ s.vm.findClass q.1 = some cell.cls := va_recv F.hK hG.1 hc (q0 := k) (by rw [gws_at ca g M hk, hd])
theorem r_runV (F : FX p m c cc nL s D ca g own) (hG : GW D ca g s M H locs) (hM : cM l y bytes maxL ret rm D ca g M (.ref (g k) :: As) Qc) {ci : Nat} {q : vw_C} {fs : List Value} (hk : k < 69) (hd : gdesc ca g (M k) k = .inr (ci, fs)) (hc : vwCl[ci]? = some q)
    (hlink : (Cond.methodLink own index y).before args s = true) (hinst : (Cond.instanceMethod y).before args s = true) (hsel : (Cond.selects q.1 y y).before args s = true) (hini : (Cond.initialized y.cls).before args s = true) (hcode : (Cond.code y bytes maxL ret).before args s = true)
    (hyd : y.cls ≠ "java/lang/invoke/MethodHandle" ∧ y.cls ≠ "java/lang/invoke/VarHandle" ∧ (parseMethodDescriptor y.desc).map (fun d => d.parameters.length) = some n) (hR : rm.frames + 1 ≤ R.frames ∧ 8 + (maxL + 11) + rm.locals ≤ R.locals) (hn : As.length = n) (hls : ls.size = nL) (hst : st0 = As.reverse ++ .ref (g k) :: rest) (hroom : (rest.map fun v => v.category).sum ≤ 8) (hdg : decode cc pc = .ok (.invokevirtual index, 3)) (hf : cells + rm.cells ≤ R.cells ∧ slots + rm.slots ≤ R.slots) :
    va_Run p l e R s m args below meth c H locs cells slots rm.cells rm.slots (F0 m pc ls st0) rest (Qc H.size (Value.ref (g k) :: As).toArray) (gA g H.size) :=
  va_runV (C := q.1) (Ts := []) ⟨F.1, F.2.1, F.2.2.1, F.2.2.2.1, fun w h => by cases h⟩ (hM H.size) ⟨⟨rfl, rfl, hR.1, hR.2, pay1 rfl hcode, List.mem_cons_self, hcode, hini, ⟨hyd.1, hyd.2.1⟩, fun sig h => by
    have h2 := hyd.2.2
    rw [h] at h2
    exact (Option.some.inj h2).symm, hlink⟩, hinst, hsel⟩ ⟨cPc_blind D ca g M _ _, r_recv F hG hk hd hc, cPc_to F hG⟩ rfl hn hls hst (lv_room hroom) hdg hf
theorem r_runVN (F : FX p m c cc nL s D ca g own) (hG : GW D ca g s M H locs) (hM : cM l y bytes maxL ret rm D ca g M (.ref (g k) :: As) Qc) {ci : Nat} {q : vw_C} {fs : List Value} {host : String} (hk : k < 69) (hd : gdesc ca g (M k) k = .inr (ci, fs)) (hc : vwCl[ci]? = some q)
    (hlink : (Cond.methodLinkNest own index y host).before args s = true) (hinst : (Cond.instanceMethod y).before args s = true) (hsel : (Cond.selects q.1 y y).before args s = true) (hini : (Cond.initialized y.cls).before args s = true) (hcode : (Cond.code y bytes maxL ret).before args s = true)
    (hyd : y.cls ≠ "java/lang/invoke/MethodHandle" ∧ y.cls ≠ "java/lang/invoke/VarHandle" ∧ (parseMethodDescriptor y.desc).map (fun d => d.parameters.length) = some n) (hR : rm.frames + 1 ≤ R.frames ∧ 8 + (maxL + 11) + rm.locals ≤ R.locals) (hn : As.length = n) (hls : ls.size = nL) (hst : st0 = As.reverse ++ .ref (g k) :: rest) (hroom : (rest.map fun v => v.category).sum ≤ 8) (hdg : decode cc pc = .ok (.invokevirtual index, 3)) (hf : cells + rm.cells ≤ R.cells ∧ slots + rm.slots ≤ R.slots) :
    va_Run p l e R s m args below meth c H locs cells slots rm.cells rm.slots (F0 m pc ls st0) rest (Qc H.size (Value.ref (g k) :: As).toArray) (gA g H.size) :=
  va_runVN (C := q.1) (Ts := []) (host := host) ⟨F.1, F.2.1, F.2.2.1, F.2.2.2.1, fun w h => by cases h⟩ (hM H.size) ⟨⟨⟨rfl, rfl, hR.1, hR.2, pay1 rfl hcode, List.mem_cons_self⟩, hcode, hini, ⟨hyd.1, hyd.2.1⟩, (fun sig h => by
    have h2 := hyd.2.2
    rw [h] at h2
    exact (Option.some.inj h2).symm), hlink⟩, hinst, hsel⟩ ⟨cPc_blind D ca g M _ _, r_recv F hG hk hd hc, cPc_to F hG⟩ rfl hn hls hst (lv_room hroom) hdg hf
theorem r_runS (F : FX p m c cc nL s D ca g own) (hG : GW D ca g s M H locs) (hM : cM l y bytes maxL ret rm D ca g M As Qc)
    (hlink : (Cond.methodLink own index y).before args s = true) (hstat : (Cond.static y).before args s = true) (hini : (Cond.initialized y.cls).before args s = true) (hcode : (Cond.code y bytes maxL ret).before args s = true)
    (hyd : y.cls ≠ "java/lang/invoke/MethodHandle" ∧ y.cls ≠ "java/lang/invoke/VarHandle" ∧ (parseMethodDescriptor y.desc).map (fun d => d.parameters.length) = some n) (hR : rm.frames + 1 ≤ R.frames ∧ 8 + (maxL + 11) + rm.locals ≤ R.locals) (hn : As.length = n) (hls : ls.size = nL) (hst : st0 = As.reverse ++ rest) (hroom : (rest.map fun v => v.category).sum ≤ 8) (hdg : decode cc pc = .ok (.invokestatic index, 3)) (hf : cells + rm.cells ≤ R.cells ∧ slots + rm.slots ≤ R.slots) :
    va_Run p l e R s m args below meth c H locs cells slots rm.cells rm.slots (F0 m pc ls st0) rest (Qc H.size As.toArray) (gA g H.size) :=
  va_runS (Ts := []) ⟨F.1, F.2.1, F.2.2.1, F.2.2.2.1, fun w h => by cases h⟩ (hM H.size) ⟨⟨rfl, rfl, hR.1, hR.2, pay1 rfl hcode, List.mem_cons_self, hcode, hini, ⟨hyd.1, hyd.2.1⟩, (fun sig h => by
    have h2 := hyd.2.2
    rw [h] at h2
    exact (Option.some.inj h2).symm), hlink⟩, hstat⟩ ⟨cPc_blind D ca g M _ _, cPc_to F hG⟩ rfl hn hls hst (lv_room hroom) hdg hf
theorem r_runSN (F : FX p m c cc nL s D ca g own) (hG : GW D ca g s M H locs) (hM : cM l y bytes maxL ret rm D ca g M As Qc) {host : String}
    (hlink : (Cond.methodLinkNest own index y host).before args s = true) (hstat : (Cond.static y).before args s = true) (hini : (Cond.initialized y.cls).before args s = true) (hcode : (Cond.code y bytes maxL ret).before args s = true)
    (hyd : y.cls ≠ "java/lang/invoke/MethodHandle" ∧ y.cls ≠ "java/lang/invoke/VarHandle" ∧ (parseMethodDescriptor y.desc).map (fun d => d.parameters.length) = some n) (hR : rm.frames + 1 ≤ R.frames ∧ 8 + (maxL + 11) + rm.locals ≤ R.locals) (hn : As.length = n) (hls : ls.size = nL) (hst : st0 = As.reverse ++ rest) (hroom : (rest.map fun v => v.category).sum ≤ 8) (hdg : decode cc pc = .ok (.invokestatic index, 3)) (hf : cells + rm.cells ≤ R.cells ∧ slots + rm.slots ≤ R.slots) :
    va_Run p l e R s m args below meth c H locs cells slots rm.cells rm.slots (F0 m pc ls st0) rest (Qc H.size As.toArray) (gA g H.size) :=
  va_runSN (Ts := []) (host := host) ⟨F.1, F.2.1, F.2.2.1, F.2.2.2.1, fun w h => by cases h⟩ (hM H.size) ⟨⟨⟨rfl, rfl, hR.1, hR.2, pay1 rfl hcode, List.mem_cons_self⟩, hcode, hini, ⟨hyd.1, hyd.2.1⟩, (fun sig h => by
    have h2 := hyd.2.2
    rw [h] at h2
    exact (Option.some.inj h2).symm), hlink⟩, hstat, trivial⟩ ⟨cPc_blind D ca g M _ _, cPc_to F hG⟩ rfl hn hls hst (lv_room hroom) hdg hf
variable {mc ms : Nat} {av : Array Value}
theorem k_i {r : Int32} (hr : va_Run p l e R s m args below meth c H locs cells slots mc ms (F0 m pc ls st0) rest (cQi D ca g H.size M1 r av) (gA g H.size)) (hG : GW D ca g s M H locs)
    (kk : ∀ (H1 : Heap) (locs1 : List Loc), GW D ca g s M1 H1 locs1 → W p l e R s m args below meth c H1 locs1 (cells + mc) (slots + ms) Q (F0 m (pc + 3) ls (.int r :: rest))) : W p l e R s m args below meth c H locs cells slots Q (F0 m pc ls st0) :=
  va_calli hr hG.2 (fun q _ h => gA_mono hG.2.1 h) (fun q h => gA_mono hG.2.1 h) (fun r' u t H1 locs1 ht hvm hp hB _ _ hS => by
    obtain ⟨rfl, rfl⟩ := hp
    exact kk H1 locs1 ⟨by rw [← ht]; exact hB, hS⟩)
theorem k_l {r : Int64} (hr : va_Run p l e R s m args below meth c H locs cells slots mc ms (F0 m pc ls st0) rest (cQl D ca g H.size M1 r av) (gA g H.size)) (hG : GW D ca g s M H locs)
    (kk : ∀ (H1 : Heap) (locs1 : List Loc), GW D ca g s M1 H1 locs1 → W p l e R s m args below meth c H1 locs1 (cells + mc) (slots + ms) Q (F0 m (pc + 3) ls (.long r :: rest))) : W p l e R s m args below meth c H locs cells slots Q (F0 m pc ls st0) :=
  va_calll hr hG.2 (fun q _ h => gA_mono hG.2.1 h) (fun q h => gA_mono hG.2.1 h) (fun r' u t H1 locs1 ht hvm hp hB _ _ hS => by
    obtain ⟨rfl, rfl⟩ := hp
    exact kk H1 locs1 ⟨by rw [← ht]; exact hB, hS⟩)
theorem k_v (hr : va_Run p l e R s m args below meth c H locs cells slots mc ms (F0 m pc ls st0) rest (cQv D ca g H.size M1 av) (gA g H.size)) (hG : GW D ca g s M H locs)
    (kk : ∀ (H1 : Heap) (locs1 : List Loc), GW D ca g s M1 H1 locs1 → W p l e R s m args below meth c H1 locs1 (cells + mc) (slots + ms) Q (F0 m (pc + 3) ls rest)) : W p l e R s m args below meth c H locs cells slots Q (F0 m pc ls st0) :=
  va_callv hr hG.2 (fun q _ h => gA_mono hG.2.1 h) (fun q h => gA_mono hG.2.1 h) (fun u t H1 locs1 ht hvm hp hB _ _ hS => by
    obtain rfl := hp
    exact kk H1 locs1 ⟨by rw [← ht]; exact hB, hS⟩)
end RC
/-! ===== what a method does, as a function: an answer, or none where it would throw or not end ===== -/
def mlet {α β : Type} (M : α) (f : α → Option β) : Option β := f M
theorem mlet_e {α β : Type} {M : α} {f : α → Option β} {z : Option β} (h : mlet M f = z) : ∃ M1, M1 = M ∧ f M1 = z := ⟨M, rfl, h⟩
def chk {β : Type} (b : Bool) (o : Option β) : Option β := if b = true then o else none
theorem chk_e {β : Type} {b : Bool} {o : Option β} {z : β} (h : chk b o = some z) : b = true ∧ o = some z := by
  unfold chk at h
  split at h
  · exact ⟨by assumption, h⟩
  · cases h
def cb2 {β γ : Type} (o : Option (Mem × γ)) (f : Mem → γ → Option β) : Option β := match o with
  | none => none
  | some (M, r) => f M r
theorem cb2_e {β γ : Type} {o : Option (Mem × γ)} {f : Mem → γ → Option β} {z : β} (h : cb2 o f = some z) : ∃ M1 r1, o = some (M1, r1) ∧ f M1 r1 = some z := by
  cases o with
  | none => cases h
  | some q => exact ⟨q.1, q.2, rfl, h⟩
def cb1 {α β : Type} (o : Option α) (f : α → Option β) : Option β := match o with
  | none => none
  | some M => f M
theorem cb1_e {α β : Type} {o : Option α} {f : α → Option β} {z : β} (h : cb1 o f = some z) : ∃ M1, o = some M1 ∧ f M1 = some z := by
  cases o with
  | none => cases h
  | some q => exact ⟨q, rfl, h⟩
theorem ite_t {α : Type} {c : Prop} [Decidable c] {a b z : α} (h : (if c then a else b) = z) (hc : c) : a = z := by rw [if_pos hc] at h; exact h
theorem ite_f {α : Type} {c : Prop} [Decidable c] {a b z : α} (h : (if c then a else b) = z) (hc : ¬ c) : b = z := by rw [if_neg hc] at h; exact h
theorem som2 {α β : Type} {a a' : α} {b b' : β} (h : some (a, b) = some (a', b')) : a = a' ∧ b = b' := by
  cases h
  exact ⟨rfl, rfl⟩
theorem som1 {α : Type} {a a' : α} (h : some a = some a') : a = a' := Option.some.inj h
end
section
theorem kw3 {args : Array Value} {s : State} (h : KD s) : (Cond.initialized RX3).before args s = true := va_Nw.use rfl (h _ (List.mem_append_right _ (List.mem_of_getElem? (i := 3) (by decide +kernel))) rfl)
theorem kw18 {args : Array Value} {s : State} (h : KD s) : (Cond.initialized "java/lang/System").before args s = true := va_Nw.use rfl (h _ (List.mem_append_right _ (List.mem_of_getElem? (i := 18) (by decide +kernel))) rfl)
theorem kw39 {args : Array Value} {s : State} (h : KD s) : (Cond.fieldLink RX3 9 RX3 "cells" "[I").before args s = true := va_Nw.use rfl (h _ (List.mem_append_right _ (List.mem_of_getElem? (i := 39) (by decide +kernel))) rfl)
theorem kw176 {args : Array Value} {s : State} (h : KD s) : (Cond.methodLink RX3 15 yX3_at).before args s = true := va_Nw.use rfl (h _ (List.mem_append_right _ (List.mem_of_getElem? (i := 176) (by decide +kernel))) rfl)
theorem kw178 {args : Array Value} {s : State} (h : KD s) : (Cond.instanceMethod yX3_at).before args s = true := va_Nw.use rfl (h _ (List.mem_append_right _ (List.mem_of_getElem? (i := 178) (by decide +kernel))) rfl)
theorem kw179 {args : Array Value} {s : State} (h : KD s) : (Cond.code yX3_at cX3_at 2 (some .int)).before args s = true := va_Nw.use rfl (h _ (List.mem_append_right _ (List.mem_of_getElem? (i := 179) (by decide +kernel))) rfl)
theorem kw242 {args : Array Value} {s : State} (h : KD s) : (Cond.constantLong RX3 19 (31)).before args s = true := va_Nw.use rfl (h _ (List.mem_append_right _ (List.mem_of_getElem? (i := 242) (by decide +kernel))) rfl)
theorem kw559 {args : Array Value} {s : State} (h : KD s) : (Cond.static arraycopyName).before args s = true := va_Nw.use rfl (h _ (List.mem_append_right _ (List.mem_of_getElem? (i := 559) (by decide +kernel))) rfl)
theorem kw560 {args : Array Value} {s : State} (h : KD s) : (Cond.native arraycopyName).before args s = true := va_Nw.use rfl (h _ (List.mem_append_right _ (List.mem_of_getElem? (i := 560) (by decide +kernel))) rfl)
theorem kw607 {args : Array Value} {s : State} (h : KD s) : (Cond.methodLink RX3 21 arraycopyName).before args s = true := va_Nw.use rfl (h _ (List.mem_append_right _ (List.mem_of_getElem? (i := 607) (by decide +kernel))) rfl)
theorem ks_X3_at {args : Array Value} {s : State} (h : KD s) : (Cond.selects RX3 yX3_at yX3_at).before args s = true := va_Nw.use rfl (h _ (List.mem_append_left _ (List.mem_of_getElem? (i := 4) (by decide +kernel))) rfl)
theorem yd_X3_next : yX3_next.cls ≠ "java/lang/invoke/MethodHandle" ∧ yX3_next.cls ≠ "java/lang/invoke/VarHandle" ∧ (parseMethodDescriptor yX3_next.desc).map (fun d => d.parameters.length) = some 2 := ⟨by decide +kernel, by decide +kernel, by decide +kernel⟩
theorem yd_X3_at : yX3_at.cls ≠ "java/lang/invoke/MethodHandle" ∧ yX3_at.cls ≠ "java/lang/invoke/VarHandle" ∧ (parseMethodDescriptor yX3_at.desc).map (fun d => d.parameters.length) = some 1 := ⟨by decide +kernel, by decide +kernel, by decide +kernel⟩
theorem yd_X3_put : yX3_put.cls ≠ "java/lang/invoke/MethodHandle" ∧ yX3_put.cls ≠ "java/lang/invoke/VarHandle" ∧ (parseMethodDescriptor yX3_put.desc).map (fun d => d.parameters.length) = some 2 := ⟨by decide +kernel, by decide +kernel, by decide +kernel⟩
theorem yd_X3_isFree : yX3_isFree.cls ≠ "java/lang/invoke/MethodHandle" ∧ yX3_isFree.cls ≠ "java/lang/invoke/VarHandle" ∧ (parseMethodDescriptor yX3_isFree.desc).map (fun d => d.parameters.length) = some 1 := ⟨by decide +kernel, by decide +kernel, by decide +kernel⟩
theorem yd_X3_cellsWith : yX3_cellsWith.cls ≠ "java/lang/invoke/MethodHandle" ∧ yX3_cellsWith.cls ≠ "java/lang/invoke/VarHandle" ∧ (parseMethodDescriptor yX3_cellsWith.desc).map (fun d => d.parameters.length) = some 1 := ⟨by decide +kernel, by decide +kernel, by decide +kernel⟩
theorem yd_X3_barricades : yX3_barricades.cls ≠ "java/lang/invoke/MethodHandle" ∧ yX3_barricades.cls ≠ "java/lang/invoke/VarHandle" ∧ (parseMethodDescriptor yX3_barricades.desc).map (fun d => d.parameters.length) = some 0 := ⟨by decide +kernel, by decide +kernel, by decide +kernel⟩
theorem yd_X3_addCellsTo : yX3_addCellsTo.cls ≠ "java/lang/invoke/MethodHandle" ∧ yX3_addCellsTo.cls ≠ "java/lang/invoke/VarHandle" ∧ (parseMethodDescriptor yX3_addCellsTo.desc).map (fun d => d.parameters.length) = some 1 := ⟨by decide +kernel, by decide +kernel, by decide +kernel⟩
theorem yd_X3_become : yX3_become.cls ≠ "java/lang/invoke/MethodHandle" ∧ yX3_become.cls ≠ "java/lang/invoke/VarHandle" ∧ (parseMethodDescriptor yX3_become.desc).map (fun d => d.parameters.length) = some 1 := ⟨by decide +kernel, by decide +kernel, by decide +kernel⟩
theorem iuX0 : ∀ w ∈ u_ws RX0 TX0 6, w ∈ lw_tbl := fun w hw => List.mem_append_right _ (goodIn_r (big := tables_1) (u_ws RX0 TX0 6) [64, 66, 68, 70, 72, 74] (by decide +kernel) (by decide +kernel) w hw).1
theorem ivX0 : ∀ w ∈ u_ws RX0 TX0 6, okW w = true := List.all_eq_true.mp (by decide +kernel)
theorem kuX0 {args : Array Value} {s : State} (h : KD s) : ∀ w ∈ u_ws RX0 TX0 6, w.before args s = true := fun w hw => va_Nw.use (okW_on (ivX0 w hw)) (h w (iuX0 w hw) (ivX0 w hw))
theorem xg0 {p : Program} {l : Launch} {e : Env} {R : Room} {s : State} {m : MethodId} {args : Array Value} {below : List Frame} {meth : Method} {c : Code} {H : Heap} {locs : List Loc} {cells slots : Nat} {Q : State → Prop} {cc : ByteArray} {nL pc : Nat} {ls : Array Slot} {rest : List Value} {D : va_G} {ca : vCA} {g : Nat → Nat} {M : Mem} {own : String} {k : Nat} (F : FX p m c cc nL s D ca g own) (hG : GW D ca g s M H locs) (hk : kd k = 0) (j : Nat) (hj : j < 6) {index : Nat} (hlink : (Cond.fieldLink own index (TX0 j).1 (TX0 j).2.1 (TX0 j).2.2.1).before args s = true) {v : Value} (hv : (fl0 g (M k) k)[j]? = some v) (hdg : decode cc pc = .ok (.getfield index, 3)) (kk : W p l e R s m args below meth c H locs cells slots Q (F0 m (pc + 3) ls (v :: rest))) : W p l e R s m args below meth c H locs cells slots Q (F0 m pc ls (.ref (g k) :: rest)) := r_get F hG (kd_lt hk (by decide)) (gd0 hk) rfl (kuX0 F.kd) j hj hlink hv hdg kk
theorem xp0 {p : Program} {l : Launch} {e : Env} {R : Room} {s : State} {m : MethodId} {args : Array Value} {below : List Frame} {meth : Method} {c : Code} {H : Heap} {locs : List Loc} {cells slots : Nat} {Q : State → Prop} {cc : ByteArray} {nL pc : Nat} {ls : Array Slot} {rest : List Value} {D : va_G} {ca : vCA} {g : Nat → Nat} {M M1 : Mem} {own : String} {k : Nat} (F : FX p m c cc nL s D ca g own) (hG : GW D ca g s M H locs) (hk : kd k = 0) {j : Nat} {x : Int32} (eM : M1 = mst M k j x) (hs : fl0 g (upd (M k) j x) k = (fl0 g (M k) k).set j (.int x)) (hj : j < 6) {index : Nat} (hlink : (Cond.fieldLink own index (TX0 j).1 (TX0 j).2.1 (TX0 j).2.2.1).before args s = true) (hfin : (TX0 j).2.2.2 = false) (hn : narrow (tyX0 j) (.int x) = .int x) (hfit : fits (tyX0 j) (.int x) = true) (hdg : decode cc pc = .ok (.putfield index, 3)) (kk : ∀ (H1 : Heap) (locs1 : List Loc), GW D ca g s M1 H1 locs1 → W p l e R s m args below meth c H1 locs1 cells slots Q (F0 m (pc + 3) ls rest)) : W p l e R s m args below meth c H locs cells slots Q (F0 m pc ls (.int x :: .ref (g k) :: rest)) := r_put (fs1 := []) F hG (kd_lt hk (by decide)) eM (gd0 hk) ((gd0 hk).trans (congrArg (fun z => Sum.inr (0, z)) hs)) rfl (kuX0 F.kd) tyX0_ok nmX0 hj hlink hfin (tyX0_ok j hj) hn hfit hj hdg kk
theorem xg0N {p : Program} {l : Launch} {e : Env} {R : Room} {s : State} {m : MethodId} {args : Array Value} {below : List Frame} {meth : Method} {c : Code} {H : Heap} {locs : List Loc} {cells slots : Nat} {Q : State → Prop} {cc : ByteArray} {nL pc : Nat} {ls : Array Slot} {rest : List Value} {D : va_G} {ca : vCA} {g : Nat → Nat} {M : Mem} {own : String} {k : Nat} (F : FX p m c cc nL s D ca g own) (hG : GW D ca g s M H locs) {host : String} (hk : kd k = 0) (j : Nat) (hj : j < 6) {index : Nat} (hlink : (Cond.fieldLinkNest own index (TX0 j).1 (TX0 j).2.1 (TX0 j).2.2.1 host).before args s = true) {v : Value} (hv : (fl0 g (M k) k)[j]? = some v) (hdg : decode cc pc = .ok (.getfield index, 3)) (kk : W p l e R s m args below meth c H locs cells slots Q (F0 m (pc + 3) ls (v :: rest))) : W p l e R s m args below meth c H locs cells slots Q (F0 m pc ls (.ref (g k) :: rest)) := r_getN F hG (kd_lt hk (by decide)) (gd0 hk) rfl (kuX0 F.kd) j hj hlink hv hdg kk
theorem xp0N {p : Program} {l : Launch} {e : Env} {R : Room} {s : State} {m : MethodId} {args : Array Value} {below : List Frame} {meth : Method} {c : Code} {H : Heap} {locs : List Loc} {cells slots : Nat} {Q : State → Prop} {cc : ByteArray} {nL pc : Nat} {ls : Array Slot} {rest : List Value} {D : va_G} {ca : vCA} {g : Nat → Nat} {M M1 : Mem} {own : String} {k : Nat} (F : FX p m c cc nL s D ca g own) (hG : GW D ca g s M H locs) {host : String} (hk : kd k = 0) {j : Nat} {x : Int32} (eM : M1 = mst M k j x) (hs : fl0 g (upd (M k) j x) k = (fl0 g (M k) k).set j (.int x)) (hj : j < 6) {index : Nat} (hlink : (Cond.fieldLinkNest own index (TX0 j).1 (TX0 j).2.1 (TX0 j).2.2.1 host).before args s = true) (hfin : (TX0 j).2.2.2 = false) (hn : narrow (tyX0 j) (.int x) = .int x) (hfit : fits (tyX0 j) (.int x) = true) (hdg : decode cc pc = .ok (.putfield index, 3)) (kk : ∀ (H1 : Heap) (locs1 : List Loc), GW D ca g s M1 H1 locs1 → W p l e R s m args below meth c H1 locs1 cells slots Q (F0 m (pc + 3) ls rest)) : W p l e R s m args below meth c H locs cells slots Q (F0 m pc ls (.int x :: .ref (g k) :: rest)) := r_putN (fs1 := []) F hG (kd_lt hk (by decide)) eM (gd0 hk) ((gd0 hk).trans (congrArg (fun z => Sum.inr (0, z)) hs)) rfl (kuX0 F.kd) tyX0_ok nmX0 hj hlink hfin (tyX0_ok j hj) hn hfit hj hdg kk
theorem iuX1 : ∀ w ∈ u_ws RX1 TX1 6, w ∈ lw_tbl := fun w hw => List.mem_append_right _ (goodIn_r (big := tables_1) (u_ws RX1 TX1 6) [111, 113, 115, 117, 119, 121] (by decide +kernel) (by decide +kernel) w hw).1
theorem ivX1 : ∀ w ∈ u_ws RX1 TX1 6, okW w = true := List.all_eq_true.mp (by decide +kernel)
theorem kuX1 {args : Array Value} {s : State} (h : KD s) : ∀ w ∈ u_ws RX1 TX1 6, w.before args s = true := fun w hw => va_Nw.use (okW_on (ivX1 w hw)) (h w (iuX1 w hw) (ivX1 w hw))
theorem xg1 {p : Program} {l : Launch} {e : Env} {R : Room} {s : State} {m : MethodId} {args : Array Value} {below : List Frame} {meth : Method} {c : Code} {H : Heap} {locs : List Loc} {cells slots : Nat} {Q : State → Prop} {cc : ByteArray} {nL pc : Nat} {ls : Array Slot} {rest : List Value} {D : va_G} {ca : vCA} {g : Nat → Nat} {M : Mem} {own : String} {k : Nat} (F : FX p m c cc nL s D ca g own) (hG : GW D ca g s M H locs) (hk : kd k = 1) (j : Nat) (hj : j < 6) {index : Nat} (hlink : (Cond.fieldLink own index (TX1 j).1 (TX1 j).2.1 (TX1 j).2.2.1).before args s = true) {v : Value} (hv : (fl1 g (M k) k)[j]? = some v) (hdg : decode cc pc = .ok (.getfield index, 3)) (kk : W p l e R s m args below meth c H locs cells slots Q (F0 m (pc + 3) ls (v :: rest))) : W p l e R s m args below meth c H locs cells slots Q (F0 m pc ls (.ref (g k) :: rest)) := r_get F hG (kd_lt hk (by decide)) (gd1 hk) rfl (kuX1 F.kd) j hj hlink hv hdg kk
theorem xp1 {p : Program} {l : Launch} {e : Env} {R : Room} {s : State} {m : MethodId} {args : Array Value} {below : List Frame} {meth : Method} {c : Code} {H : Heap} {locs : List Loc} {cells slots : Nat} {Q : State → Prop} {cc : ByteArray} {nL pc : Nat} {ls : Array Slot} {rest : List Value} {D : va_G} {ca : vCA} {g : Nat → Nat} {M M1 : Mem} {own : String} {k : Nat} (F : FX p m c cc nL s D ca g own) (hG : GW D ca g s M H locs) (hk : kd k = 1) {j : Nat} {x : Int32} (eM : M1 = mst M k j x) (hs : fl1 g (upd (M k) j x) k = (fl1 g (M k) k).set j (.int x)) (hj : j < 6) {index : Nat} (hlink : (Cond.fieldLink own index (TX1 j).1 (TX1 j).2.1 (TX1 j).2.2.1).before args s = true) (hfin : (TX1 j).2.2.2 = false) (hn : narrow (tyX1 j) (.int x) = .int x) (hfit : fits (tyX1 j) (.int x) = true) (hdg : decode cc pc = .ok (.putfield index, 3)) (kk : ∀ (H1 : Heap) (locs1 : List Loc), GW D ca g s M1 H1 locs1 → W p l e R s m args below meth c H1 locs1 cells slots Q (F0 m (pc + 3) ls rest)) : W p l e R s m args below meth c H locs cells slots Q (F0 m pc ls (.int x :: .ref (g k) :: rest)) := r_put (fs1 := []) F hG (kd_lt hk (by decide)) eM (gd1 hk) ((gd1 hk).trans (congrArg (fun z => Sum.inr (1, z)) hs)) rfl (kuX1 F.kd) tyX1_ok nmX1 hj hlink hfin (tyX1_ok j hj) hn hfit hj hdg kk
theorem xg1N {p : Program} {l : Launch} {e : Env} {R : Room} {s : State} {m : MethodId} {args : Array Value} {below : List Frame} {meth : Method} {c : Code} {H : Heap} {locs : List Loc} {cells slots : Nat} {Q : State → Prop} {cc : ByteArray} {nL pc : Nat} {ls : Array Slot} {rest : List Value} {D : va_G} {ca : vCA} {g : Nat → Nat} {M : Mem} {own : String} {k : Nat} (F : FX p m c cc nL s D ca g own) (hG : GW D ca g s M H locs) {host : String} (hk : kd k = 1) (j : Nat) (hj : j < 6) {index : Nat} (hlink : (Cond.fieldLinkNest own index (TX1 j).1 (TX1 j).2.1 (TX1 j).2.2.1 host).before args s = true) {v : Value} (hv : (fl1 g (M k) k)[j]? = some v) (hdg : decode cc pc = .ok (.getfield index, 3)) (kk : W p l e R s m args below meth c H locs cells slots Q (F0 m (pc + 3) ls (v :: rest))) : W p l e R s m args below meth c H locs cells slots Q (F0 m pc ls (.ref (g k) :: rest)) := r_getN F hG (kd_lt hk (by decide)) (gd1 hk) rfl (kuX1 F.kd) j hj hlink hv hdg kk
theorem xp1N {p : Program} {l : Launch} {e : Env} {R : Room} {s : State} {m : MethodId} {args : Array Value} {below : List Frame} {meth : Method} {c : Code} {H : Heap} {locs : List Loc} {cells slots : Nat} {Q : State → Prop} {cc : ByteArray} {nL pc : Nat} {ls : Array Slot} {rest : List Value} {D : va_G} {ca : vCA} {g : Nat → Nat} {M M1 : Mem} {own : String} {k : Nat} (F : FX p m c cc nL s D ca g own) (hG : GW D ca g s M H locs) {host : String} (hk : kd k = 1) {j : Nat} {x : Int32} (eM : M1 = mst M k j x) (hs : fl1 g (upd (M k) j x) k = (fl1 g (M k) k).set j (.int x)) (hj : j < 6) {index : Nat} (hlink : (Cond.fieldLinkNest own index (TX1 j).1 (TX1 j).2.1 (TX1 j).2.2.1 host).before args s = true) (hfin : (TX1 j).2.2.2 = false) (hn : narrow (tyX1 j) (.int x) = .int x) (hfit : fits (tyX1 j) (.int x) = true) (hdg : decode cc pc = .ok (.putfield index, 3)) (kk : ∀ (H1 : Heap) (locs1 : List Loc), GW D ca g s M1 H1 locs1 → W p l e R s m args below meth c H1 locs1 cells slots Q (F0 m (pc + 3) ls rest)) : W p l e R s m args below meth c H locs cells slots Q (F0 m pc ls (.int x :: .ref (g k) :: rest)) := r_putN (fs1 := []) F hG (kd_lt hk (by decide)) eM (gd1 hk) ((gd1 hk).trans (congrArg (fun z => Sum.inr (1, z)) hs)) rfl (kuX1 F.kd) tyX1_ok nmX1 hj hlink hfin (tyX1_ok j hj) hn hfit hj hdg kk
theorem iuX2 : ∀ w ∈ u_ws RX2 TX2 4, w ∈ lw_tbl := fun w hw => List.mem_append_right _ (goodIn_r (big := tables_1) (u_ws RX2 TX2 4) [91, 93, 95, 97] (by decide +kernel) (by decide +kernel) w hw).1
theorem ivX2 : ∀ w ∈ u_ws RX2 TX2 4, okW w = true := List.all_eq_true.mp (by decide +kernel)
theorem kuX2 {args : Array Value} {s : State} (h : KD s) : ∀ w ∈ u_ws RX2 TX2 4, w.before args s = true := fun w hw => va_Nw.use (okW_on (ivX2 w hw)) (h w (iuX2 w hw) (ivX2 w hw))
theorem xg2 {p : Program} {l : Launch} {e : Env} {R : Room} {s : State} {m : MethodId} {args : Array Value} {below : List Frame} {meth : Method} {c : Code} {H : Heap} {locs : List Loc} {cells slots : Nat} {Q : State → Prop} {cc : ByteArray} {nL pc : Nat} {ls : Array Slot} {rest : List Value} {D : va_G} {ca : vCA} {g : Nat → Nat} {M : Mem} {own : String} {k : Nat} (F : FX p m c cc nL s D ca g own) (hG : GW D ca g s M H locs) (hk : kd k = 2) (j : Nat) (hj : j < 4) {index : Nat} (hlink : (Cond.fieldLink own index (TX2 j).1 (TX2 j).2.1 (TX2 j).2.2.1).before args s = true) {v : Value} (hv : (fl2 g (M k) k)[j]? = some v) (hdg : decode cc pc = .ok (.getfield index, 3)) (kk : W p l e R s m args below meth c H locs cells slots Q (F0 m (pc + 3) ls (v :: rest))) : W p l e R s m args below meth c H locs cells slots Q (F0 m pc ls (.ref (g k) :: rest)) := r_get F hG (kd_lt hk (by decide)) (gd2 hk) rfl (kuX2 F.kd) j hj hlink hv hdg kk
theorem xp2 {p : Program} {l : Launch} {e : Env} {R : Room} {s : State} {m : MethodId} {args : Array Value} {below : List Frame} {meth : Method} {c : Code} {H : Heap} {locs : List Loc} {cells slots : Nat} {Q : State → Prop} {cc : ByteArray} {nL pc : Nat} {ls : Array Slot} {rest : List Value} {D : va_G} {ca : vCA} {g : Nat → Nat} {M M1 : Mem} {own : String} {k : Nat} (F : FX p m c cc nL s D ca g own) (hG : GW D ca g s M H locs) (hk : kd k = 2) {j : Nat} {x : Int32} (eM : M1 = mst M k j x) (hs : fl2 g (upd (M k) j x) k = (fl2 g (M k) k).set j (.int x)) (hj : j < 4) {index : Nat} (hlink : (Cond.fieldLink own index (TX2 j).1 (TX2 j).2.1 (TX2 j).2.2.1).before args s = true) (hfin : (TX2 j).2.2.2 = false) (hn : narrow (tyX2 j) (.int x) = .int x) (hfit : fits (tyX2 j) (.int x) = true) (hdg : decode cc pc = .ok (.putfield index, 3)) (kk : ∀ (H1 : Heap) (locs1 : List Loc), GW D ca g s M1 H1 locs1 → W p l e R s m args below meth c H1 locs1 cells slots Q (F0 m (pc + 3) ls rest)) : W p l e R s m args below meth c H locs cells slots Q (F0 m pc ls (.int x :: .ref (g k) :: rest)) := r_put (fs1 := []) F hG (kd_lt hk (by decide)) eM (gd2 hk) ((gd2 hk).trans (congrArg (fun z => Sum.inr (2, z)) hs)) rfl (kuX2 F.kd) tyX2_ok nmX2 hj hlink hfin (tyX2_ok j hj) hn hfit hj hdg kk
theorem xg2N {p : Program} {l : Launch} {e : Env} {R : Room} {s : State} {m : MethodId} {args : Array Value} {below : List Frame} {meth : Method} {c : Code} {H : Heap} {locs : List Loc} {cells slots : Nat} {Q : State → Prop} {cc : ByteArray} {nL pc : Nat} {ls : Array Slot} {rest : List Value} {D : va_G} {ca : vCA} {g : Nat → Nat} {M : Mem} {own : String} {k : Nat} (F : FX p m c cc nL s D ca g own) (hG : GW D ca g s M H locs) {host : String} (hk : kd k = 2) (j : Nat) (hj : j < 4) {index : Nat} (hlink : (Cond.fieldLinkNest own index (TX2 j).1 (TX2 j).2.1 (TX2 j).2.2.1 host).before args s = true) {v : Value} (hv : (fl2 g (M k) k)[j]? = some v) (hdg : decode cc pc = .ok (.getfield index, 3)) (kk : W p l e R s m args below meth c H locs cells slots Q (F0 m (pc + 3) ls (v :: rest))) : W p l e R s m args below meth c H locs cells slots Q (F0 m pc ls (.ref (g k) :: rest)) := r_getN F hG (kd_lt hk (by decide)) (gd2 hk) rfl (kuX2 F.kd) j hj hlink hv hdg kk
theorem xp2N {p : Program} {l : Launch} {e : Env} {R : Room} {s : State} {m : MethodId} {args : Array Value} {below : List Frame} {meth : Method} {c : Code} {H : Heap} {locs : List Loc} {cells slots : Nat} {Q : State → Prop} {cc : ByteArray} {nL pc : Nat} {ls : Array Slot} {rest : List Value} {D : va_G} {ca : vCA} {g : Nat → Nat} {M M1 : Mem} {own : String} {k : Nat} (F : FX p m c cc nL s D ca g own) (hG : GW D ca g s M H locs) {host : String} (hk : kd k = 2) {j : Nat} {x : Int32} (eM : M1 = mst M k j x) (hs : fl2 g (upd (M k) j x) k = (fl2 g (M k) k).set j (.int x)) (hj : j < 4) {index : Nat} (hlink : (Cond.fieldLinkNest own index (TX2 j).1 (TX2 j).2.1 (TX2 j).2.2.1 host).before args s = true) (hfin : (TX2 j).2.2.2 = false) (hn : narrow (tyX2 j) (.int x) = .int x) (hfit : fits (tyX2 j) (.int x) = true) (hdg : decode cc pc = .ok (.putfield index, 3)) (kk : ∀ (H1 : Heap) (locs1 : List Loc), GW D ca g s M1 H1 locs1 → W p l e R s m args below meth c H1 locs1 cells slots Q (F0 m (pc + 3) ls rest)) : W p l e R s m args below meth c H locs cells slots Q (F0 m pc ls (.int x :: .ref (g k) :: rest)) := r_putN (fs1 := []) F hG (kd_lt hk (by decide)) eM (gd2 hk) ((gd2 hk).trans (congrArg (fun z => Sum.inr (2, z)) hs)) rfl (kuX2 F.kd) tyX2_ok nmX2 hj hlink hfin (tyX2_ok j hj) hn hfit hj hdg kk
theorem iuX3 : ∀ w ∈ u_ws RX3 TX3 1, w ∈ lw_tbl := fun w hw => List.mem_append_right _ (goodIn_r (big := tables_1) (u_ws RX3 TX3 1) [40] (by decide +kernel) (by decide +kernel) w hw).1
theorem ivX3 : ∀ w ∈ u_ws RX3 TX3 1, okW w = true := List.all_eq_true.mp (by decide +kernel)
theorem kuX3 {args : Array Value} {s : State} (h : KD s) : ∀ w ∈ u_ws RX3 TX3 1, w.before args s = true := fun w hw => va_Nw.use (okW_on (ivX3 w hw)) (h w (iuX3 w hw) (ivX3 w hw))
theorem xg3 {p : Program} {l : Launch} {e : Env} {R : Room} {s : State} {m : MethodId} {args : Array Value} {below : List Frame} {meth : Method} {c : Code} {H : Heap} {locs : List Loc} {cells slots : Nat} {Q : State → Prop} {cc : ByteArray} {nL pc : Nat} {ls : Array Slot} {rest : List Value} {D : va_G} {ca : vCA} {g : Nat → Nat} {M : Mem} {own : String} {k : Nat} (F : FX p m c cc nL s D ca g own) (hG : GW D ca g s M H locs) (hk : kd k = 3) (j : Nat) (hj : j < 1) {index : Nat} (hlink : (Cond.fieldLink own index (TX3 j).1 (TX3 j).2.1 (TX3 j).2.2.1).before args s = true) {v : Value} (hv : (fl3 g (M k) k)[j]? = some v) (hdg : decode cc pc = .ok (.getfield index, 3)) (kk : W p l e R s m args below meth c H locs cells slots Q (F0 m (pc + 3) ls (v :: rest))) : W p l e R s m args below meth c H locs cells slots Q (F0 m pc ls (.ref (g k) :: rest)) := r_get F hG (kd_lt hk (by decide)) (gd3 hk) rfl (kuX3 F.kd) j hj hlink hv hdg kk
theorem xp3 {p : Program} {l : Launch} {e : Env} {R : Room} {s : State} {m : MethodId} {args : Array Value} {below : List Frame} {meth : Method} {c : Code} {H : Heap} {locs : List Loc} {cells slots : Nat} {Q : State → Prop} {cc : ByteArray} {nL pc : Nat} {ls : Array Slot} {rest : List Value} {D : va_G} {ca : vCA} {g : Nat → Nat} {M M1 : Mem} {own : String} {k : Nat} (F : FX p m c cc nL s D ca g own) (hG : GW D ca g s M H locs) (hk : kd k = 3) {j : Nat} {x : Int32} (eM : M1 = mst M k j x) (hs : fl3 g (upd (M k) j x) k = (fl3 g (M k) k).set j (.int x)) (hj : j < 1) {index : Nat} (hlink : (Cond.fieldLink own index (TX3 j).1 (TX3 j).2.1 (TX3 j).2.2.1).before args s = true) (hfin : (TX3 j).2.2.2 = false) (hn : narrow (tyX3 j) (.int x) = .int x) (hfit : fits (tyX3 j) (.int x) = true) (hdg : decode cc pc = .ok (.putfield index, 3)) (kk : ∀ (H1 : Heap) (locs1 : List Loc), GW D ca g s M1 H1 locs1 → W p l e R s m args below meth c H1 locs1 cells slots Q (F0 m (pc + 3) ls rest)) : W p l e R s m args below meth c H locs cells slots Q (F0 m pc ls (.int x :: .ref (g k) :: rest)) := r_put (fs1 := []) F hG (kd_lt hk (by decide)) eM (gd3 hk) ((gd3 hk).trans (congrArg (fun z => Sum.inr (3, z)) hs)) rfl (kuX3 F.kd) tyX3_ok nmX3 hj hlink hfin (tyX3_ok j hj) hn hfit hj hdg kk
theorem xg3N {p : Program} {l : Launch} {e : Env} {R : Room} {s : State} {m : MethodId} {args : Array Value} {below : List Frame} {meth : Method} {c : Code} {H : Heap} {locs : List Loc} {cells slots : Nat} {Q : State → Prop} {cc : ByteArray} {nL pc : Nat} {ls : Array Slot} {rest : List Value} {D : va_G} {ca : vCA} {g : Nat → Nat} {M : Mem} {own : String} {k : Nat} (F : FX p m c cc nL s D ca g own) (hG : GW D ca g s M H locs) {host : String} (hk : kd k = 3) (j : Nat) (hj : j < 1) {index : Nat} (hlink : (Cond.fieldLinkNest own index (TX3 j).1 (TX3 j).2.1 (TX3 j).2.2.1 host).before args s = true) {v : Value} (hv : (fl3 g (M k) k)[j]? = some v) (hdg : decode cc pc = .ok (.getfield index, 3)) (kk : W p l e R s m args below meth c H locs cells slots Q (F0 m (pc + 3) ls (v :: rest))) : W p l e R s m args below meth c H locs cells slots Q (F0 m pc ls (.ref (g k) :: rest)) := r_getN F hG (kd_lt hk (by decide)) (gd3 hk) rfl (kuX3 F.kd) j hj hlink hv hdg kk
theorem xp3N {p : Program} {l : Launch} {e : Env} {R : Room} {s : State} {m : MethodId} {args : Array Value} {below : List Frame} {meth : Method} {c : Code} {H : Heap} {locs : List Loc} {cells slots : Nat} {Q : State → Prop} {cc : ByteArray} {nL pc : Nat} {ls : Array Slot} {rest : List Value} {D : va_G} {ca : vCA} {g : Nat → Nat} {M M1 : Mem} {own : String} {k : Nat} (F : FX p m c cc nL s D ca g own) (hG : GW D ca g s M H locs) {host : String} (hk : kd k = 3) {j : Nat} {x : Int32} (eM : M1 = mst M k j x) (hs : fl3 g (upd (M k) j x) k = (fl3 g (M k) k).set j (.int x)) (hj : j < 1) {index : Nat} (hlink : (Cond.fieldLinkNest own index (TX3 j).1 (TX3 j).2.1 (TX3 j).2.2.1 host).before args s = true) (hfin : (TX3 j).2.2.2 = false) (hn : narrow (tyX3 j) (.int x) = .int x) (hfit : fits (tyX3 j) (.int x) = true) (hdg : decode cc pc = .ok (.putfield index, 3)) (kk : ∀ (H1 : Heap) (locs1 : List Loc), GW D ca g s M1 H1 locs1 → W p l e R s m args below meth c H1 locs1 cells slots Q (F0 m (pc + 3) ls rest)) : W p l e R s m args below meth c H locs cells slots Q (F0 m pc ls (.int x :: .ref (g k) :: rest)) := r_putN (fs1 := []) F hG (kd_lt hk (by decide)) eM (gd3 hk) ((gd3 hk).trans (congrArg (fun z => Sum.inr (3, z)) hs)) rfl (kuX3 F.kd) tyX3_ok nmX3 hj hlink hfin (tyX3_ok j hj) hn hfit hj hdg kk
theorem iuX4 : ∀ w ∈ u_ws RX4 TX4 4, w ∈ lw_tbl := fun w hw => List.mem_append_right _ (goodIn_r (big := tables_1) (u_ws RX4 TX4 4) [134, 136, 138, 140] (by decide +kernel) (by decide +kernel) w hw).1
theorem ivX4 : ∀ w ∈ u_ws RX4 TX4 4, okW w = true := List.all_eq_true.mp (by decide +kernel)
theorem kuX4 {args : Array Value} {s : State} (h : KD s) : ∀ w ∈ u_ws RX4 TX4 4, w.before args s = true := fun w hw => va_Nw.use (okW_on (ivX4 w hw)) (h w (iuX4 w hw) (ivX4 w hw))
theorem xg4 {p : Program} {l : Launch} {e : Env} {R : Room} {s : State} {m : MethodId} {args : Array Value} {below : List Frame} {meth : Method} {c : Code} {H : Heap} {locs : List Loc} {cells slots : Nat} {Q : State → Prop} {cc : ByteArray} {nL pc : Nat} {ls : Array Slot} {rest : List Value} {D : va_G} {ca : vCA} {g : Nat → Nat} {M : Mem} {own : String} {k : Nat} (F : FX p m c cc nL s D ca g own) (hG : GW D ca g s M H locs) (hk : kd k = 4) (j : Nat) (hj : j < 4) {index : Nat} (hlink : (Cond.fieldLink own index (TX4 j).1 (TX4 j).2.1 (TX4 j).2.2.1).before args s = true) {v : Value} (hv : (fl4 g (M k) k)[j]? = some v) (hdg : decode cc pc = .ok (.getfield index, 3)) (kk : W p l e R s m args below meth c H locs cells slots Q (F0 m (pc + 3) ls (v :: rest))) : W p l e R s m args below meth c H locs cells slots Q (F0 m pc ls (.ref (g k) :: rest)) := r_get F hG (kd_lt hk (by decide)) (gd4 hk) rfl (kuX4 F.kd) j hj hlink hv hdg kk
theorem xp4 {p : Program} {l : Launch} {e : Env} {R : Room} {s : State} {m : MethodId} {args : Array Value} {below : List Frame} {meth : Method} {c : Code} {H : Heap} {locs : List Loc} {cells slots : Nat} {Q : State → Prop} {cc : ByteArray} {nL pc : Nat} {ls : Array Slot} {rest : List Value} {D : va_G} {ca : vCA} {g : Nat → Nat} {M M1 : Mem} {own : String} {k : Nat} (F : FX p m c cc nL s D ca g own) (hG : GW D ca g s M H locs) (hk : kd k = 4) {j : Nat} {x : Int32} (eM : M1 = mst M k j x) (hs : fl4 g (upd (M k) j x) k = (fl4 g (M k) k).set j (.int x)) (hj : j < 4) {index : Nat} (hlink : (Cond.fieldLink own index (TX4 j).1 (TX4 j).2.1 (TX4 j).2.2.1).before args s = true) (hfin : (TX4 j).2.2.2 = false) (hn : narrow (tyX4 j) (.int x) = .int x) (hfit : fits (tyX4 j) (.int x) = true) (hdg : decode cc pc = .ok (.putfield index, 3)) (kk : ∀ (H1 : Heap) (locs1 : List Loc), GW D ca g s M1 H1 locs1 → W p l e R s m args below meth c H1 locs1 cells slots Q (F0 m (pc + 3) ls rest)) : W p l e R s m args below meth c H locs cells slots Q (F0 m pc ls (.int x :: .ref (g k) :: rest)) := r_put (fs1 := []) F hG (kd_lt hk (by decide)) eM (gd4 hk) ((gd4 hk).trans (congrArg (fun z => Sum.inr (4, z)) hs)) rfl (kuX4 F.kd) tyX4_ok nmX4 hj hlink hfin (tyX4_ok j hj) hn hfit hj hdg kk
theorem xg4N {p : Program} {l : Launch} {e : Env} {R : Room} {s : State} {m : MethodId} {args : Array Value} {below : List Frame} {meth : Method} {c : Code} {H : Heap} {locs : List Loc} {cells slots : Nat} {Q : State → Prop} {cc : ByteArray} {nL pc : Nat} {ls : Array Slot} {rest : List Value} {D : va_G} {ca : vCA} {g : Nat → Nat} {M : Mem} {own : String} {k : Nat} (F : FX p m c cc nL s D ca g own) (hG : GW D ca g s M H locs) {host : String} (hk : kd k = 4) (j : Nat) (hj : j < 4) {index : Nat} (hlink : (Cond.fieldLinkNest own index (TX4 j).1 (TX4 j).2.1 (TX4 j).2.2.1 host).before args s = true) {v : Value} (hv : (fl4 g (M k) k)[j]? = some v) (hdg : decode cc pc = .ok (.getfield index, 3)) (kk : W p l e R s m args below meth c H locs cells slots Q (F0 m (pc + 3) ls (v :: rest))) : W p l e R s m args below meth c H locs cells slots Q (F0 m pc ls (.ref (g k) :: rest)) := r_getN F hG (kd_lt hk (by decide)) (gd4 hk) rfl (kuX4 F.kd) j hj hlink hv hdg kk
theorem xp4N {p : Program} {l : Launch} {e : Env} {R : Room} {s : State} {m : MethodId} {args : Array Value} {below : List Frame} {meth : Method} {c : Code} {H : Heap} {locs : List Loc} {cells slots : Nat} {Q : State → Prop} {cc : ByteArray} {nL pc : Nat} {ls : Array Slot} {rest : List Value} {D : va_G} {ca : vCA} {g : Nat → Nat} {M M1 : Mem} {own : String} {k : Nat} (F : FX p m c cc nL s D ca g own) (hG : GW D ca g s M H locs) {host : String} (hk : kd k = 4) {j : Nat} {x : Int32} (eM : M1 = mst M k j x) (hs : fl4 g (upd (M k) j x) k = (fl4 g (M k) k).set j (.int x)) (hj : j < 4) {index : Nat} (hlink : (Cond.fieldLinkNest own index (TX4 j).1 (TX4 j).2.1 (TX4 j).2.2.1 host).before args s = true) (hfin : (TX4 j).2.2.2 = false) (hn : narrow (tyX4 j) (.int x) = .int x) (hfit : fits (tyX4 j) (.int x) = true) (hdg : decode cc pc = .ok (.putfield index, 3)) (kk : ∀ (H1 : Heap) (locs1 : List Loc), GW D ca g s M1 H1 locs1 → W p l e R s m args below meth c H1 locs1 cells slots Q (F0 m (pc + 3) ls rest)) : W p l e R s m args below meth c H locs cells slots Q (F0 m pc ls (.int x :: .ref (g k) :: rest)) := r_putN (fs1 := []) F hG (kd_lt hk (by decide)) eM (gd4 hk) ((gd4 hk).trans (congrArg (fun z => Sum.inr (4, z)) hs)) rfl (kuX4 F.kd) tyX4_ok nmX4 hj hlink hfin (tyX4_ok j hj) hn hfit hj hdg kk
theorem iuX5 : ∀ w ∈ u_ws RX5 TX5 3, w ∈ lw_tbl := fun w hw => List.mem_append_right _ (goodIn_r (big := tables_1) (u_ws RX5 TX5 3) [146, 148, 150] (by decide +kernel) (by decide +kernel) w hw).1
theorem ivX5 : ∀ w ∈ u_ws RX5 TX5 3, okW w = true := List.all_eq_true.mp (by decide +kernel)
theorem kuX5 {args : Array Value} {s : State} (h : KD s) : ∀ w ∈ u_ws RX5 TX5 3, w.before args s = true := fun w hw => va_Nw.use (okW_on (ivX5 w hw)) (h w (iuX5 w hw) (ivX5 w hw))
theorem xg5 {p : Program} {l : Launch} {e : Env} {R : Room} {s : State} {m : MethodId} {args : Array Value} {below : List Frame} {meth : Method} {c : Code} {H : Heap} {locs : List Loc} {cells slots : Nat} {Q : State → Prop} {cc : ByteArray} {nL pc : Nat} {ls : Array Slot} {rest : List Value} {D : va_G} {ca : vCA} {g : Nat → Nat} {M : Mem} {own : String} {k : Nat} (F : FX p m c cc nL s D ca g own) (hG : GW D ca g s M H locs) (hk : kd k = 5) (j : Nat) (hj : j < 3) {index : Nat} (hlink : (Cond.fieldLink own index (TX5 j).1 (TX5 j).2.1 (TX5 j).2.2.1).before args s = true) {v : Value} (hv : (fl5 g (M k) k)[j]? = some v) (hdg : decode cc pc = .ok (.getfield index, 3)) (kk : W p l e R s m args below meth c H locs cells slots Q (F0 m (pc + 3) ls (v :: rest))) : W p l e R s m args below meth c H locs cells slots Q (F0 m pc ls (.ref (g k) :: rest)) := r_get F hG (kd_lt hk (by decide)) (gd5 hk) rfl (kuX5 F.kd) j hj hlink hv hdg kk
theorem xp5 {p : Program} {l : Launch} {e : Env} {R : Room} {s : State} {m : MethodId} {args : Array Value} {below : List Frame} {meth : Method} {c : Code} {H : Heap} {locs : List Loc} {cells slots : Nat} {Q : State → Prop} {cc : ByteArray} {nL pc : Nat} {ls : Array Slot} {rest : List Value} {D : va_G} {ca : vCA} {g : Nat → Nat} {M M1 : Mem} {own : String} {k : Nat} (F : FX p m c cc nL s D ca g own) (hG : GW D ca g s M H locs) (hk : kd k = 5) {j : Nat} {x : Int32} (eM : M1 = mst M k j x) (hs : fl5 g (upd (M k) j x) k = (fl5 g (M k) k).set j (.int x)) (hj : j < 3) {index : Nat} (hlink : (Cond.fieldLink own index (TX5 j).1 (TX5 j).2.1 (TX5 j).2.2.1).before args s = true) (hfin : (TX5 j).2.2.2 = false) (hn : narrow (tyX5 j) (.int x) = .int x) (hfit : fits (tyX5 j) (.int x) = true) (hdg : decode cc pc = .ok (.putfield index, 3)) (kk : ∀ (H1 : Heap) (locs1 : List Loc), GW D ca g s M1 H1 locs1 → W p l e R s m args below meth c H1 locs1 cells slots Q (F0 m (pc + 3) ls rest)) : W p l e R s m args below meth c H locs cells slots Q (F0 m pc ls (.int x :: .ref (g k) :: rest)) := r_put (fs1 := []) F hG (kd_lt hk (by decide)) eM (gd5 hk) ((gd5 hk).trans (congrArg (fun z => Sum.inr (5, z)) hs)) rfl (kuX5 F.kd) tyX5_ok nmX5 hj hlink hfin (tyX5_ok j hj) hn hfit hj hdg kk
theorem xg5N {p : Program} {l : Launch} {e : Env} {R : Room} {s : State} {m : MethodId} {args : Array Value} {below : List Frame} {meth : Method} {c : Code} {H : Heap} {locs : List Loc} {cells slots : Nat} {Q : State → Prop} {cc : ByteArray} {nL pc : Nat} {ls : Array Slot} {rest : List Value} {D : va_G} {ca : vCA} {g : Nat → Nat} {M : Mem} {own : String} {k : Nat} (F : FX p m c cc nL s D ca g own) (hG : GW D ca g s M H locs) {host : String} (hk : kd k = 5) (j : Nat) (hj : j < 3) {index : Nat} (hlink : (Cond.fieldLinkNest own index (TX5 j).1 (TX5 j).2.1 (TX5 j).2.2.1 host).before args s = true) {v : Value} (hv : (fl5 g (M k) k)[j]? = some v) (hdg : decode cc pc = .ok (.getfield index, 3)) (kk : W p l e R s m args below meth c H locs cells slots Q (F0 m (pc + 3) ls (v :: rest))) : W p l e R s m args below meth c H locs cells slots Q (F0 m pc ls (.ref (g k) :: rest)) := r_getN F hG (kd_lt hk (by decide)) (gd5 hk) rfl (kuX5 F.kd) j hj hlink hv hdg kk
theorem xp5N {p : Program} {l : Launch} {e : Env} {R : Room} {s : State} {m : MethodId} {args : Array Value} {below : List Frame} {meth : Method} {c : Code} {H : Heap} {locs : List Loc} {cells slots : Nat} {Q : State → Prop} {cc : ByteArray} {nL pc : Nat} {ls : Array Slot} {rest : List Value} {D : va_G} {ca : vCA} {g : Nat → Nat} {M M1 : Mem} {own : String} {k : Nat} (F : FX p m c cc nL s D ca g own) (hG : GW D ca g s M H locs) {host : String} (hk : kd k = 5) {j : Nat} {x : Int32} (eM : M1 = mst M k j x) (hs : fl5 g (upd (M k) j x) k = (fl5 g (M k) k).set j (.int x)) (hj : j < 3) {index : Nat} (hlink : (Cond.fieldLinkNest own index (TX5 j).1 (TX5 j).2.1 (TX5 j).2.2.1 host).before args s = true) (hfin : (TX5 j).2.2.2 = false) (hn : narrow (tyX5 j) (.int x) = .int x) (hfit : fits (tyX5 j) (.int x) = true) (hdg : decode cc pc = .ok (.putfield index, 3)) (kk : ∀ (H1 : Heap) (locs1 : List Loc), GW D ca g s M1 H1 locs1 → W p l e R s m args below meth c H1 locs1 cells slots Q (F0 m (pc + 3) ls rest)) : W p l e R s m args below meth c H locs cells slots Q (F0 m pc ls (.int x :: .ref (g k) :: rest)) := r_putN (fs1 := []) F hG (kd_lt hk (by decide)) eM (gd5 hk) ((gd5 hk).trans (congrArg (fun z => Sum.inr (5, z)) hs)) rfl (kuX5 F.kd) tyX5_ok nmX5 hj hlink hfin (tyX5_ok j hj) hn hfit hj hdg kk
theorem iuX6 : ∀ w ∈ u_ws RX6 TX6 11, w ∈ lw_tbl := fun w hw => List.mem_append_right _ (goodIn_r (big := tables_1) (u_ws RX6 TX6 11) [661, 663, 665, 667, 669, 671, 673, 675, 677, 679, 681] (by decide +kernel) (by decide +kernel) w hw).1
theorem ivX6 : ∀ w ∈ u_ws RX6 TX6 11, okW w = true := List.all_eq_true.mp (by decide +kernel)
theorem kuX6 {args : Array Value} {s : State} (h : KD s) : ∀ w ∈ u_ws RX6 TX6 11, w.before args s = true := fun w hw => va_Nw.use (okW_on (ivX6 w hw)) (h w (iuX6 w hw) (ivX6 w hw))
theorem xg6 {p : Program} {l : Launch} {e : Env} {R : Room} {s : State} {m : MethodId} {args : Array Value} {below : List Frame} {meth : Method} {c : Code} {H : Heap} {locs : List Loc} {cells slots : Nat} {Q : State → Prop} {cc : ByteArray} {nL pc : Nat} {ls : Array Slot} {rest : List Value} {D : va_G} {ca : vCA} {g : Nat → Nat} {M : Mem} {own : String} {k : Nat} (F : FX p m c cc nL s D ca g own) (hG : GW D ca g s M H locs) (hk : kd k = 6) (j : Nat) (hj : j < 11) {index : Nat} (hlink : (Cond.fieldLink own index (TX6 j).1 (TX6 j).2.1 (TX6 j).2.2.1).before args s = true) {v : Value} (hv : (fl6 g (M k) k)[j]? = some v) (hdg : decode cc pc = .ok (.getfield index, 3)) (kk : W p l e R s m args below meth c H locs cells slots Q (F0 m (pc + 3) ls (v :: rest))) : W p l e R s m args below meth c H locs cells slots Q (F0 m pc ls (.ref (g k) :: rest)) := r_get F hG (kd_lt hk (by decide)) (gd6 hk) rfl (kuX6 F.kd) j hj hlink hv hdg kk
theorem xp6 {p : Program} {l : Launch} {e : Env} {R : Room} {s : State} {m : MethodId} {args : Array Value} {below : List Frame} {meth : Method} {c : Code} {H : Heap} {locs : List Loc} {cells slots : Nat} {Q : State → Prop} {cc : ByteArray} {nL pc : Nat} {ls : Array Slot} {rest : List Value} {D : va_G} {ca : vCA} {g : Nat → Nat} {M M1 : Mem} {own : String} {k : Nat} (F : FX p m c cc nL s D ca g own) (hG : GW D ca g s M H locs) (hk : kd k = 6) {j : Nat} {x : Int32} (eM : M1 = mst M k j x) (hs : fl6 g (upd (M k) j x) k = (fl6 g (M k) k).set j (.int x)) (hj : j < 11) {index : Nat} (hlink : (Cond.fieldLink own index (TX6 j).1 (TX6 j).2.1 (TX6 j).2.2.1).before args s = true) (hfin : (TX6 j).2.2.2 = false) (hn : narrow (tyX6 j) (.int x) = .int x) (hfit : fits (tyX6 j) (.int x) = true) (hdg : decode cc pc = .ok (.putfield index, 3)) (kk : ∀ (H1 : Heap) (locs1 : List Loc), GW D ca g s M1 H1 locs1 → W p l e R s m args below meth c H1 locs1 cells slots Q (F0 m (pc + 3) ls rest)) : W p l e R s m args below meth c H locs cells slots Q (F0 m pc ls (.int x :: .ref (g k) :: rest)) := r_put (fs1 := []) F hG (kd_lt hk (by decide)) eM (gd6 hk) ((gd6 hk).trans (congrArg (fun z => Sum.inr (6, z)) hs)) rfl (kuX6 F.kd) tyX6_ok nmX6 hj hlink hfin (tyX6_ok j hj) hn hfit hj hdg kk
theorem xg6N {p : Program} {l : Launch} {e : Env} {R : Room} {s : State} {m : MethodId} {args : Array Value} {below : List Frame} {meth : Method} {c : Code} {H : Heap} {locs : List Loc} {cells slots : Nat} {Q : State → Prop} {cc : ByteArray} {nL pc : Nat} {ls : Array Slot} {rest : List Value} {D : va_G} {ca : vCA} {g : Nat → Nat} {M : Mem} {own : String} {k : Nat} (F : FX p m c cc nL s D ca g own) (hG : GW D ca g s M H locs) {host : String} (hk : kd k = 6) (j : Nat) (hj : j < 11) {index : Nat} (hlink : (Cond.fieldLinkNest own index (TX6 j).1 (TX6 j).2.1 (TX6 j).2.2.1 host).before args s = true) {v : Value} (hv : (fl6 g (M k) k)[j]? = some v) (hdg : decode cc pc = .ok (.getfield index, 3)) (kk : W p l e R s m args below meth c H locs cells slots Q (F0 m (pc + 3) ls (v :: rest))) : W p l e R s m args below meth c H locs cells slots Q (F0 m pc ls (.ref (g k) :: rest)) := r_getN F hG (kd_lt hk (by decide)) (gd6 hk) rfl (kuX6 F.kd) j hj hlink hv hdg kk
theorem xp6N {p : Program} {l : Launch} {e : Env} {R : Room} {s : State} {m : MethodId} {args : Array Value} {below : List Frame} {meth : Method} {c : Code} {H : Heap} {locs : List Loc} {cells slots : Nat} {Q : State → Prop} {cc : ByteArray} {nL pc : Nat} {ls : Array Slot} {rest : List Value} {D : va_G} {ca : vCA} {g : Nat → Nat} {M M1 : Mem} {own : String} {k : Nat} (F : FX p m c cc nL s D ca g own) (hG : GW D ca g s M H locs) {host : String} (hk : kd k = 6) {j : Nat} {x : Int32} (eM : M1 = mst M k j x) (hs : fl6 g (upd (M k) j x) k = (fl6 g (M k) k).set j (.int x)) (hj : j < 11) {index : Nat} (hlink : (Cond.fieldLinkNest own index (TX6 j).1 (TX6 j).2.1 (TX6 j).2.2.1 host).before args s = true) (hfin : (TX6 j).2.2.2 = false) (hn : narrow (tyX6 j) (.int x) = .int x) (hfit : fits (tyX6 j) (.int x) = true) (hdg : decode cc pc = .ok (.putfield index, 3)) (kk : ∀ (H1 : Heap) (locs1 : List Loc), GW D ca g s M1 H1 locs1 → W p l e R s m args below meth c H1 locs1 cells slots Q (F0 m (pc + 3) ls rest)) : W p l e R s m args below meth c H locs cells slots Q (F0 m pc ls (.int x :: .ref (g k) :: rest)) := r_putN (fs1 := []) F hG (kd_lt hk (by decide)) eM (gd6 hk) ((gd6 hk).trans (congrArg (fun z => Sum.inr (6, z)) hs)) rfl (kuX6 F.kd) tyX6_ok nmX6 hj hlink hfin (tyX6_ok j hj) hn hfit hj hdg kk
theorem iuX7 : ∀ w ∈ u_ws RX7 TX7 9, w ∈ lw_tbl := fun w hw => List.mem_append_right _ (goodIn_r (big := tables_1) (u_ws RX7 TX7 9) [698, 700, 702, 704, 706, 708, 710, 712, 714] (by decide +kernel) (by decide +kernel) w hw).1
theorem ivX7 : ∀ w ∈ u_ws RX7 TX7 9, okW w = true := List.all_eq_true.mp (by decide +kernel)
theorem kuX7 {args : Array Value} {s : State} (h : KD s) : ∀ w ∈ u_ws RX7 TX7 9, w.before args s = true := fun w hw => va_Nw.use (okW_on (ivX7 w hw)) (h w (iuX7 w hw) (ivX7 w hw))
theorem xg7 {p : Program} {l : Launch} {e : Env} {R : Room} {s : State} {m : MethodId} {args : Array Value} {below : List Frame} {meth : Method} {c : Code} {H : Heap} {locs : List Loc} {cells slots : Nat} {Q : State → Prop} {cc : ByteArray} {nL pc : Nat} {ls : Array Slot} {rest : List Value} {D : va_G} {ca : vCA} {g : Nat → Nat} {M : Mem} {own : String} {k : Nat} (F : FX p m c cc nL s D ca g own) (hG : GW D ca g s M H locs) (hk : kd k = 7) (j : Nat) (hj : j < 9) {index : Nat} (hlink : (Cond.fieldLink own index (TX7 j).1 (TX7 j).2.1 (TX7 j).2.2.1).before args s = true) {v : Value} (hv : (fl7 g (M k) k)[j]? = some v) (hdg : decode cc pc = .ok (.getfield index, 3)) (kk : W p l e R s m args below meth c H locs cells slots Q (F0 m (pc + 3) ls (v :: rest))) : W p l e R s m args below meth c H locs cells slots Q (F0 m pc ls (.ref (g k) :: rest)) := r_get F hG (kd_lt hk (by decide)) (gd7 hk) rfl (kuX7 F.kd) j hj hlink hv hdg kk
theorem xp7 {p : Program} {l : Launch} {e : Env} {R : Room} {s : State} {m : MethodId} {args : Array Value} {below : List Frame} {meth : Method} {c : Code} {H : Heap} {locs : List Loc} {cells slots : Nat} {Q : State → Prop} {cc : ByteArray} {nL pc : Nat} {ls : Array Slot} {rest : List Value} {D : va_G} {ca : vCA} {g : Nat → Nat} {M M1 : Mem} {own : String} {k : Nat} (F : FX p m c cc nL s D ca g own) (hG : GW D ca g s M H locs) (hk : kd k = 7) {j : Nat} {x : Int32} (eM : M1 = mst M k j x) (hs : fl7 g (upd (M k) j x) k = (fl7 g (M k) k).set j (.int x)) (hj : j < 9) {index : Nat} (hlink : (Cond.fieldLink own index (TX7 j).1 (TX7 j).2.1 (TX7 j).2.2.1).before args s = true) (hfin : (TX7 j).2.2.2 = false) (hn : narrow (tyX7 j) (.int x) = .int x) (hfit : fits (tyX7 j) (.int x) = true) (hdg : decode cc pc = .ok (.putfield index, 3)) (kk : ∀ (H1 : Heap) (locs1 : List Loc), GW D ca g s M1 H1 locs1 → W p l e R s m args below meth c H1 locs1 cells slots Q (F0 m (pc + 3) ls rest)) : W p l e R s m args below meth c H locs cells slots Q (F0 m pc ls (.int x :: .ref (g k) :: rest)) := r_put (fs1 := []) F hG (kd_lt hk (by decide)) eM (gd7 hk) ((gd7 hk).trans (congrArg (fun z => Sum.inr (7, z)) hs)) rfl (kuX7 F.kd) tyX7_ok nmX7 hj hlink hfin (tyX7_ok j hj) hn hfit hj hdg kk
theorem xg7N {p : Program} {l : Launch} {e : Env} {R : Room} {s : State} {m : MethodId} {args : Array Value} {below : List Frame} {meth : Method} {c : Code} {H : Heap} {locs : List Loc} {cells slots : Nat} {Q : State → Prop} {cc : ByteArray} {nL pc : Nat} {ls : Array Slot} {rest : List Value} {D : va_G} {ca : vCA} {g : Nat → Nat} {M : Mem} {own : String} {k : Nat} (F : FX p m c cc nL s D ca g own) (hG : GW D ca g s M H locs) {host : String} (hk : kd k = 7) (j : Nat) (hj : j < 9) {index : Nat} (hlink : (Cond.fieldLinkNest own index (TX7 j).1 (TX7 j).2.1 (TX7 j).2.2.1 host).before args s = true) {v : Value} (hv : (fl7 g (M k) k)[j]? = some v) (hdg : decode cc pc = .ok (.getfield index, 3)) (kk : W p l e R s m args below meth c H locs cells slots Q (F0 m (pc + 3) ls (v :: rest))) : W p l e R s m args below meth c H locs cells slots Q (F0 m pc ls (.ref (g k) :: rest)) := r_getN F hG (kd_lt hk (by decide)) (gd7 hk) rfl (kuX7 F.kd) j hj hlink hv hdg kk
theorem xp7N {p : Program} {l : Launch} {e : Env} {R : Room} {s : State} {m : MethodId} {args : Array Value} {below : List Frame} {meth : Method} {c : Code} {H : Heap} {locs : List Loc} {cells slots : Nat} {Q : State → Prop} {cc : ByteArray} {nL pc : Nat} {ls : Array Slot} {rest : List Value} {D : va_G} {ca : vCA} {g : Nat → Nat} {M M1 : Mem} {own : String} {k : Nat} (F : FX p m c cc nL s D ca g own) (hG : GW D ca g s M H locs) {host : String} (hk : kd k = 7) {j : Nat} {x : Int32} (eM : M1 = mst M k j x) (hs : fl7 g (upd (M k) j x) k = (fl7 g (M k) k).set j (.int x)) (hj : j < 9) {index : Nat} (hlink : (Cond.fieldLinkNest own index (TX7 j).1 (TX7 j).2.1 (TX7 j).2.2.1 host).before args s = true) (hfin : (TX7 j).2.2.2 = false) (hn : narrow (tyX7 j) (.int x) = .int x) (hfit : fits (tyX7 j) (.int x) = true) (hdg : decode cc pc = .ok (.putfield index, 3)) (kk : ∀ (H1 : Heap) (locs1 : List Loc), GW D ca g s M1 H1 locs1 → W p l e R s m args below meth c H1 locs1 cells slots Q (F0 m (pc + 3) ls rest)) : W p l e R s m args below meth c H locs cells slots Q (F0 m pc ls (.int x :: .ref (g k) :: rest)) := r_putN (fs1 := []) F hG (kd_lt hk (by decide)) eM (gd7 hk) ((gd7 hk).trans (congrArg (fun z => Sum.inr (7, z)) hs)) rfl (kuX7 F.kd) tyX7_ok nmX7 hj hlink hfin (tyX7_ok j hj) hn hfit hj hdg kk
def mabs (x : Int32) : Int32 := if 0 ≤ x then x else 0 - x
def mmax (x y : Int32) : Int32 := if x < y then y else x
def mmin (x y : Int32) : Int32 := if y < x then y else x
def vX (i : Int32) : Int32 := if i.toNatClampNeg = 1 then 1 else if i.toNatClampNeg = 3 then -1 else 0
def vY (i : Int32) : Int32 := if i.toNatClampNeg = 0 then -1 else if i.toNatClampNeg = 2 then 1 else 0
theorem mlet_n {α β : Type} {M x : α} {f : α → Option β} {z : Option β} (h : mlet M f = z) (e : x = M) : f x = z := by
  subst e
  exact h
def up2 {A B C : Type} (f : A → B → C) (p : A × B) : C := f p.1 p.2
def up3 {A B C E : Type} (f : A → B → C → E) (p : A × B × C) : E := f p.1 p.2.1 p.2.2
def up4 {A B C E G : Type} (f : A → B → C → E → G) (p : A × B × C × E) : G := f p.1 p.2.1 p.2.2.1 p.2.2.2
theorem up2_e {A B C : Type} {f : A → B → C} {a : A} {b : B} {z : C} (h : up2 f (a, b) = z) : f a b = z := h
theorem up3_e {A B C E : Type} {f : A → B → C → E} {a : A} {b : B} {c : C} {z : E} (h : up3 f (a, b, c) = z) : f a b c = z := h
theorem up4_e {A B C E G : Type} {f : A → B → C → E → G} {a : A} {b : B} {c : C} {d : E} {z : G} (h : up4 f (a, b, c, d) = z) : f a b c d = z := h
theorem se_l {A B C : Type} {f : A → C} {g : B → C} {a : A} {z : C} (h : Sum.elim f g (Sum.inl a) = z) : f a = z := h
theorem se_r {A B C : Type} {f : A → C} {g : B → C} {b : B} {z : C} (h : Sum.elim f g (Sum.inr b) = z) : g b = z := h
theorem ts_lit (n : Nat) (h : n < 2 ^ 31) (x : Int32) (hx : x.toInt = (n : Int)) : x = Int32.ofNat n := by
  apply Int32.toInt_inj.mp
  rw [hx]
  exact (nI_toInt h).symm
theorem tso {x : Int32} (n : Nat) (hn : n < 2 ^ 31) (h : ∀ j : Nat, j ≤ n → ¬ x = Int32.ofNat j) : x.toInt < 0 ∨ (n : Int) < x.toInt := by
  rcases Int.lt_or_le x.toInt 0 with q | q
  · exact Or.inl q
  · rcases Int.lt_or_le (n : Int) x.toInt with r | r
    · exact Or.inr r
    · exfalso
      refine h x.toInt.toNat (by omega) (ts_lit _ (by omega) x (by omega))
theorem tso2 {x : Int32} (h0 : ¬ x = 0) (h1 : ¬ x = 1) (h2 : ¬ x = 2) : x.toInt < 0 ∨ 2 < x.toInt := tso 2 (by decide) (fun j hj => by
  rcases (show j = 0 ∨ j = 1 ∨ j = 2 by omega) with rfl | rfl | rfl
  · exact h0
  · exact h1
  · exact h2)
theorem tso6 {x : Int32} (h0 : ¬ x = 0) (h1 : ¬ x = 1) (h2 : ¬ x = 2) (h3 : ¬ x = 3) (h4 : ¬ x = 4) (h5 : ¬ x = 5) (h6 : ¬ x = 6) : x.toInt < 0 ∨ 6 < x.toInt := tso 6 (by decide) (fun j hj => by
  rcases (show j = 0 ∨ j = 1 ∨ j = 2 ∨ j = 3 ∨ j = 4 ∨ j = 5 ∨ j = 6 by omega) with rfl | rfl | rfl | rfl | rfl | rfl | rfl
  · exact h0
  · exact h1
  · exact h2
  · exact h3
  · exact h4
  · exact h5
  · exact h6)
theorem lso1 {x : Int32} {a b df : Int} (h0 : ¬ x = 0) (h1 : ¬ x = 1) : Op.lookupswitch.offset [(0, a), (1, b)] df x.toInt = df := by
  have e0 : ¬ (0 : Int) = x.toInt := fun q => h0 (ts_lit 0 (by decide) x q.symm)
  have e1 : ¬ (1 : Int) = x.toInt := fun q => h1 (ts_lit 1 (by decide) x q.symm)
  rw [Op.lookupswitch.offset_cons, if_neg e0, Op.lookupswitch.offset_cons, if_neg e1, Op.lookupswitch.offset_nil]
end
section
def m_X3_next (fu : Nat) (M : Mem) (x0 : Int32) (x1 : Int32) : Option (Int32) :=
  if x0 < 0 then
  (some (-1))
else
  (if x0 < 108 then
  (if x1 = 0 then
  (if x0 < 12 then
  (some (-1))
else
  (some (x0 - 12)))
else if x1 = 1 then
  (if 11 ≤ (x0 - x0 / 12 * 12) then
  (some (-1))
else
  (some (x0 + 1)))
else if x1 = 2 then
  (if 96 ≤ x0 then
  (some (-1))
else
  (some (x0 + 12)))
else 
  (if (x0 - x0 / 12 * 12) ≤ 0 then
  (some (-1))
else
  (some (x0 - 1))))
else
  (some (-1)))
def m_X3_at (fu : Nat) (M : Mem) (a0 : Nat) (x1 : Int32) : Option (Int32) :=
  if x1 < 0 then
  (some (-1))
else
  (if 108 ≤ x1 then
  (some (-1))
else
  (chk (inb x1 (alen (a0 + 1))) <|
  some (M (a0 + 1) x1.toNatClampNeg)))
def m_X3_put (fu : Nat) (M : Mem) (a0 : Nat) (x1 : Int32) (x2 : Int32) : Option (Mem) :=
  if x1 < 0 then
  (some M)
else
  (if 108 ≤ x1 then
  (some M)
else
  (chk (inb x1 (alen (a0 + 1))) <|
  mlet (mst M (a0 + 1) x1.toNatClampNeg x2) fun M8 =>
  some M8))
def m_X3_isFree (fu : Nat) (M : Mem) (a0 : Nat) (x1 : Int32) : Option (Int32) :=
  cb1 (m_X3_at fu M a0 x1) fun r4 =>
  if r4 = 0 then
  (some 1)
else
  (some 0)
def m_X3_cellsWith_L4 (fu : Nat) (M : Mem) (q0 : Nat) (y1 : Int32) : Nat → Int32 → Int32 → Option (Int32)
  | 0, _, _ => none
  | n + 1, z2, z3 =>
  if 108 ≤ z3 then
    (some z2)
  else
    (chk (inb z3 (alen (q0 + 1))) <|
    if (M (q0 + 1) z3.toNatClampNeg) = y1 then
    (mlet (z2 + 1) fun x8 =>
    mlet (z3 + 1) fun x9 =>
    m_X3_cellsWith_L4 fu M q0 y1 n x8 x9)
  else
    (mlet (z3 + 1) fun x7 =>
    m_X3_cellsWith_L4 fu M q0 y1 n z2 x7))
def m_X3_cellsWith (fu : Nat) (M : Mem) (a0 : Nat) (x1 : Int32) : Option (Int32) :=
  cb1 (m_X3_cellsWith_L4 fu M a0 x1 fu 0 0) <|
  fun x12 =>
  some x12
def m_X3_barricades_L4 (fu : Nat) (M : Mem) (q0 : Nat) : Nat → Int32 → Int32 → Option (Int32)
  | 0, _, _ => none
  | n + 1, z1, z2 =>
  if 108 ≤ z2 then
    (some z1)
  else
    (chk (inb z2 (alen (q0 + 1))) <|
    if (M (q0 + 1) z2.toNatClampNeg) ≤ 0 then
    (mlet (z2 + 1) fun x6 =>
    m_X3_barricades_L4 fu M q0 n z1 x6)
  else
    (chk (inb z2 (alen (q0 + 1))) <|
    mlet ((z1 + (M (q0 + 1) z2.toNatClampNeg))) fun x9 =>
    mlet (z2 + 1) fun x10 =>
    m_X3_barricades_L4 fu M q0 n x9 x10))
def m_X3_barricades (fu : Nat) (M : Mem) (a0 : Nat) : Option (Int32) :=
  cb1 (m_X3_barricades_L4 fu M a0 fu 0 0) <|
  fun x13 =>
  some x13
def m_X3_addCellsTo_L5 (fu : Nat) (M : Mem) (q0 : Nat) : Nat → Int64 → Int32 → Option (Int64)
  | 0, _, _ => none
  | n + 1, z3, z5 =>
  if 108 ≤ z5 then
    (some z3)
  else
    (chk (inb z5 (alen (q0 + 1))) <|
    mlet (((z3 * 31) + (((M (q0 + 1) z5.toNatClampNeg) : Int32).toInt64))) fun x6 =>
    mlet (z5 + 1) fun x7 =>
    m_X3_addCellsTo_L5 fu M q0 n x6 x7)
def m_X3_addCellsTo (fu : Nat) (M : Mem) (a0 : Nat) (x1 : Int64) : Option (Int64) :=
  cb1 (m_X3_addCellsTo_L5 fu M a0 fu x1 0) <|
  fun x10 =>
  some x10
def m_X3_become (fu : Nat) (M : Mem) (a0 : Nat) (a1 : Nat) : Option (Mem) :=
  chk (cpok 0 0 108 (alen (a1 + 1)) (alen (a0 + 1))) <|
  mlet (mcp M (a1 + 1) (a0 + 1) (0 : Int32).toNatClampNeg (0 : Int32).toNatClampNeg (108 : Int32).toNatClampNeg) fun M6 =>
  some M6
end
section
set_option maxHeartbeats 4000000 in
set_option maxRecDepth 100000 in
theorem c_X3_next (l : Launch) (D : va_G) (ca : vCA) (g : Nat → Nat) {fu : Nat} {M : Mem} {x0 : Int32} {x1 : Int32} {r : Int32}  (h : m_X3_next fu M x0 x1 = some r) : cM l yX3_next cX3_next 2 (some .int) { frames := 0, cells := 0, slots := 0, locals := 0 } D ca g M [.int x0, .int x1] (fun sz => cQi D ca g sz M r) := by
  refine mk_Met (by decide) (Nat.le_of_ble_eq_true rfl) ?_
  intro p e s m below meth c F hr hlk hnm hG ls hl
  have hx := F.1
  have hb := F.2.1
  replace hl : lv_has ls 2 [(0, .int x0), (1, .int x1)] := hl
  unfold m_X3_next at h
  refine lv_iload_n hx hb dX3_next_0 rfl (lv_at hl 0 rfl) ?_
  refine lv_if_lt (tgt := 10) hx hb dX3_next_1 (by decide) (fun c3 => ?_) (fun c3 => ?_)
  · have h := ite_t h c3
    refine lv_iconst (v := (-1)) hx hb dX3_next_10 (by decide) ?_
    obtain rfl := som1 h
    exact end_i F hr hlk hG dX3_next_11
  · have h := ite_f h c3
    refine lv_iload_n hx hb dX3_next_4 rfl (lv_at hl 0 rfl) ?_
    refine lv_bipush (v := 108) hx hb dX3_next_5 (by decide) ?_
    refine lv_icmp_lt (tgt := 12) hx hb dX3_next_7 (by decide) (fun c4 => ?_) (fun c4 => ?_)
    · have h := ite_t h c4
      refine lv_iload_n hx hb dX3_next_12 rfl (lv_at hl 1 rfl) ?_
      by_cases c5 : x1 = 0
      · have h := ite_t h c5
        refine lv_tableIn (off := 27) (tgt := 40) hx hb dX3_next_13 (by rw [c5]; decide) (by rw [c5]; decide) (by rw [c5]; rfl) (by decide) ?_
        refine lv_iload_n hx hb dX3_next_40 rfl (lv_at hl 0 rfl) ?_
        refine lv_bipush (v := 12) hx hb dX3_next_41 (by decide) ?_
        refine lv_icmp_lt (tgt := 53) hx hb dX3_next_43 (by decide) (fun c6 => ?_) (fun c6 => ?_)
        · have h := ite_t h c6
          refine lv_iconst (v := (-1)) hx hb dX3_next_53 (by decide) ?_
          obtain rfl := som1 h
          exact end_i F hr hlk hG dX3_next_54
        · have h := ite_f h c6
          refine lv_iload_n hx hb dX3_next_46 rfl (lv_at hl 0 rfl) ?_
          refine lv_bipush (v := 12) hx hb dX3_next_47 (by decide) ?_
          refine lv_isub hx hb dX3_next_49 ?_
          refine lv_goto (tgt := 54) hx hb dX3_next_50 (by decide) ?_
          obtain rfl := som1 h
          exact end_i F hr hlk hG dX3_next_54
      have h := ite_f h c5
      by_cases c7 : x1 = 1
      · have h := ite_t h c7
        refine lv_tableIn (off := 42) (tgt := 55) hx hb dX3_next_13 (by rw [c7]; decide) (by rw [c7]; decide) (by rw [c7]; rfl) (by decide) ?_
        refine lv_iload_n hx hb dX3_next_55 rfl (lv_at hl 0 rfl) ?_
        refine lv_bipush (v := 12) hx hb dX3_next_56 (by decide) ?_
        refine lv_irem hx hb dX3_next_58 (by decide) ?_
        refine lv_bipush (v := 11) hx hb dX3_next_59 (by decide) ?_
        refine lv_icmp_ge (tgt := 70) hx hb dX3_next_61 (by decide) (fun c8 => ?_) (fun c8 => ?_)
        · have h := ite_t h c8
          refine lv_iconst (v := (-1)) hx hb dX3_next_70 (by decide) ?_
          obtain rfl := som1 h
          exact end_i F hr hlk hG dX3_next_71
        · have h := ite_f h c8
          refine lv_iload_n hx hb dX3_next_64 rfl (lv_at hl 0 rfl) ?_
          refine lv_iconst (v := 1) hx hb dX3_next_65 (by decide) ?_
          refine lv_iadd hx hb dX3_next_66 ?_
          refine lv_goto (tgt := 71) hx hb dX3_next_67 (by decide) ?_
          obtain rfl := som1 h
          exact end_i F hr hlk hG dX3_next_71
      have h := ite_f h c7
      by_cases c9 : x1 = 2
      · have h := ite_t h c9
        refine lv_tableIn (off := 59) (tgt := 72) hx hb dX3_next_13 (by rw [c9]; decide) (by rw [c9]; decide) (by rw [c9]; rfl) (by decide) ?_
        refine lv_iload_n hx hb dX3_next_72 rfl (lv_at hl 0 rfl) ?_
        refine lv_bipush (v := 96) hx hb dX3_next_73 (by decide) ?_
        refine lv_icmp_ge (tgt := 85) hx hb dX3_next_75 (by decide) (fun c10 => ?_) (fun c10 => ?_)
        · have h := ite_t h c10
          refine lv_iconst (v := (-1)) hx hb dX3_next_85 (by decide) ?_
          obtain rfl := som1 h
          exact end_i F hr hlk hG dX3_next_86
        · have h := ite_f h c10
          refine lv_iload_n hx hb dX3_next_78 rfl (lv_at hl 0 rfl) ?_
          refine lv_bipush (v := 12) hx hb dX3_next_79 (by decide) ?_
          refine lv_iadd hx hb dX3_next_81 ?_
          refine lv_goto (tgt := 86) hx hb dX3_next_82 (by decide) ?_
          obtain rfl := som1 h
          exact end_i F hr hlk hG dX3_next_86
      have h := ite_f h c9
      refine lv_tableOut (tgt := 87) hx hb dX3_next_13 (tso2 c5 c7 c9) (by decide) ?_
      refine lv_iload_n hx hb dX3_next_87 rfl (lv_at hl 0 rfl) ?_
      refine lv_bipush (v := 12) hx hb dX3_next_88 (by decide) ?_
      refine lv_irem hx hb dX3_next_90 (by decide) ?_
      refine lv_if_le (tgt := 100) hx hb dX3_next_91 (by decide) (fun c11 => ?_) (fun c11 => ?_)
      · have h := ite_t h c11
        refine lv_iconst (v := (-1)) hx hb dX3_next_100 (by decide) ?_
        obtain rfl := som1 h
        exact end_i F hr hlk hG dX3_next_101
      · have h := ite_f h c11
        refine lv_iload_n hx hb dX3_next_94 rfl (lv_at hl 0 rfl) ?_
        refine lv_iconst (v := 1) hx hb dX3_next_95 (by decide) ?_
        refine lv_isub hx hb dX3_next_96 ?_
        refine lv_goto (tgt := 101) hx hb dX3_next_97 (by decide) ?_
        obtain rfl := som1 h
        exact end_i F hr hlk hG dX3_next_101
    · have h := ite_f h c4
      refine lv_iconst (v := (-1)) hx hb dX3_next_10 (by decide) ?_
      obtain rfl := som1 h
      exact end_i F hr hlk hG dX3_next_11
set_option maxHeartbeats 4000000 in
set_option maxRecDepth 100000 in
theorem c_X3_at (l : Launch) (D : va_G) (ca : vCA) (g : Nat → Nat) {fu : Nat} {M : Mem} {a0 : Nat} {x1 : Int32} {r : Int32} (ha0 : kd a0 = 3) (h : m_X3_at fu M a0 x1 = some r) : cM l yX3_at cX3_at 2 (some .int) { frames := 0, cells := 0, slots := 0, locals := 0 } D ca g M [.ref (g a0), .int x1] (fun sz => cQi D ca g sz M r) := by
  refine mk_Met (by decide) (Nat.le_of_ble_eq_true rfl) ?_
  intro p e s m below meth c F hr hlk hnm hG ls hl
  have hx := F.1
  have hb := F.2.1
  replace hl : lv_has ls 2 [(0, .ref (g a0)), (1, .int x1)] := hl
  unfold m_X3_at at h
  refine lv_iload_n hx hb dX3_at_0 rfl (lv_at hl 1 rfl) ?_
  refine lv_if_lt (tgt := 19) hx hb dX3_at_1 (by decide) (fun c3 => ?_) (fun c3 => ?_)
  · have h := ite_t h c3
    refine lv_iconst (v := (-1)) hx hb dX3_at_19 (by decide) ?_
    obtain rfl := som1 h
    exact end_i F hr hlk hG dX3_at_20
  · have h := ite_f h c3
    refine lv_iload_n hx hb dX3_at_4 rfl (lv_at hl 1 rfl) ?_
    refine lv_bipush (v := 108) hx hb dX3_at_5 (by decide) ?_
    refine lv_icmp_ge (tgt := 19) hx hb dX3_at_7 (by decide) (fun c4 => ?_) (fun c4 => ?_)
    · have h := ite_t h c4
      refine lv_iconst (v := (-1)) hx hb dX3_at_19 (by decide) ?_
      obtain rfl := som1 h
      exact end_i F hr hlk hG dX3_at_20
    · have h := ite_f h c4
      refine lv_aload_n hx hb dX3_at_10 rfl (lv_at hl 0 rfl) ?_
      have hk5 := kt_qcells ha0
      refine xg3 F hG ha0 0 (by decide) (kw39 F.kd) (v := .ref (g (a0 + 1))) rfl dX3_at_11 ?_
      refine lv_iload_n hx hb dX3_at_14 rfl (lv_at hl 1 rfl) ?_
      obtain ⟨hi6, h⟩ := chk_e h
      refine r_ald F hG hk5 hi6 dX3_at_15 ?_
      refine lv_goto (tgt := 20) hx hb dX3_at_16 (by decide) ?_
      obtain rfl := som1 h
      exact end_i F hr hlk hG dX3_at_20
set_option maxHeartbeats 4000000 in
set_option maxRecDepth 100000 in
theorem c_X3_put (l : Launch) (D : va_G) (ca : vCA) (g : Nat → Nat) {fu : Nat} {M : Mem} {a0 : Nat} {x1 : Int32} {x2 : Int32} {M' : Mem} (ha0 : kd a0 = 3) (h : m_X3_put fu M a0 x1 x2 = some M') : cM l yX3_put cX3_put 3 none { frames := 0, cells := 0, slots := 0, locals := 0 } D ca g M [.ref (g a0), .int x1, .int x2] (fun sz => cQv D ca g sz M') := by
  refine mk_Met (by decide) (Nat.le_of_ble_eq_true rfl) ?_
  intro p e s m below meth c F hr hlk hnm hG ls hl
  have hx := F.1
  have hb := F.2.1
  replace hl : lv_has ls 3 [(0, .ref (g a0)), (1, .int x1), (2, .int x2)] := hl
  unfold m_X3_put at h
  refine lv_iload_n hx hb dX3_put_0 rfl (lv_at hl 1 rfl) ?_
  refine lv_if_lt (tgt := 17) hx hb dX3_put_1 (by decide) (fun c4 => ?_) (fun c4 => ?_)
  · have h := ite_t h c4
    obtain rfl := som1 h
    exact end_v F hr hlk hG dX3_put_17
  · have h := ite_f h c4
    refine lv_iload_n hx hb dX3_put_4 rfl (lv_at hl 1 rfl) ?_
    refine lv_bipush (v := 108) hx hb dX3_put_5 (by decide) ?_
    refine lv_icmp_ge (tgt := 17) hx hb dX3_put_7 (by decide) (fun c5 => ?_) (fun c5 => ?_)
    · have h := ite_t h c5
      obtain rfl := som1 h
      exact end_v F hr hlk hG dX3_put_17
    · have h := ite_f h c5
      refine lv_aload_n hx hb dX3_put_10 rfl (lv_at hl 0 rfl) ?_
      have hk6 := kt_qcells ha0
      refine xg3 F hG ha0 0 (by decide) (kw39 F.kd) (v := .ref (g (a0 + 1))) rfl dX3_put_11 ?_
      refine lv_iload_n hx hb dX3_put_14 rfl (lv_at hl 1 rfl) ?_
      refine lv_iload_n hx hb dX3_put_15 rfl (lv_at hl 2 rfl) ?_
      obtain ⟨hi7, h⟩ := chk_e h
      obtain ⟨M8, eM8, h⟩ := mlet_e h
      refine r_ast F hG hk6 hi7 eM8 dX3_put_16 (fun H locs hG => ?_)
      obtain rfl := som1 h
      exact end_v F hr hlk hG dX3_put_17
set_option maxHeartbeats 4000000 in
set_option maxRecDepth 100000 in
theorem c_X3_isFree (l : Launch) (D : va_G) (ca : vCA) (g : Nat → Nat) {fu : Nat} {M : Mem} {a0 : Nat} {x1 : Int32} {r : Int32} (ha0 : kd a0 = 3) (h : m_X3_isFree fu M a0 x1 = some r) : cM l yX3_isFree cX3_isFree 2 (some .boolean) { frames := 1, cells := 0, slots := 0, locals := 21 } D ca g M [.ref (g a0), .int x1] (fun sz => cQi D ca g sz M r) := by
  refine mk_Met (by decide) (Nat.le_of_ble_eq_true rfl) ?_
  intro p e s m below meth c F hr hlk hnm hG ls hl
  have hx := F.1
  have hb := F.2.1
  replace hl : lv_has ls 2 [(0, .ref (g a0)), (1, .int x1)] := hl
  unfold m_X3_isFree at h
  refine lv_aload_n hx hb dX3_isFree_0 rfl (lv_at hl 0 rfl) ?_
  refine lv_iload_n hx hb dX3_isFree_1 rfl (lv_at hl 1 rfl) ?_
  obtain ⟨r4, hc3, h⟩ := cb1_e h
  refine k_i (r_runV F hG (c_X3_at l D ca g ha0 hc3) (kd_lt ha0 (by decide)) (gd3 ha0) rfl (kw176 F.kd) (kw178 F.kd) (ks_X3_at F.kd) (kw3 F.kd) (kw179 F.kd) yd_X3_at ⟨Nat.le_of_ble_eq_true rfl, Nat.le_of_ble_eq_true rfl⟩ rfl hl.1 rfl (Nat.le_of_ble_eq_true rfl) dX3_isFree_2 ⟨Nat.le_of_ble_eq_true rfl, Nat.le_of_ble_eq_true rfl⟩) hG (fun H locs hG => ?_)
  refine lv_if_ne (tgt := 12) hx hb dX3_isFree_5 (by decide) (fun c5 => ?_) (fun c5 => ?_)
  · have h := ite_f h c5
    refine lv_iconst (v := 0) hx hb dX3_isFree_12 (by decide) ?_
    obtain rfl := som1 h
    exact end_z F hr hlk (by decide) hG dX3_isFree_13
  · have h := ite_t h c5
    refine lv_iconst (v := 1) hx hb dX3_isFree_8 (by decide) ?_
    refine lv_goto (tgt := 13) hx hb dX3_isFree_9 (by decide) ?_
    obtain rfl := som1 h
    exact end_z F hr hlk (by decide) hG dX3_isFree_13
set_option maxHeartbeats 4000000 in
set_option maxRecDepth 100000 in
theorem m_X3_cellsWith_L4_w {p : Program} {l : Launch} {e : Env} {s : State} {m : MethodId} {args : Array Value} {below : List Frame} {meth : Method} {c : Code} {Q : State → Prop} {D : va_G} {ca : vCA} {g : Nat → Nat} {fu : Nat} {M : Mem} {q0 : Nat} {y1 : Int32} {out : Int32} (F : FX p m c cX3_cellsWith 4 s D ca g RX3) (hq0 : kd q0 = 3)
    (K0 : ∀ (u2 : Int32) (H : Heap) (locs : List Loc) (ls : Array Slot), out = u2 → GW D ca g s M H locs → lv_has ls 4 [(2, .int u2)] → W p l e ({ frames := 0, cells := 0, slots := 0, locals := 0 }) s m args below meth c H locs 0 0 Q (F0 m 29 ls [])) :
    ∀ (n : Nat) (z2 : Int32) (z3 : Int32), m_X3_cellsWith_L4 fu M q0 y1 n z2 z3 = some out → ∀ (H : Heap) (locs : List Loc) (ls : Array Slot), GW D ca g s M H locs → lv_has ls 4 [(0, .ref (g q0)), (1, .int y1), (2, .int z2), (3, .int z3)] → W p l e ({ frames := 0, cells := 0, slots := 0, locals := 0 }) s m args below meth c H locs 0 0 Q (F0 m 4 ls []) := by
  have hx := F.1
  have hb := F.2.1
  intro n
  induction n with
  | zero =>
    intro z2 z3 h
    exact absurd h (by simp [m_X3_cellsWith_L4])
  | succ n ih =>
    intro z2 z3 h H locs ls hG hl
    rw [m_X3_cellsWith_L4] at h
    refine lv_iload_n hx hb dX3_cellsWith_4 rfl (lv_at hl 3 rfl) ?_
    refine lv_bipush (v := 108) hx hb dX3_cellsWith_5 (by decide) ?_
    refine lv_icmp_ge (tgt := 29) hx hb dX3_cellsWith_7 (by decide) (fun c3 => ?_) (fun c3 => ?_)
    · have h := ite_t h c3
      exact K0 _ _ _ _ (som1 h).symm hG (lv_sub hl [2] rfl)
    · have h := ite_f h c3
      refine lv_aload_n hx hb dX3_cellsWith_10 rfl (lv_at hl 0 rfl) ?_
      have hk4 := kt_qcells hq0
      refine xg3 F hG hq0 0 (by decide) (kw39 F.kd) (v := .ref (g (q0 + 1))) rfl dX3_cellsWith_11 ?_
      refine lv_iload_n hx hb dX3_cellsWith_14 rfl (lv_at hl 3 rfl) ?_
      obtain ⟨hi5, h⟩ := chk_e h
      refine r_ald F hG hk4 hi5 dX3_cellsWith_15 ?_
      refine lv_iload_n hx hb dX3_cellsWith_16 rfl (lv_at hl 1 rfl) ?_
      refine lv_icmp_ne (tgt := 23) hx hb dX3_cellsWith_17 (by decide) (fun c6 => ?_) (fun c6 => ?_)
      · have h := ite_f h c6
        obtain ⟨x7, ex7, h⟩ := mlet_e h
        refine lv_iinc (v := x7) (lv' := [(3, .int x7), (0, .ref (g q0)), (1, .int y1), (2, .int z2)]) hx hb dX3_cellsWith_23 hl (k := 3) rfl (by rw [ex7]; rfl) (by decide) rfl (fun ls hl => ?_)
        refine lv_goto (tgt := 4) hx hb dX3_cellsWith_26 (by decide) ?_
        exact ih z2 x7 h _ _ _ hG (lv_sub hl [1, 2, 3, 0] rfl)
      · have h := ite_t h c6
        obtain ⟨x8, ex8, h⟩ := mlet_e h
        refine lv_iinc (v := x8) (lv' := [(2, .int x8), (0, .ref (g q0)), (1, .int y1), (3, .int z3)]) hx hb dX3_cellsWith_20 hl (k := 2) rfl (by rw [ex8]; rfl) (by decide) rfl (fun ls hl => ?_)
        obtain ⟨x9, ex9, h⟩ := mlet_e h
        refine lv_iinc (v := x9) (lv' := [(3, .int x9), (2, .int x8), (0, .ref (g q0)), (1, .int y1)]) hx hb dX3_cellsWith_23 hl (k := 3) rfl (by rw [ex9]; rfl) (by decide) rfl (fun ls hl => ?_)
        refine lv_goto (tgt := 4) hx hb dX3_cellsWith_26 (by decide) ?_
        exact ih x8 x9 h _ _ _ hG (lv_sub hl [2, 3, 1, 0] rfl)
set_option maxHeartbeats 4000000 in
set_option maxRecDepth 100000 in
theorem c_X3_cellsWith (l : Launch) (D : va_G) (ca : vCA) (g : Nat → Nat) {fu : Nat} {M : Mem} {a0 : Nat} {x1 : Int32} {r : Int32} (ha0 : kd a0 = 3) (h : m_X3_cellsWith fu M a0 x1 = some r) : cM l yX3_cellsWith cX3_cellsWith 4 (some .int) { frames := 0, cells := 0, slots := 0, locals := 0 } D ca g M [.ref (g a0), .int x1] (fun sz => cQi D ca g sz M r) := by
  refine mk_Met (by decide) (Nat.le_of_ble_eq_true rfl) ?_
  intro p e s m below meth c F hr hlk hnm hG ls hl
  have hx := F.1
  have hb := F.2.1
  replace hl : lv_has ls 4 [(0, .ref (g a0)), (1, .int x1)] := hl
  unfold m_X3_cellsWith at h
  refine lv_iconst (v := 0) hx hb dX3_cellsWith_0 (by decide) ?_
  refine lv_istore_n (lv' := [(2, .int 0), (0, .ref (g a0)), (1, .int x1)]) hx hb dX3_cellsWith_1 rfl hl (by decide) rfl (fun ls hl => ?_)
  refine lv_iconst (v := 0) hx hb dX3_cellsWith_2 (by decide) ?_
  refine lv_istore_n (lv' := [(3, .int 0), (2, .int 0), (0, .ref (g a0)), (1, .int x1)]) hx hb dX3_cellsWith_3 rfl hl (by decide) rfl (fun ls hl => ?_)
  obtain ⟨o10, ho11, h⟩ := cb1_e h
  refine m_X3_cellsWith_L4_w (out := o10) F ha0 ?_ _ _ _ ho11 _ _ _ hG (lv_sub hl [2, 3, 1, 0] rfl)
  · intro x12 H locs ls eo hG hl
    subst o10
    refine lv_iload_n hx hb dX3_cellsWith_29 rfl (lv_at hl 0 rfl) ?_
    obtain rfl := som1 h
    exact end_i F hr hlk hG dX3_cellsWith_30
set_option maxHeartbeats 4000000 in
set_option maxRecDepth 100000 in
theorem m_X3_barricades_L4_w {p : Program} {l : Launch} {e : Env} {s : State} {m : MethodId} {args : Array Value} {below : List Frame} {meth : Method} {c : Code} {Q : State → Prop} {D : va_G} {ca : vCA} {g : Nat → Nat} {fu : Nat} {M : Mem} {q0 : Nat} {out : Int32} (F : FX p m c cX3_barricades 3 s D ca g RX3) (hq0 : kd q0 = 3)
    (K0 : ∀ (u1 : Int32) (H : Heap) (locs : List Loc) (ls : Array Slot), out = u1 → GW D ca g s M H locs → lv_has ls 3 [(1, .int u1)] → W p l e ({ frames := 0, cells := 0, slots := 0, locals := 0 }) s m args below meth c H locs 0 0 Q (F0 m 34 ls [])) :
    ∀ (n : Nat) (z1 : Int32) (z2 : Int32), m_X3_barricades_L4 fu M q0 n z1 z2 = some out → ∀ (H : Heap) (locs : List Loc) (ls : Array Slot), GW D ca g s M H locs → lv_has ls 3 [(0, .ref (g q0)), (1, .int z1), (2, .int z2)] → W p l e ({ frames := 0, cells := 0, slots := 0, locals := 0 }) s m args below meth c H locs 0 0 Q (F0 m 4 ls []) := by
  have hx := F.1
  have hb := F.2.1
  intro n
  induction n with
  | zero =>
    intro z1 z2 h
    exact absurd h (by simp [m_X3_barricades_L4])
  | succ n ih =>
    intro z1 z2 h H locs ls hG hl
    rw [m_X3_barricades_L4] at h
    refine lv_iload_n hx hb dX3_barricades_4 rfl (lv_at hl 2 rfl) ?_
    refine lv_bipush (v := 108) hx hb dX3_barricades_5 (by decide) ?_
    refine lv_icmp_ge (tgt := 34) hx hb dX3_barricades_7 (by decide) (fun c2 => ?_) (fun c2 => ?_)
    · have h := ite_t h c2
      exact K0 _ _ _ _ (som1 h).symm hG (lv_sub hl [1] rfl)
    · have h := ite_f h c2
      refine lv_aload_n hx hb dX3_barricades_10 rfl (lv_at hl 0 rfl) ?_
      have hk3 := kt_qcells hq0
      refine xg3 F hG hq0 0 (by decide) (kw39 F.kd) (v := .ref (g (q0 + 1))) rfl dX3_barricades_11 ?_
      refine lv_iload_n hx hb dX3_barricades_14 rfl (lv_at hl 2 rfl) ?_
      obtain ⟨hi4, h⟩ := chk_e h
      refine r_ald F hG hk3 hi4 dX3_barricades_15 ?_
      refine lv_if_le (tgt := 28) hx hb dX3_barricades_16 (by decide) (fun c5 => ?_) (fun c5 => ?_)
      · have h := ite_t h c5
        obtain ⟨x6, ex6, h⟩ := mlet_e h
        refine lv_iinc (v := x6) (lv' := [(2, .int x6), (0, .ref (g q0)), (1, .int z1)]) hx hb dX3_barricades_28 hl (k := 2) rfl (by rw [ex6]; rfl) (by decide) rfl (fun ls hl => ?_)
        refine lv_goto (tgt := 4) hx hb dX3_barricades_31 (by decide) ?_
        exact ih z1 x6 h _ _ _ hG (lv_sub hl [1, 2, 0] rfl)
      · have h := ite_f h c5
        refine lv_iload_n hx hb dX3_barricades_19 rfl (lv_at hl 1 rfl) ?_
        refine lv_aload_n hx hb dX3_barricades_20 rfl (lv_at hl 0 rfl) ?_
        have hk7 := kt_qcells hq0
        refine xg3 F hG hq0 0 (by decide) (kw39 F.kd) (v := .ref (g (q0 + 1))) rfl dX3_barricades_21 ?_
        refine lv_iload_n hx hb dX3_barricades_24 rfl (lv_at hl 2 rfl) ?_
        obtain ⟨hi8, h⟩ := chk_e h
        refine r_ald F hG hk7 hi8 dX3_barricades_25 ?_
        refine lv_iadd hx hb dX3_barricades_26 ?_
        refine lv_topi (fun x9 ex9 => ?_)
        have h := mlet_n h ex9
        refine lv_istore_n (lv' := [(1, .int x9), (0, .ref (g q0)), (2, .int z2)]) hx hb dX3_barricades_27 rfl hl (by decide) rfl (fun ls hl => ?_)
        obtain ⟨x10, ex10, h⟩ := mlet_e h
        refine lv_iinc (v := x10) (lv' := [(2, .int x10), (1, .int x9), (0, .ref (g q0))]) hx hb dX3_barricades_28 hl (k := 2) rfl (by rw [ex10]; rfl) (by decide) rfl (fun ls hl => ?_)
        refine lv_goto (tgt := 4) hx hb dX3_barricades_31 (by decide) ?_
        exact ih x9 x10 h _ _ _ hG (lv_sub hl [2, 1, 0] rfl)
set_option maxHeartbeats 4000000 in
set_option maxRecDepth 100000 in
theorem c_X3_barricades (l : Launch) (D : va_G) (ca : vCA) (g : Nat → Nat) {fu : Nat} {M : Mem} {a0 : Nat} {r : Int32} (ha0 : kd a0 = 3) (h : m_X3_barricades fu M a0 = some r) : cM l yX3_barricades cX3_barricades 3 (some .int) { frames := 0, cells := 0, slots := 0, locals := 0 } D ca g M [.ref (g a0)] (fun sz => cQi D ca g sz M r) := by
  refine mk_Met (by decide) (Nat.le_of_ble_eq_true rfl) ?_
  intro p e s m below meth c F hr hlk hnm hG ls hl
  have hx := F.1
  have hb := F.2.1
  replace hl : lv_has ls 3 [(0, .ref (g a0))] := hl
  unfold m_X3_barricades at h
  refine lv_iconst (v := 0) hx hb dX3_barricades_0 (by decide) ?_
  refine lv_istore_n (lv' := [(1, .int 0), (0, .ref (g a0))]) hx hb dX3_barricades_1 rfl hl (by decide) rfl (fun ls hl => ?_)
  refine lv_iconst (v := 0) hx hb dX3_barricades_2 (by decide) ?_
  refine lv_istore_n (lv' := [(2, .int 0), (1, .int 0), (0, .ref (g a0))]) hx hb dX3_barricades_3 rfl hl (by decide) rfl (fun ls hl => ?_)
  obtain ⟨o11, ho12, h⟩ := cb1_e h
  refine m_X3_barricades_L4_w (out := o11) F ha0 ?_ _ _ _ ho12 _ _ _ hG (lv_sub hl [2, 1, 0] rfl)
  · intro x13 H locs ls eo hG hl
    subst o11
    refine lv_iload_n hx hb dX3_barricades_34 rfl (lv_at hl 0 rfl) ?_
    obtain rfl := som1 h
    exact end_i F hr hlk hG dX3_barricades_35
set_option maxHeartbeats 4000000 in
set_option maxRecDepth 100000 in
theorem m_X3_addCellsTo_L5_w {p : Program} {l : Launch} {e : Env} {s : State} {m : MethodId} {args : Array Value} {below : List Frame} {meth : Method} {c : Code} {Q : State → Prop} {D : va_G} {ca : vCA} {g : Nat → Nat} {fu : Nat} {M : Mem} {q0 : Nat} {out : Int64} (F : FX p m c cX3_addCellsTo 6 s D ca g RX3) (hq0 : kd q0 = 3)
    (K0 : ∀ (u3 : Int64) (H : Heap) (locs : List Loc) (ls : Array Slot), out = u3 → GW D ca g s M H locs → lv_has ls 6 [(3, .long u3)] → W p l e ({ frames := 0, cells := 0, slots := 0, locals := 0 }) s m args below meth c H locs 0 0 Q (F0 m 33 ls [])) :
    ∀ (n : Nat) (z3 : Int64) (z5 : Int32), m_X3_addCellsTo_L5 fu M q0 n z3 z5 = some out → ∀ (H : Heap) (locs : List Loc) (ls : Array Slot), GW D ca g s M H locs → lv_has ls 6 [(0, .ref (g q0)), (3, .long z3), (5, .int z5)] → W p l e ({ frames := 0, cells := 0, slots := 0, locals := 0 }) s m args below meth c H locs 0 0 Q (F0 m 5 ls []) := by
  have hx := F.1
  have hb := F.2.1
  intro n
  induction n with
  | zero =>
    intro z3 z5 h
    exact absurd h (by simp [m_X3_addCellsTo_L5])
  | succ n ih =>
    intro z3 z5 h H locs ls hG hl
    rw [m_X3_addCellsTo_L5] at h
    refine lv_iload hx hb dX3_addCellsTo_5 (lv_at hl 2 rfl) ?_
    refine lv_bipush (v := 108) hx hb dX3_addCellsTo_7 (by decide) ?_
    refine lv_icmp_ge (tgt := 33) hx hb dX3_addCellsTo_9 (by decide) (fun c3 => ?_) (fun c3 => ?_)
    · have h := ite_t h c3
      exact K0 _ _ _ _ (som1 h).symm hG (lv_sub hl [1] rfl)
    · have h := ite_f h c3
      refine lv_lload_n hx hb dX3_addCellsTo_12 rfl (lv_at hl 1 rfl) ?_
      refine lv_ldc2 (v := 31) hx hb F.2.2.2.1 (kw242 F.kd) dX3_addCellsTo_13 ?_
      refine lv_lmul hx hb dX3_addCellsTo_16 ?_
      refine lv_aload_n hx hb dX3_addCellsTo_17 rfl (lv_at hl 0 rfl) ?_
      have hk4 := kt_qcells hq0
      refine xg3 F hG hq0 0 (by decide) (kw39 F.kd) (v := .ref (g (q0 + 1))) rfl dX3_addCellsTo_18 ?_
      refine lv_iload hx hb dX3_addCellsTo_21 (lv_at hl 2 rfl) ?_
      obtain ⟨hi5, h⟩ := chk_e h
      refine r_ald F hG hk4 hi5 dX3_addCellsTo_23 ?_
      refine lv_i2l (v := ((M (q0 + 1) z5.toNatClampNeg) : Int32).toInt64) hx hb dX3_addCellsTo_24 rfl ?_
      refine lv_ladd hx hb dX3_addCellsTo_25 ?_
      refine lv_topl (fun x6 ex6 => ?_)
      have h := mlet_n h ex6
      refine lv_lstore_n (lv' := [(3, .long x6), (0, .ref (g q0)), (5, .int z5)]) hx hb dX3_addCellsTo_26 rfl hl (by decide) rfl (fun ls hl => ?_)
      obtain ⟨x7, ex7, h⟩ := mlet_e h
      refine lv_iinc (v := x7) (lv' := [(5, .int x7), (3, .long x6), (0, .ref (g q0))]) hx hb dX3_addCellsTo_27 hl (k := 2) rfl (by rw [ex7]; rfl) (by decide) rfl (fun ls hl => ?_)
      refine lv_goto (tgt := 5) hx hb dX3_addCellsTo_30 (by decide) ?_
      exact ih x6 x7 h _ _ _ hG (lv_sub hl [2, 1, 0] rfl)
set_option maxHeartbeats 4000000 in
set_option maxRecDepth 100000 in
theorem c_X3_addCellsTo (l : Launch) (D : va_G) (ca : vCA) (g : Nat → Nat) {fu : Nat} {M : Mem} {a0 : Nat} {x1 : Int64} {r : Int64} (ha0 : kd a0 = 3) (h : m_X3_addCellsTo fu M a0 x1 = some r) : cM l yX3_addCellsTo cX3_addCellsTo 6 (some .long) { frames := 0, cells := 0, slots := 0, locals := 0 } D ca g M [.ref (g a0), .long x1] (fun sz => cQl D ca g sz M r) := by
  refine mk_Met (by decide) (Nat.le_of_ble_eq_true rfl) ?_
  intro p e s m below meth c F hr hlk hnm hG ls hl
  have hx := F.1
  have hb := F.2.1
  replace hl : lv_has ls 6 [(0, .ref (g a0)), (1, .long x1)] := hl
  unfold m_X3_addCellsTo at h
  refine lv_lload_n hx hb dX3_addCellsTo_0 rfl (lv_at hl 1 rfl) ?_
  refine lv_lstore_n (lv' := [(3, .long x1), (0, .ref (g a0)), (1, .long x1)]) hx hb dX3_addCellsTo_1 rfl hl (by decide) rfl (fun ls hl => ?_)
  refine lv_iconst (v := 0) hx hb dX3_addCellsTo_2 (by decide) ?_
  refine lv_istore (lv' := [(5, .int 0), (3, .long x1), (0, .ref (g a0)), (1, .long x1)]) hx hb dX3_addCellsTo_3 hl (by decide) rfl (fun ls hl => ?_)
  obtain ⟨o8, ho9, h⟩ := cb1_e h
  refine m_X3_addCellsTo_L5_w (out := o8) F ha0 ?_ _ _ _ ho9 _ _ _ hG (lv_sub hl [2, 1, 0] rfl)
  · intro x10 H locs ls eo hG hl
    subst o8
    refine lv_lload_n hx hb dX3_addCellsTo_33 rfl (lv_at hl 0 rfl) ?_
    obtain rfl := som1 h
    exact end_l F hr hlk hG dX3_addCellsTo_34
set_option maxHeartbeats 4000000 in
set_option maxRecDepth 100000 in
theorem c_X3_become (l : Launch) (D : va_G) (ca : vCA) (g : Nat → Nat) {fu : Nat} {M : Mem} {a0 : Nat} {a1 : Nat} {M' : Mem} (ha0 : kd a0 = 3) (ha1 : kd a1 = 3) (h : m_X3_become fu M a0 a1 = some M') : cM l yX3_become cX3_become 2 none { frames := 1, cells := 0, slots := 0, locals := 40 } D ca g M [.ref (g a0), .ref (g a1)] (fun sz => cQv D ca g sz M') := by
  refine mk_Met (by decide) (Nat.le_of_ble_eq_true rfl) ?_
  intro p e s m below meth c F hr hlk hnm hG ls hl
  have hx := F.1
  have hb := F.2.1
  replace hl : lv_has ls 2 [(0, .ref (g a0)), (1, .ref (g a1))] := hl
  unfold m_X3_become at h
  refine lv_aload_n hx hb dX3_become_0 rfl (lv_at hl 1 rfl) ?_
  have hk3 := kt_qcells ha1
  refine xg3 F hG ha1 0 (by decide) (kw39 F.kd) (v := .ref (g (a1 + 1))) rfl dX3_become_1 ?_
  refine lv_iconst (v := 0) hx hb dX3_become_4 (by decide) ?_
  refine lv_aload_n hx hb dX3_become_5 rfl (lv_at hl 0 rfl) ?_
  have hk4 := kt_qcells ha0
  refine xg3 F hG ha0 0 (by decide) (kw39 F.kd) (v := .ref (g (a0 + 1))) rfl dX3_become_6 ?_
  refine lv_iconst (v := 0) hx hb dX3_become_9 (by decide) ?_
  refine lv_bipush (v := 108) hx hb dX3_become_10 (by decide) ?_
  obtain ⟨hc5, h⟩ := chk_e h
  obtain ⟨M6, eM6, h⟩ := mlet_e h
  refine r_copy F hG hk3 hk4 hc5 eM6 hl.1 (kw607 F.kd) (kw560 F.kd) (kw559 F.kd) (kw18 F.kd) (Nat.le_of_ble_eq_true rfl) (Nat.le_of_ble_eq_true rfl) dX3_become_12 (fun H locs hG => ?_)
  obtain rfl := som1 h
  exact end_v F hr hlk hG dX3_become_15
end
