section
-- ===== PART A: goes FIRST, ahead of the names: the tables' words, and 'selects' of the private methods out of them =====
/-- a private method of a class that the tables say can be made, by its rows of tables_1 -/
def lw_okq (q : MethodName × Nat) : Prop := (q.1.cls ≠ "java/lang/invoke/MethodHandle" ∧ q.1.cls ≠ "java/lang/invoke/VarHandle") ∧ Cond.instantiable q.1.cls q.2 ∈ tables_1 ∧ Cond.privateMethod q.1 ∈ tables_1 ∧ Cond.instanceMethod q.1 ∈ tables_1
theorem lw_p0 : lw_okq (⟨"Flowforge", "fillQueueBySum", "()V"⟩, 13) := ⟨⟨by decide +kernel, by decide +kernel⟩, List.mem_of_getElem? (i := 12) (by decide +kernel), List.mem_of_getElem? (i := 74) (by decide +kernel), List.mem_of_getElem? (i := 75) (by decide +kernel)⟩
theorem lw_p1 : lw_okq (⟨"Flowforge", "sumOf", "(III)I"⟩, 13) := ⟨⟨by decide +kernel, by decide +kernel⟩, List.mem_of_getElem? (i := 12) (by decide +kernel), List.mem_of_getElem? (i := 78) (by decide +kernel), List.mem_of_getElem? (i := 79) (by decide +kernel)⟩
theorem lw_p2 : lw_okq (⟨"Flowforge", "timeOf", "(II)I"⟩, 13) := ⟨⟨by decide +kernel, by decide +kernel⟩, List.mem_of_getElem? (i := 12) (by decide +kernel), List.mem_of_getElem? (i := 82) (by decide +kernel), List.mem_of_getElem? (i := 83) (by decide +kernel)⟩
theorem lw_p3 : lw_okq (⟨"Flowforge", "placeForLast", "(I)I"⟩, 13) := ⟨⟨by decide +kernel, by decide +kernel⟩, List.mem_of_getElem? (i := 12) (by decide +kernel), List.mem_of_getElem? (i := 89) (by decide +kernel), List.mem_of_getElem? (i := 90) (by decide +kernel)⟩
theorem lw_p4 : lw_okq (⟨"Flowforge", "makespanIfShifted", "(III)I"⟩, 13) := ⟨⟨by decide +kernel, by decide +kernel⟩, List.mem_of_getElem? (i := 12) (by decide +kernel), List.mem_of_getElem? (i := 93) (by decide +kernel), List.mem_of_getElem? (i := 94) (by decide +kernel)⟩
theorem lw_p5 : lw_okq (⟨"Flowforge", "scheduleJob", "(III)V"⟩, 13) := ⟨⟨by decide +kernel, by decide +kernel⟩, List.mem_of_getElem? (i := 12) (by decide +kernel), List.mem_of_getElem? (i := 103) (by decide +kernel), List.mem_of_getElem? (i := 104) (by decide +kernel)⟩
theorem lw_p6 : lw_okq (⟨"Flowforge", "beginWithoutWaiting", "(II)I"⟩, 13) := ⟨⟨by decide +kernel, by decide +kernel⟩, List.mem_of_getElem? (i := 12) (by decide +kernel), List.mem_of_getElem? (i := 107) (by decide +kernel), List.mem_of_getElem? (i := 108) (by decide +kernel)⟩
theorem lw_p7 : lw_okq (⟨"Flowforge", "freeFrom", "(III)I"⟩, 13) := ⟨⟨by decide +kernel, by decide +kernel⟩, List.mem_of_getElem? (i := 12) (by decide +kernel), List.mem_of_getElem? (i := 111) (by decide +kernel), List.mem_of_getElem? (i := 112) (by decide +kernel)⟩
theorem lw_p8 : lw_okq (⟨"Flowforge", "lastEnd", "(I)I"⟩, 13) := ⟨⟨by decide +kernel, by decide +kernel⟩, List.mem_of_getElem? (i := 12) (by decide +kernel), List.mem_of_getElem? (i := 118) (by decide +kernel), List.mem_of_getElem? (i := 119) (by decide +kernel)⟩
theorem lw_p9 : lw_okq (⟨"Flowforge", "scheduleOrder", "(I)I"⟩, 13) := ⟨⟨by decide +kernel, by decide +kernel⟩, List.mem_of_getElem? (i := 12) (by decide +kernel), List.mem_of_getElem? (i := 122) (by decide +kernel), List.mem_of_getElem? (i := 123) (by decide +kernel)⟩
theorem lw_p10 : lw_okq (⟨"Flowforge", "findBestOrder", "(I)V"⟩, 13) := ⟨⟨by decide +kernel, by decide +kernel⟩, List.mem_of_getElem? (i := 12) (by decide +kernel), List.mem_of_getElem? (i := 138) (by decide +kernel), List.mem_of_getElem? (i := 139) (by decide +kernel)⟩
theorem lw_p11 : lw_okq (⟨"Flowforge", "countTrial", "(II)V"⟩, 13) := ⟨⟨by decide +kernel, by decide +kernel⟩, List.mem_of_getElem? (i := 12) (by decide +kernel), List.mem_of_getElem? (i := 142) (by decide +kernel), List.mem_of_getElem? (i := 143) (by decide +kernel)⟩
theorem lw_p12 : lw_okq (⟨"Flowforge", "stepTrial", "()I"⟩, 13) := ⟨⟨by decide +kernel, by decide +kernel⟩, List.mem_of_getElem? (i := 12) (by decide +kernel), List.mem_of_getElem? (i := 146) (by decide +kernel), List.mem_of_getElem? (i := 147) (by decide +kernel)⟩
theorem lw_p13 : lw_okq (⟨"Flowforge", "swapInTrial", "(II)V"⟩, 13) := ⟨⟨by decide +kernel, by decide +kernel⟩, List.mem_of_getElem? (i := 12) (by decide +kernel), List.mem_of_getElem? (i := 150) (by decide +kernel), List.mem_of_getElem? (i := 151) (by decide +kernel)⟩
theorem lw_p14 : lw_okq (⟨"java/lang/Throwable", "fillInStackTrace", "(I)Ljava/lang/Throwable;"⟩, 6) := ⟨⟨by decide +kernel, by decide +kernel⟩, List.mem_of_getElem? (i := 200) (by decide +kernel), List.mem_of_getElem? (i := 198) (by decide +kernel), List.mem_of_getElem? (i := 199) (by decide +kernel)⟩
theorem lw_p15 : lw_okq (⟨"Flowforge", "forgetBestOrders", "()V"⟩, 13) := ⟨⟨by decide +kernel, by decide +kernel⟩, List.mem_of_getElem? (i := 12) (by decide +kernel), List.mem_of_getElem? (i := 230) (by decide +kernel), List.mem_of_getElem? (i := 231) (by decide +kernel)⟩
def lw_privs_1 : List (MethodName × Nat) := [(⟨"Flowforge", "fillQueueBySum", "()V"⟩, 13), (⟨"Flowforge", "sumOf", "(III)I"⟩, 13), (⟨"Flowforge", "timeOf", "(II)I"⟩, 13), (⟨"Flowforge", "placeForLast", "(I)I"⟩, 13), (⟨"Flowforge", "makespanIfShifted", "(III)I"⟩, 13), (⟨"Flowforge", "scheduleJob", "(III)V"⟩, 13), (⟨"Flowforge", "beginWithoutWaiting", "(II)I"⟩, 13), (⟨"Flowforge", "freeFrom", "(III)I"⟩, 13), (⟨"Flowforge", "lastEnd", "(I)I"⟩, 13), (⟨"Flowforge", "scheduleOrder", "(I)I"⟩, 13), (⟨"Flowforge", "findBestOrder", "(I)V"⟩, 13), (⟨"Flowforge", "countTrial", "(II)V"⟩, 13), (⟨"Flowforge", "stepTrial", "()I"⟩, 13), (⟨"Flowforge", "swapInTrial", "(II)V"⟩, 13), (⟨"java/lang/Throwable", "fillInStackTrace", "(I)Ljava/lang/Throwable;"⟩, 6), (⟨"Flowforge", "forgetBestOrders", "()V"⟩, 13)]
theorem lw_r1 : ∀ q ∈ lw_privs_1, lw_okq q := List.forall_mem_cons.mpr ⟨lw_p0, List.forall_mem_cons.mpr ⟨lw_p1, List.forall_mem_cons.mpr ⟨lw_p2, List.forall_mem_cons.mpr ⟨lw_p3, List.forall_mem_cons.mpr ⟨lw_p4, List.forall_mem_cons.mpr ⟨lw_p5, List.forall_mem_cons.mpr ⟨lw_p6, List.forall_mem_cons.mpr ⟨lw_p7, List.forall_mem_cons.mpr ⟨lw_p8, List.forall_mem_cons.mpr ⟨lw_p9, List.forall_mem_cons.mpr ⟨lw_p10, List.forall_mem_cons.mpr ⟨lw_p11, List.forall_mem_cons.mpr ⟨lw_p12, List.forall_mem_cons.mpr ⟨lw_p13, List.forall_mem_cons.mpr ⟨lw_p14, List.forall_mem_cons.mpr ⟨lw_p15, fun _ h => absurd h List.not_mem_nil⟩⟩⟩⟩⟩⟩⟩⟩⟩⟩⟩⟩⟩⟩⟩⟩
theorem lw_p16 : lw_okq (⟨"Flowforge", "requireJob", "(I)V"⟩, 13) := ⟨⟨by decide +kernel, by decide +kernel⟩, List.mem_of_getElem? (i := 12) (by decide +kernel), List.mem_of_getElem? (i := 266) (by decide +kernel), List.mem_of_getElem? (i := 267) (by decide +kernel)⟩
theorem lw_p17 : lw_okq (⟨"Flowforge", "requireMachine", "(I)V"⟩, 13) := ⟨⟨by decide +kernel, by decide +kernel⟩, List.mem_of_getElem? (i := 12) (by decide +kernel), List.mem_of_getElem? (i := 286) (by decide +kernel), List.mem_of_getElem? (i := 287) (by decide +kernel)⟩
theorem lw_p18 : lw_okq (⟨"Flowforge", "requirePlace", "(I)V"⟩, 13) := ⟨⟨by decide +kernel, by decide +kernel⟩, List.mem_of_getElem? (i := 12) (by decide +kernel), List.mem_of_getElem? (i := 306) (by decide +kernel), List.mem_of_getElem? (i := 307) (by decide +kernel)⟩
theorem lw_p19 : lw_okq (⟨"Flowforge", "placeOf", "(I)I"⟩, 13) := ⟨⟨by decide +kernel, by decide +kernel⟩, List.mem_of_getElem? (i := 12) (by decide +kernel), List.mem_of_getElem? (i := 318) (by decide +kernel), List.mem_of_getElem? (i := 319) (by decide +kernel)⟩
theorem lw_p20 : lw_okq (⟨"Flowforge", "fillByRule", "([III)V"⟩, 13) := ⟨⟨by decide +kernel, by decide +kernel⟩, List.mem_of_getElem? (i := 12) (by decide +kernel), List.mem_of_getElem? (i := 337) (by decide +kernel), List.mem_of_getElem? (i := 338) (by decide +kernel)⟩
theorem lw_p21 : lw_okq (⟨"Flowforge", "goesBefore", "(IIII)Z"⟩, 13) := ⟨⟨by decide +kernel, by decide +kernel⟩, List.mem_of_getElem? (i := 12) (by decide +kernel), List.mem_of_getElem? (i := 341) (by decide +kernel), List.mem_of_getElem? (i := 342) (by decide +kernel)⟩
theorem lw_p22 : lw_okq (⟨"Flowforge", "fillTails", "()V"⟩, 13) := ⟨⟨by decide +kernel, by decide +kernel⟩, List.mem_of_getElem? (i := 12) (by decide +kernel), List.mem_of_getElem? (i := 377) (by decide +kernel), List.mem_of_getElem? (i := 378) (by decide +kernel)⟩
theorem lw_p23 : lw_okq (⟨"Flowforge", "loadOf", "(I)I"⟩, 13) := ⟨⟨by decide +kernel, by decide +kernel⟩, List.mem_of_getElem? (i := 12) (by decide +kernel), List.mem_of_getElem? (i := 395) (by decide +kernel), List.mem_of_getElem? (i := 396) (by decide +kernel)⟩
theorem lw_p24 : lw_okq (⟨"Flowforge", "leastSum", "(II)I"⟩, 13) := ⟨⟨by decide +kernel, by decide +kernel⟩, List.mem_of_getElem? (i := 12) (by decide +kernel), List.mem_of_getElem? (i := 406) (by decide +kernel), List.mem_of_getElem? (i := 407) (by decide +kernel)⟩
theorem lw_p25 : lw_okq (⟨"Flowforge", "leastOfPair", "(II)I"⟩, 13) := ⟨⟨by decide +kernel, by decide +kernel⟩, List.mem_of_getElem? (i := 12) (by decide +kernel), List.mem_of_getElem? (i := 421) (by decide +kernel), List.mem_of_getElem? (i := 422) (by decide +kernel)⟩
theorem lw_p26 : lw_okq (⟨"FlowforgeModel", "isOf", "(II)Z"⟩, 10) := ⟨⟨by decide +kernel, by decide +kernel⟩, List.mem_of_getElem? (i := 446) (by decide +kernel), List.mem_of_getElem? (i := 502) (by decide +kernel), List.mem_of_getElem? (i := 503) (by decide +kernel)⟩
theorem lw_p27 : lw_okq (⟨"FlowforgeModel", "timeOf", "(II)I"⟩, 10) := ⟨⟨by decide +kernel, by decide +kernel⟩, List.mem_of_getElem? (i := 446) (by decide +kernel), List.mem_of_getElem? (i := 506) (by decide +kernel), List.mem_of_getElem? (i := 507) (by decide +kernel)⟩
theorem lw_p28 : lw_okq (⟨"FlowforgeModel", "fails", "(I)I"⟩, 10) := ⟨⟨by decide +kernel, by decide +kernel⟩, List.mem_of_getElem? (i := 446) (by decide +kernel), List.mem_of_getElem? (i := 514) (by decide +kernel), List.mem_of_getElem? (i := 515) (by decide +kernel)⟩
theorem lw_p29 : lw_okq (⟨"FlowforgeModel", "canMove", "(II)Z"⟩, 10) := ⟨⟨by decide +kernel, by decide +kernel⟩, List.mem_of_getElem? (i := 446) (by decide +kernel), List.mem_of_getElem? (i := 534) (by decide +kernel), List.mem_of_getElem? (i := 535) (by decide +kernel)⟩
theorem lw_p30 : lw_okq (⟨"FlowforgeModel", "placeOf", "(I)I"⟩, 10) := ⟨⟨by decide +kernel, by decide +kernel⟩, List.mem_of_getElem? (i := 446) (by decide +kernel), List.mem_of_getElem? (i := 538) (by decide +kernel), List.mem_of_getElem? (i := 539) (by decide +kernel)⟩
theorem lw_p31 : lw_okq (⟨"FlowforgeModel", "triesMove", "(II)V"⟩, 10) := ⟨⟨by decide +kernel, by decide +kernel⟩, List.mem_of_getElem? (i := 446) (by decide +kernel), List.mem_of_getElem? (i := 542) (by decide +kernel), List.mem_of_getElem? (i := 543) (by decide +kernel)⟩
def lw_privs_2 : List (MethodName × Nat) := [(⟨"Flowforge", "requireJob", "(I)V"⟩, 13), (⟨"Flowforge", "requireMachine", "(I)V"⟩, 13), (⟨"Flowforge", "requirePlace", "(I)V"⟩, 13), (⟨"Flowforge", "placeOf", "(I)I"⟩, 13), (⟨"Flowforge", "fillByRule", "([III)V"⟩, 13), (⟨"Flowforge", "goesBefore", "(IIII)Z"⟩, 13), (⟨"Flowforge", "fillTails", "()V"⟩, 13), (⟨"Flowforge", "loadOf", "(I)I"⟩, 13), (⟨"Flowforge", "leastSum", "(II)I"⟩, 13), (⟨"Flowforge", "leastOfPair", "(II)I"⟩, 13), (⟨"FlowforgeModel", "isOf", "(II)Z"⟩, 10), (⟨"FlowforgeModel", "timeOf", "(II)I"⟩, 10), (⟨"FlowforgeModel", "fails", "(I)I"⟩, 10), (⟨"FlowforgeModel", "canMove", "(II)Z"⟩, 10), (⟨"FlowforgeModel", "placeOf", "(I)I"⟩, 10), (⟨"FlowforgeModel", "triesMove", "(II)V"⟩, 10)]
theorem lw_r2 : ∀ q ∈ lw_privs_2, lw_okq q := List.forall_mem_cons.mpr ⟨lw_p16, List.forall_mem_cons.mpr ⟨lw_p17, List.forall_mem_cons.mpr ⟨lw_p18, List.forall_mem_cons.mpr ⟨lw_p19, List.forall_mem_cons.mpr ⟨lw_p20, List.forall_mem_cons.mpr ⟨lw_p21, List.forall_mem_cons.mpr ⟨lw_p22, List.forall_mem_cons.mpr ⟨lw_p23, List.forall_mem_cons.mpr ⟨lw_p24, List.forall_mem_cons.mpr ⟨lw_p25, List.forall_mem_cons.mpr ⟨lw_p26, List.forall_mem_cons.mpr ⟨lw_p27, List.forall_mem_cons.mpr ⟨lw_p28, List.forall_mem_cons.mpr ⟨lw_p29, List.forall_mem_cons.mpr ⟨lw_p30, List.forall_mem_cons.mpr ⟨lw_p31, fun _ h => absurd h List.not_mem_nil⟩⟩⟩⟩⟩⟩⟩⟩⟩⟩⟩⟩⟩⟩⟩⟩
theorem lw_p32 : lw_okq (⟨"FlowforgeModel", "takesTrial", "()V"⟩, 10) := ⟨⟨by decide +kernel, by decide +kernel⟩, List.mem_of_getElem? (i := 446) (by decide +kernel), List.mem_of_getElem? (i := 546) (by decide +kernel), List.mem_of_getElem? (i := 547) (by decide +kernel)⟩
theorem lw_p33 : lw_okq (⟨"FlowforgeModel", "lays", "(I[II)I"⟩, 10) := ⟨⟨by decide +kernel, by decide +kernel⟩, List.mem_of_getElem? (i := 446) (by decide +kernel), List.mem_of_getElem? (i := 554) (by decide +kernel), List.mem_of_getElem? (i := 555) (by decide +kernel)⟩
theorem lw_p34 : lw_okq (⟨"FlowforgeModel", "freeAt", "(I[III)I"⟩, 10) := ⟨⟨by decide +kernel, by decide +kernel⟩, List.mem_of_getElem? (i := 446) (by decide +kernel), List.mem_of_getElem? (i := 558) (by decide +kernel), List.mem_of_getElem? (i := 559) (by decide +kernel)⟩
theorem lw_p35 : lw_okq (⟨"FlowforgeModel", "startOf", "(II)I"⟩, 10) := ⟨⟨by decide +kernel, by decide +kernel⟩, List.mem_of_getElem? (i := 446) (by decide +kernel), List.mem_of_getElem? (i := 562) (by decide +kernel), List.mem_of_getElem? (i := 563) (by decide +kernel)⟩
theorem lw_p36 : lw_okq (⟨"FlowforgeModel", "endOf", "([III)I"⟩, 10) := ⟨⟨by decide +kernel, by decide +kernel⟩, List.mem_of_getElem? (i := 446) (by decide +kernel), List.mem_of_getElem? (i := 566) (by decide +kernel), List.mem_of_getElem? (i := 567) (by decide +kernel)⟩
theorem lw_p37 : lw_okq (⟨"FlowforgeModel", "pullsTogether", "([II)V"⟩, 10) := ⟨⟨by decide +kernel, by decide +kernel⟩, List.mem_of_getElem? (i := 446) (by decide +kernel), List.mem_of_getElem? (i := 570) (by decide +kernel), List.mem_of_getElem? (i := 571) (by decide +kernel)⟩
theorem lw_p38 : lw_okq (⟨"FlowforgeModel", "isAhead", "(II)Z"⟩, 10) := ⟨⟨by decide +kernel, by decide +kernel⟩, List.mem_of_getElem? (i := 446) (by decide +kernel), List.mem_of_getElem? (i := 578) (by decide +kernel), List.mem_of_getElem? (i := 579) (by decide +kernel)⟩
theorem lw_p39 : lw_okq (⟨"FlowforgeModel", "plain", "()I"⟩, 10) := ⟨⟨by decide +kernel, by decide +kernel⟩, List.mem_of_getElem? (i := 446) (by decide +kernel), List.mem_of_getElem? (i := 582) (by decide +kernel), List.mem_of_getElem? (i := 583) (by decide +kernel)⟩
theorem lw_p40 : lw_okq (⟨"FlowforgeModel", "bySum", "(I)I"⟩, 10) := ⟨⟨by decide +kernel, by decide +kernel⟩, List.mem_of_getElem? (i := 446) (by decide +kernel), List.mem_of_getElem? (i := 590) (by decide +kernel), List.mem_of_getElem? (i := 591) (by decide +kernel)⟩
theorem lw_p41 : lw_okq (⟨"FlowforgeModel", "sumOf", "(III)I"⟩, 10) := ⟨⟨by decide +kernel, by decide +kernel⟩, List.mem_of_getElem? (i := 446) (by decide +kernel), List.mem_of_getElem? (i := 594) (by decide +kernel), List.mem_of_getElem? (i := 595) (by decide +kernel)⟩
theorem lw_p42 : lw_okq (⟨"FlowforgeModel", "puts", "(III)V"⟩, 10) := ⟨⟨by decide +kernel, by decide +kernel⟩, List.mem_of_getElem? (i := 446) (by decide +kernel), List.mem_of_getElem? (i := 599) (by decide +kernel), List.mem_of_getElem? (i := 600) (by decide +kernel)⟩
theorem lw_p43 : lw_okq (⟨"FlowforgeModel", "takesOut", "(II)V"⟩, 10) := ⟨⟨by decide +kernel, by decide +kernel⟩, List.mem_of_getElem? (i := 446) (by decide +kernel), List.mem_of_getElem? (i := 603) (by decide +kernel), List.mem_of_getElem? (i := 604) (by decide +kernel)⟩
theorem lw_p44 : lw_okq (⟨"FlowforgeModel", "laysTails", "()V"⟩, 10) := ⟨⟨by decide +kernel, by decide +kernel⟩, List.mem_of_getElem? (i := 446) (by decide +kernel), List.mem_of_getElem? (i := 634) (by decide +kernel), List.mem_of_getElem? (i := 635) (by decide +kernel)⟩
theorem lw_p45 : lw_okq (⟨"FlowforgeModel", "leastSum", "(II)I"⟩, 10) := ⟨⟨by decide +kernel, by decide +kernel⟩, List.mem_of_getElem? (i := 446) (by decide +kernel), List.mem_of_getElem? (i := 650) (by decide +kernel), List.mem_of_getElem? (i := 651) (by decide +kernel)⟩
theorem lw_p46 : lw_okq (⟨"FlowforgeModel", "startsTrial", "()V"⟩, 10) := ⟨⟨by decide +kernel, by decide +kernel⟩, List.mem_of_getElem? (i := 446) (by decide +kernel), List.mem_of_getElem? (i := 658) (by decide +kernel), List.mem_of_getElem? (i := 659) (by decide +kernel)⟩
theorem lw_p47 : lw_okq (⟨"FlowforgeModel", "onTwo", "(II)I"⟩, 10) := ⟨⟨by decide +kernel, by decide +kernel⟩, List.mem_of_getElem? (i := 446) (by decide +kernel), List.mem_of_getElem? (i := 662) (by decide +kernel), List.mem_of_getElem? (i := 663) (by decide +kernel)⟩
def lw_privs_3 : List (MethodName × Nat) := [(⟨"FlowforgeModel", "takesTrial", "()V"⟩, 10), (⟨"FlowforgeModel", "lays", "(I[II)I"⟩, 10), (⟨"FlowforgeModel", "freeAt", "(I[III)I"⟩, 10), (⟨"FlowforgeModel", "startOf", "(II)I"⟩, 10), (⟨"FlowforgeModel", "endOf", "([III)I"⟩, 10), (⟨"FlowforgeModel", "pullsTogether", "([II)V"⟩, 10), (⟨"FlowforgeModel", "isAhead", "(II)Z"⟩, 10), (⟨"FlowforgeModel", "plain", "()I"⟩, 10), (⟨"FlowforgeModel", "bySum", "(I)I"⟩, 10), (⟨"FlowforgeModel", "sumOf", "(III)I"⟩, 10), (⟨"FlowforgeModel", "puts", "(III)V"⟩, 10), (⟨"FlowforgeModel", "takesOut", "(II)V"⟩, 10), (⟨"FlowforgeModel", "laysTails", "()V"⟩, 10), (⟨"FlowforgeModel", "leastSum", "(II)I"⟩, 10), (⟨"FlowforgeModel", "startsTrial", "()V"⟩, 10), (⟨"FlowforgeModel", "onTwo", "(II)I"⟩, 10)]
theorem lw_r3 : ∀ q ∈ lw_privs_3, lw_okq q := List.forall_mem_cons.mpr ⟨lw_p32, List.forall_mem_cons.mpr ⟨lw_p33, List.forall_mem_cons.mpr ⟨lw_p34, List.forall_mem_cons.mpr ⟨lw_p35, List.forall_mem_cons.mpr ⟨lw_p36, List.forall_mem_cons.mpr ⟨lw_p37, List.forall_mem_cons.mpr ⟨lw_p38, List.forall_mem_cons.mpr ⟨lw_p39, List.forall_mem_cons.mpr ⟨lw_p40, List.forall_mem_cons.mpr ⟨lw_p41, List.forall_mem_cons.mpr ⟨lw_p42, List.forall_mem_cons.mpr ⟨lw_p43, List.forall_mem_cons.mpr ⟨lw_p44, List.forall_mem_cons.mpr ⟨lw_p45, List.forall_mem_cons.mpr ⟨lw_p46, List.forall_mem_cons.mpr ⟨lw_p47, fun _ h => absurd h List.not_mem_nil⟩⟩⟩⟩⟩⟩⟩⟩⟩⟩⟩⟩⟩⟩⟩⟩
theorem lw_p48 : lw_okq (⟨"FlowforgeModel", "goesOn", "()Z"⟩, 10) := ⟨⟨by decide +kernel, by decide +kernel⟩, List.mem_of_getElem? (i := 446) (by decide +kernel), List.mem_of_getElem? (i := 666) (by decide +kernel), List.mem_of_getElem? (i := 667) (by decide +kernel)⟩
theorem lw_p49 : lw_okq (⟨"FlowforgeModel", "swaps", "(II)V"⟩, 10) := ⟨⟨by decide +kernel, by decide +kernel⟩, List.mem_of_getElem? (i := 446) (by decide +kernel), List.mem_of_getElem? (i := 670) (by decide +kernel), List.mem_of_getElem? (i := 671) (by decide +kernel)⟩
theorem lw_p50 : lw_okq (⟨"FlowforgeModel", "searches", "(I)I"⟩, 10) := ⟨⟨by decide +kernel, by decide +kernel⟩, List.mem_of_getElem? (i := 446) (by decide +kernel), List.mem_of_getElem? (i := 678) (by decide +kernel), List.mem_of_getElem? (i := 679) (by decide +kernel)⟩
def lw_privs_4 : List (MethodName × Nat) := [(⟨"FlowforgeModel", "goesOn", "()Z"⟩, 10), (⟨"FlowforgeModel", "swaps", "(II)V"⟩, 10), (⟨"FlowforgeModel", "searches", "(I)I"⟩, 10)]
theorem lw_r4 : ∀ q ∈ lw_privs_4, lw_okq q := List.forall_mem_cons.mpr ⟨lw_p48, List.forall_mem_cons.mpr ⟨lw_p49, List.forall_mem_cons.mpr ⟨lw_p50, fun _ h => absurd h List.not_mem_nil⟩⟩⟩
def lw_privs : List (MethodName × Nat) := lw_privs_1 ++ (lw_privs_2 ++ (lw_privs_3 ++ (lw_privs_4)))
def lw_tbl : List Cond := k2_sels lw_privs ++ tables_1
theorem lw_privs_ok : ∀ q ∈ lw_privs, lw_okq q := by
  show ∀ q ∈ lw_privs_1 ++ (lw_privs_2 ++ (lw_privs_3 ++ (lw_privs_4))), lw_okq q
  exact List.forall_mem_append.mpr ⟨lw_r1, List.forall_mem_append.mpr ⟨lw_r2, List.forall_mem_append.mpr ⟨lw_r3, lw_r4⟩⟩⟩
/-- the streams that the claim lets the run draw from -/
abbrev lw_cs : List Choice := [Jvm.Choice.named "NaN.bits"]
theorem lw_bits : nanBits ∈ lw_cs := by first | decide | exact List.mem_cons_self | simp [lw_cs, nanBits]
end
section
/-! ===== BEGIN words of one list among another's, by their places ===== -/
theorem goodIn_r {big : List Cond} (ws : List Cond) (ps : List Nat) (hp : ws = ps.filterMap (fun i => big[i]?)) (h : ws.all goodWord = true) : GoodIn big ws := by
  intro w hw
  have h1 := List.all_eq_true.mp h w hw
  rw [hp] at hw
  obtain ⟨i, -, hi⟩ := List.mem_filterMap.mp hw
  have hm : w ∈ big := by first | exact List.mem_of_getElem? hi | exact List.getElem?_mem hi
  exact ⟨hm, good_of_word h1⟩
theorem goodIn_app {big a b : List Cond} (ha : GoodIn big a) (hb : GoodIn big b) : GoodIn big (a ++ b) := fun w h => (List.mem_append.mp h).elim (ha w) (hb w)
theorem goodIn_ca {big a b : List Cond} {c : Cond} (ha : GoodIn big (c :: a)) (hb : GoodIn big b) : GoodIn big (c :: (a ++ b)) := fun w h => (List.mem_cons.mp h).elim (fun e => ha w (List.mem_cons.mpr (Or.inl e))) (fun h => (List.mem_append.mp h).elim (fun h => ha w (List.mem_cons.mpr (Or.inr h))) (hb w))
theorem goodIn_sub {big ws : List Cond} (hm : ∀ w ∈ ws, w ∈ big) (h : ws.all goodWord = true) : GoodIn big ws := fun w hw => ⟨hm w hw, good_of_word (List.all_eq_true.mp h w hw)⟩
/-! ===== END ===== -/

/-! ===== BEGIN exceptions that leave a method, and their catching by the caller (launches without stack traces) ===== -/
section VXA
/-! The laws vx_back, vx_callV, vx_callS, vx_callSW, vx_throw0, vx_throwS follow proofs of the library, with one case more: JvmDerived/Free/Laws.lean (Back.of_free), Shelf42/LK1.lean (callV, callS), Shelf/KitTraced.lean (throwNew0V, throwNewS). -/
/-- where a method has thrown q: the class by its name, the cell, what was written, the world -/
def vx_T (XC : String → State → State → Prop) (st : State) (q : Addr) (t : State) (mc ms : Nat) (free : Addr → Prop) : Prop :=
  ∃ (E : String) (ce : Cell) (L : List Loc), XC E st t ∧ t.heap[q]? = some ce ∧ ce.vm = .none ∧ st.vm.findClass E = some ce.cls ∧ st.WarmedH t.vm ∧ st.sameButNew ({ t with vm := st.vm } : State) L mc ms ∧ ∀ z ∈ L, free z.base
def vx_Q (Qc : Array Value → State → Outcome → State → Prop) (XC : String → State → State → Prop) (mc ms : Nat) (free : Addr → Prop) : Array Value → State → Outcome → State → Prop := fun a st o t =>
  (Qc a st o t ∧ ∃ L, FrameEnd st o t L mc ms ∧ ∀ q ∈ L, free q.base) ∨ ∃ q, o = .threw q ∧ vx_T XC st q t mc ms free
/-- a callee that returns or throws -/
def vx_Met (l : Launch) (y : MethodName) (ws : List Cond) (rm : Room) (Pc : Array Value → State → Prop) (Qc : Array Value → State → Outcome → State → Prop) (XC : String → State → State → Prop) (mc ms : Nat) (free : Addr → Prop) : Prop :=
  MetFree l y (headSpec ws rm) Pc (fun _ _ _ _ _ => True) (vx_Q Qc XC mc ms free)
def vx_Post (XC : String → State → State → Prop) (mc ms : Nat) (free : Addr → Prop) : Pt → Array Value → Addr → Pt → Prop := fun A a q B =>
  ∃ (g : JFrame) (mk : MethodId) (t : State) (L : List Loc) (E : String) (ce : Cell), B.U.heap = t.heap ∧ B.U.vm = t.vm ∧ XC E (A.U.calling g mk a) t ∧ t.heap[q]? = some ce ∧ ce.vm = .none ∧ A.U.vm.findClass E = some ce.cls ∧ B.locs = A.locs ++ L ∧ (∀ z ∈ L, free z.base) ∧ B.cells = A.cells + mc ∧ B.slots = A.slots + ms
def vx_Back (l : Launch) (R : Room) (p : Program) (e : Env) (below : List Frame) (s : State) (sargs : Array Value) (y : MethodName) (len W9 : Nat)
    (Pre : Pt → Array Value → Prop) (Post : Pt → Array Value → Option Value → Pt → Prop) (PostX : Pt → Array Value → Addr → Pt → Prop) : Prop :=
  ∀ (m : MethodId) (meth : Method) (c : Code) (A : Pt) (g : JFrame) (ig : Instr) (mk : MethodId) (a : Array Value),
    Stand p l e R s m sargs below meth c A.U A.locs A.cells A.slots → g.method = m → g.locals.size = c.maxLocals → decode c.code g.pc = .ok (ig, len) →
    2 * g.monitorRoom + (g.stack.map fun v => v.category).sum ≤ W9 → A.U.methodNamed? y = some mk → Pre A a →
    (∃ (v : Option Value) (B : Pt), Stand p l e R s m sargs below meth c B.U B.locs B.cells B.slots ∧ Post A a v B ∧
      Steps p.tables e below (doInvoke e (A.U.setTop g) [] mk a).1 (B.U.setTop { g with pc := g.pc + len, stack := v.toList ++ g.stack })) ∨
    (∃ (q : Addr) (B : Pt), Stand p l e R s m sargs below meth c B.U B.locs B.cells B.slots ∧ PostX A a q B ∧
      Steps p.tables e below (doInvoke e (A.U.setTop g) [] mk a).1 ((B.U.setTop g).pushFrame (.throwing q)))
section Payer
variable {l : Launch} {R : Room} {p : Program} {e : Env} {below : List Frame} {s : State} {sargs : Array Value} {y : MethodName} {len W9 : Nat}
theorem vx_back {ws : List Cond} {rm : Room} {Pc : Array Value → State → Prop} {Qc : Array Value → State → Outcome → State → Prop} {XC : String → State → State → Prop} {mc ms : Nat} {free : Addr → Prop} {bytes : ByteArray} {maxL : Nat} {ret : Option FieldType}
    (hM : vx_Met l y ws rm Pc Qc XC mc ms free) (hblind : FrameBlind Pc) (hrc : rm.cells = mc) (hrs : rm.slots = ms)
    (hframes : rm.frames + 1 ≤ R.frames) (hlocals : W9 + (maxL + 11) + rm.locals ≤ R.locals)
    (hws : ∀ w ∈ ws, ∀ a' U, s.WarmedH U.vm → w.before a' U = true) (hcode : Cond.code y bytes maxL ret ∈ ws) (hinit : ∀ a' U, s.WarmedH U.vm → (Cond.initialized y.cls).before a' U = true) :
    vx_Back l R p e below s sargs y len W9 (PreOf R mc ms Pc) (PostOf Qc mc ms free) (vx_Post XC mc ms free) := by
  intro m meth c A g ig mk a X hg hsize hdg hW hn hp
  have h1 : (headSpec ws rm).pre.before a A.U = true := atoms_intro fun w hw => hws w hw _ _ X.warmed
  have h2 : (Cond.code y bytes maxL ret).before a A.U = true := hws _ hcode _ _ X.warmed
  have h3 : (Cond.initialized y.cls).before a A.U = true := hinit _ _ X.warmed
  have h4 : A.cells + (headSpec ws rm).room.cells ≤ R.cells := by rw [show (headSpec ws rm).room.cells = mc from hrc]; exact hp.1
  have h5 : A.slots + (headSpec ws rm).room.slots ≤ R.slots := by rw [show (headSpec ws rm).room.slots = ms from hrs]; exact hp.2.1
  have hPc : Pc a (A.U.calling g mk a) := hblind _ _ _ _ hp.2.2
  obtain ⟨U, Ls, c0, s0⟩ := A
  dsimp only [Pt.U, Pt.locs, Pt.cells, Pt.slots] at h1 h2 h3 h4 h5 X hn hPc ⊢
  obtain ⟨methY, cY, hmY, hcY, -, hlY, -, -, -, -⟩ := Cond.code_spec hn h2
  obtain ⟨kY, hkY, -⟩ := className_of_methodNamed hn
  have hinitY : kY.init = .initialized := Cond.initialized_spec (findClass_of_methodNamed hn) hkY h3
  have h : At U g.method c below := by rw [hg]; exact X.here
  have hlocals9 : W9 + (maxL + 11) + (headSpec ws rm).room.locals ≤ R.locals := hlocals
  have happ : (headSpec ws rm).appliesLoose y e.platform (U.calling g mk a) = true :=
    Spec.appliesLoose_calling (g := g) h hdg hn hkY hinitY
      (X.room_calling (g := g) (R' := (headSpec ws rm).room) hsize hmY hcY hframes (by rw [hlY]; omega) h4 h5) h1
  obtain ⟨mid, hmid⟩ := h.above
  have hfr : (U.setTop g).frames = (.java g :: mid) ++ below := by rw [State.frames_setTop' g h.top, hmid]; rfl
  obtain ⟨o, s₂, hsteps, -, hend, hq⟩ := Steps.callFree hM p X.admits X.cas X.clock (acts := []) hfr happ hPc trivial
  have hq' : vx_Q Qc XC mc ms free a (U.calling g mk a) o s₂ := hq
  rw [State.frames_setTop' g h.top] at hend
  obtain ⟨g₀, hg0⟩ := Option.isSome_iff_exists.mp h.top
  obtain ⟨r, hr⟩ := State.topJava?_eq_some.mp hg0
  have hr' : (({ U with heap := s₂.heap, slotsUsed := s₂.slotsUsed } : State).setVm s₂.vm).frames = .java g₀ :: r := hr
  rcases hq' with ⟨hqc, L, hfe, hL⟩ | ⟨q, rfl, E, ce, L, hx, hce, hcv, hcl, hW₂, hsm, hL⟩
  · obtain ⟨⟨v, rfl⟩, hW₂, e2, q2, q3, q4, q5, q6⟩ := id hfe
    have e3 : s₂ = ({ (U.calling g mk a).setFrames s₂.frames with heap := s₂.heap, slotsUsed := s₂.slotsUsed } : State).setVm s₂.vm := by
      have : s₂ = ({ s₂ with vm := (U.calling g mk a).vm } : State).setVm s₂.vm := rfl
      rw [e2] at this
      exact this
    obtain ⟨c₂, i₂, len₂, hc₂, hd₂, hf₂⟩ := hend
    have hW' : U.WarmedH s₂.vm := hW₂
    have hcc : c₂ = c := by
      have h1 : s₂.code? g.method = U.code? g.method := by
        rw [State.code?_eq, State.code?_eq, hW'.alike.method?]
      exact Option.some.inj (hc₂.symm.trans (h1.trans h.code))
    subst hcc
    have hlen : len₂ = len := by rw [hdg] at hd₂; cases hd₂; rfl
    subst hlen
    have hs₂ : s₂ = (({ U with heap := s₂.heap, slotsUsed := s₂.slotsUsed } : State).setVm s₂.vm).setTop { g with pc := g.pc + len₂, stack := v.toList ++ g.stack } := by
      refine e3.trans ?_
      rw [hf₂, State.calling_eq h.top, State.setFrames_setFrames, State.setTop_of_frames _ hr', hr]
      rfl
    have hsame : U.sameButNew ({ U with heap := s₂.heap, slotsUsed := s₂.slotsUsed } : State) L mc ms := by
      refine ⟨?_, q2, q3, q4, q5, q6⟩
      obtain ⟨t, ht, -⟩ := State.frames_cons hr
      show ({ U with heap := s₂.heap, slotsUsed := s₂.slotsUsed } : State) = { U.setFrames U.frames with heap := s₂.heap, slotsUsed := s₂.slotsUsed }
      rw [State.setFrames_self ht]
    subst hg
    refine Or.inl ⟨v, ⟨(({ U with heap := s₂.heap, slotsUsed := s₂.slotsUsed } : State).setVm s₂.vm), Ls ++ L, c0 + mc, s0 + ms⟩,
      ⟨X.admits, X.cas, X.clock, X.frames, X.room, X.hears, X.method, X.code, (X.here.setHeapUsed s₂.heap s₂.slotsUsed).setVm hW'.alike, X.tail, State.WarmedH.trans X.warmed hW', X.limits, X.bytes, X.same.trans (hsame.setVm s.vm)⟩,
      ⟨g, mk, s₂, L, rfl, rfl, hqc, rfl, hL, rfl, rfl⟩, ?_⟩
    show Steps p.tables e below _ ((({ U with heap := s₂.heap, slotsUsed := s₂.slotsUsed } : State).setVm s₂.vm).setTop { g with pc := g.pc + len₂, stack := v.toList ++ g.stack })
    rw [← hs₂]
    exact hsteps
  · obtain ⟨e2, q2, q3, q4, q5, q6⟩ := id hsm
    have e3 : s₂ = ({ (U.calling g mk a).setFrames s₂.frames with heap := s₂.heap, slotsUsed := s₂.slotsUsed } : State).setVm s₂.vm := by
      have : s₂ = ({ s₂ with vm := (U.calling g mk a).vm } : State).setVm s₂.vm := rfl
      rw [e2] at this
      exact this
    have hf₂ : s₂.frames = .throwing q :: .java g :: U.frames.tail := hend
    have hW' : U.WarmedH s₂.vm := hW₂
    have hs₂ : s₂ = ((({ U with heap := s₂.heap, slotsUsed := s₂.slotsUsed } : State).setVm s₂.vm).setTop g).pushFrame (.throwing q) := by
      refine e3.trans ?_
      rw [hf₂, State.calling_eq h.top, State.setFrames_setFrames, State.pushFrame, State.frames_setTop _ hr', State.setTop_of_frames _ hr', State.setFrames_setFrames, hr]
      rfl
    have hsame : U.sameButNew ({ U with heap := s₂.heap, slotsUsed := s₂.slotsUsed } : State) L mc ms := by
      refine ⟨?_, q2, q3, q4, q5, q6⟩
      obtain ⟨t, ht, -⟩ := State.frames_cons hr
      show ({ U with heap := s₂.heap, slotsUsed := s₂.slotsUsed } : State) = { U.setFrames U.frames with heap := s₂.heap, slotsUsed := s₂.slotsUsed }
      rw [State.setFrames_self ht]
    subst hg
    refine Or.inr ⟨q, ⟨(({ U with heap := s₂.heap, slotsUsed := s₂.slotsUsed } : State).setVm s₂.vm), Ls ++ L, c0 + mc, s0 + ms⟩,
      ⟨X.admits, X.cas, X.clock, X.frames, X.room, X.hears, X.method, X.code, (X.here.setHeapUsed s₂.heap s₂.slotsUsed).setVm hW'.alike, X.tail, State.WarmedH.trans X.warmed hW', X.limits, X.bytes, X.same.trans (hsame.setVm s.vm)⟩,
      ⟨g, mk, s₂, L, E, ce, rfl, rfl, hx, hce, hcv, hcl, rfl, hL, rfl, rfl⟩, ?_⟩
    show Steps p.tables e below _ (((({ U with heap := s₂.heap, slotsUsed := s₂.slotsUsed } : State).setVm s₂.vm).setTop g).pushFrame (.throwing q))
    rw [← hs₂]
    exact hsteps
end Payer
section Calls
variable {p : Program} {l : Launch} {e : Env} {R : Room} {s : State} {m : MethodId} {args : Array Value} {below : List Frame} {meth : Method} {c : Code} {T : State} {locs : List Loc} {cells slots : Nat}
theorem vx_callV (X : Stand p l e R s m args below meth c T locs cells slots) (hexec : p.tables.exec = Jvm.exec) {own C : String} {index : Nat} {y : MethodName} {bytes : ByteArray} {maxL : Nat} {ret : Option FieldType}
    (hown : s.vm.findClass own = some m.cls) (hlink : (Cond.methodLink own index y).before args s = true) (hinst : (Cond.instanceMethod y).before args s = true) (hsel : (Cond.selects C y y).before args s = true)
    (hcode : (Cond.code y bytes maxL ret).before args s = true) (hy : y.cls ≠ "java/lang/invoke/MethodHandle" ∧ y.cls ≠ "java/lang/invoke/VarHandle")
    {W9 : Nat} {Pre : Pt → Array Value → Prop} {Post : Pt → Array Value → Option Value → Pt → Prop} {PostX : Pt → Array Value → Addr → Pt → Prop} (hK : vx_Back l R p e below s args y 3 W9 Pre Post PostX)
    {b : Addr} {cellB : Cell} (hcell : T.heap[b]? = some cellB) (hobj : cellB.vm.isStatics = false) (hcls : s.vm.findClass C = some cellB.cls)
    {g : JFrame} (hg : g.method = m) (hsize : g.locals.size = c.maxLocals) {argsL rest : List Value} (hlen : ∀ sig, parseMethodDescriptor y.desc = some sig → argsL.length = sig.parameters.length)
    (hstack : g.stack = argsL.reverse ++ .ref b :: rest) (hW : 2 * g.monitorRoom + (rest.map fun v => v.category).sum ≤ W9) (hdg : decode c.code g.pc = .ok (.invokevirtual index, 3))
    (hpre : ∀ vm₁, s.WarmedH vm₁ → Pre ⟨T.setVm vm₁, locs, cells, slots⟩ (Value.ref b :: argsL).toArray) :
    (∃ (v : Option Value) (vm₁ : Vm) (B : Pt), s.WarmedH vm₁ ∧ Stand p l e R s m args below meth c B.U B.locs B.cells B.slots ∧ Post ⟨T.setVm vm₁, locs, cells, slots⟩ (Value.ref b :: argsL).toArray v B ∧
      ∀ target, Steps p.tables e below (B.U.setTop { g with pc := g.pc + 3, stack := v.toList ++ rest }) target → Steps p.tables e below (T.setTop g) target) ∨
    (∃ (q : Addr) (vm₁ : Vm) (B : Pt), s.WarmedH vm₁ ∧ Stand p l e R s m args below meth c B.U B.locs B.cells B.slots ∧ PostX ⟨T.setVm vm₁, locs, cells, slots⟩ (Value.ref b :: argsL).toArray q B ∧
      Steps p.tables e below (T.setTop g) ((B.U.setTop { g with stack := rest }).pushFrame (.throwing q))) := by
  obtain ⟨mk, methM, hnamed, hmethM, hstM, habM⟩ := Cond.instanceMethod_spec hinst
  obtain ⟨methM', cM, hmethM', -, -, -, -, -, -, hsigM⟩ := Cond.code_spec hnamed hcode
  cases hmethM.symm.trans hmethM'
  obtain ⟨c2, r2, m2, q1, q2, q3, q4, kP, hkP, hkPi⟩ := Cond.selects_spec hsel
  cases hcls.symm.trans q1
  cases (State.methodFound?_of_named hnamed hy).symm.trans q2
  cases hnamed.symm.trans q3
  have hselP : selectMethod e.platform s.vm cellB.cls mk = .method mk := by rw [Launch.admits_selectMethod X.admits]; exact q4
  obtain ⟨vm₁, X₁, hstep₁⟩ := X.invokevirtual hexec hown hlink hnamed hmethM hstM hkP hkPi hy (a := b) (cell := cellB) hcell
    (fun z h => by rw [h] at hobj; cases hobj) hselP hmethM habM hkP hkPi (g := g) hg (argsL := argsL) (rest := rest) (hlen _ hsigM) hstack hdg
  rcases hK m meth c ⟨T.setVm vm₁, locs, cells, slots⟩ { g with stack := rest } (.invokevirtual index) mk (Value.ref b :: argsL).toArray X₁ hg hsize hdg hW (X₁.named hnamed) (hpre vm₁ X₁.warmed) with ⟨v, B, X', hpost, hsteps⟩ | ⟨q, B, X', hpost, hsteps⟩
  · exact Or.inl ⟨v, vm₁, B, X₁.warmed, X', hpost, fun target h => hstep₁ _ fun acts => by rw [doInvoke_state]; exact hsteps.trans h⟩
  · exact Or.inr ⟨q, vm₁, B, X₁.warmed, X', hpost, hstep₁ _ fun acts => by rw [doInvoke_state]; exact hsteps⟩
theorem vx_callS (X : Stand p l e R s m args below meth c T locs cells slots) (hexec : p.tables.exec = Jvm.exec) {own : String} {index : Nat} {y : MethodName} {bytes : ByteArray} {maxL : Nat} {ret : Option FieldType}
    (hown : s.vm.findClass own = some m.cls) (hlink : (Cond.methodLink own index y).before args s = true) (hstat : (Cond.static y).before args s = true) (hinit : (Cond.initialized y.cls).before args s = true)
    (hcode : (Cond.code y bytes maxL ret).before args s = true) (hy : y.cls ≠ "java/lang/invoke/MethodHandle" ∧ y.cls ≠ "java/lang/invoke/VarHandle")
    {W9 : Nat} {Pre : Pt → Array Value → Prop} {Post : Pt → Array Value → Option Value → Pt → Prop} {PostX : Pt → Array Value → Addr → Pt → Prop} (hK : vx_Back l R p e below s args y 3 W9 Pre Post PostX)
    {g : JFrame} (hg : g.method = m) (hsize : g.locals.size = c.maxLocals) {argsL rest : List Value} (hlen : ∀ sig, parseMethodDescriptor y.desc = some sig → argsL.length = sig.parameters.length)
    (hstack : g.stack = argsL.reverse ++ rest) (hW : 2 * g.monitorRoom + (rest.map fun v => v.category).sum ≤ W9) (hdg : decode c.code g.pc = .ok (.invokestatic index, 3))
    (hpre : ∀ vm₁, s.WarmedH vm₁ → Pre ⟨T.setVm vm₁, locs, cells, slots⟩ argsL.toArray) :
    (∃ (v : Option Value) (vm₁ : Vm) (B : Pt), s.WarmedH vm₁ ∧ Stand p l e R s m args below meth c B.U B.locs B.cells B.slots ∧ Post ⟨T.setVm vm₁, locs, cells, slots⟩ argsL.toArray v B ∧
      ∀ target, Steps p.tables e below (B.U.setTop { g with pc := g.pc + 3, stack := v.toList ++ rest }) target → Steps p.tables e below (T.setTop g) target) ∨
    (∃ (q : Addr) (vm₁ : Vm) (B : Pt), s.WarmedH vm₁ ∧ Stand p l e R s m args below meth c B.U B.locs B.cells B.slots ∧ PostX ⟨T.setVm vm₁, locs, cells, slots⟩ argsL.toArray q B ∧
      Steps p.tables e below (T.setTop g) ((B.U.setTop { g with stack := rest }).pushFrame (.throwing q))) := by
  obtain ⟨mk, hnamed⟩ := Cond.code_named hcode
  obtain ⟨methM, cM, hmethM, -, -, -, -, -, -, hsigM⟩ := Cond.code_spec hnamed hcode
  have hstatic : methM.isStatic = true := Cond.static_spec hnamed hmethM hstat
  obtain ⟨kP, hkP, -⟩ := className_of_methodNamed hnamed
  have hinitP : kP.init = .initialized := Cond.initialized_spec (findClass_of_methodNamed hnamed) hkP hinit
  obtain ⟨vm₁, X₁, hstep₁⟩ := X.invokestatic hexec hown hlink hnamed hmethM hstatic hkP hinitP hy (g := g) hg (argsL := argsL) (rest := rest) (hlen _ hsigM) hstack hdg
  rcases hK m meth c ⟨T.setVm vm₁, locs, cells, slots⟩ { g with stack := rest } (.invokestatic index) mk argsL.toArray X₁ hg hsize hdg hW (X₁.named hnamed) (hpre vm₁ X₁.warmed) with ⟨v, B, X', hpost, hsteps⟩ | ⟨q, B, X', hpost, hsteps⟩
  · exact Or.inl ⟨v, vm₁, B, X₁.warmed, X', hpost, fun target h => hstep₁ _ fun acts => by rw [doInvoke_state]; exact hsteps.trans h⟩
  · exact Or.inr ⟨q, vm₁, B, X₁.warmed, X', hpost, hstep₁ _ fun acts => by rw [doInvoke_state]; exact hsteps⟩
end Calls
theorem vx_cls {s : State} {T : State} {vm₁ : Vm} {E : String} {k : ClassId} (hW : s.WarmedH vm₁) (h : (T.setVm vm₁).vm.findClass E = some k) : s.vm.findClass E = some k := by
  have h1 : vm₁.findClass E = some k := h
  rw [hW.alike.findClass] at h1
  exact h1
/-- the method's frame g, with q thrown over it -/
def vx_W (p : Program) (l : Launch) (e : Env) (R : Room) (s : State) (m : MethodId) (args : Array Value) (below : List Frame) (meth : Method) (c : Code) (H : Heap) (locs : List Loc) (cells slots : Nat) (Q : State → Prop) (g : JFrame) (q : Addr) : Prop :=
  ∀ T : State, T.heap = H → Stand p l e R s m args below meth c T locs cells slots → ∃ t, Steps p.tables e below ((T.setTop g).pushFrame (.throwing q)) t ∧ Q t
def vx_Run (p : Program) (l : Launch) (e : Env) (R : Room) (s : State) (m : MethodId) (args : Array Value) (below : List Frame) (meth : Method) (c : Code) (H : Heap) (locs : List Loc) (cells slots mc ms : Nat) (g : JFrame) (rest : List Value) (Qa : State → Outcome → State → Prop) (XC : String → State → State → Prop) (free : Addr → Prop) : Prop :=
  ∀ T : State, T.heap = H → Stand p l e R s m args below meth c T locs cells slots →
    (∃ (v : Option Value) (st₀ t T' : State) (L : List Loc), st₀.heap = H ∧ Stand p l e R s m args below meth c T' (locs ++ L) (cells + mc) (slots + ms) ∧ (∀ q ∈ L, free q.base) ∧ T'.heap = t.heap ∧ T'.vm = t.vm ∧ Qa st₀ (.returned v) t ∧
      Goes p e below T g T' { g with pc := g.pc + 3, stack := v.toList ++ rest }) ∨
    (∃ (q : Addr) (st₀ t T' : State) (L : List Loc) (E : String) (ce : Cell), st₀.heap = H ∧ Stand p l e R s m args below meth c T' (locs ++ L) (cells + mc) (slots + ms) ∧ (∀ z ∈ L, free z.base) ∧ T'.heap = t.heap ∧ T'.vm = t.vm ∧ XC E st₀ t ∧ t.heap[q]? = some ce ∧ ce.vm = .none ∧ s.vm.findClass E = some ce.cls ∧
      Steps p.tables e below (T.setTop g) ((T'.setTop { g with stack := rest }).pushFrame (.throwing q)))
def vx_X {S : Type} (px : S → Prop) (B : String → S → State → Prop) (A : Nat → Prop) : String → State → State → Prop := fun E st t => ∃ u : S, px u ∧ B E u t ∧ va_F A st t
section Runs
variable {p : Program} {l : Launch} {e : Env} {R : Room} {s : State} {m : MethodId} {args : Array Value} {below : List Frame} {meth : Method} {c : Code} {H : Heap} {locs : List Loc} {cells slots : Nat}
variable {y : MethodName} {bytes cc : ByteArray} {maxL nL mc ms n index : Nat} {ret : Option FieldType} {ws : List Cond} {rm : Room} {Pc : Array Value → State → Prop} {Qc : Array Value → State → Outcome → State → Prop} {XC : String → State → State → Prop} {free : Addr → Prop} {Ts : List Cond} {own C : String} {b : Addr} {As rest : List Value} {g : JFrame}
theorem vx_callBack (cb : CallB R s args own index y bytes maxL ret ws rm mc ms n) (hM : vx_Met l y ws rm Pc Qc XC mc ms free) (hbl : FrameBlind Pc) : vx_Back l R p e below s args y 3 8 (PreOf R mc ms Pc) (PostOf Qc mc ms free) (vx_Post XC mc ms free) := by
  obtain ⟨hrc, hrs, hfr, hlo, hws, hcw, -, hini, -⟩ := cb
  exact vx_back (bytes := bytes) (maxL := maxL) (ret := ret) hM hbl hrc hrs hfr hlo hws hcw (fun a' U hW => word_at hW (Or.inl (by first | rfl | simp [Cond.onTables, Cond.keeps, Cond.steady])) hini)
theorem vx_runV (S : CallFix p m c cc nL s args Ts own) (hM : vx_Met l y ws rm Pc Qc XC mc ms free) (cw : CallW R s args own C index y bytes maxL ret ws rm mc ms n) (hp : PreV s H C b Pc As)
    (hg : g.method = m) (hn : As.length = n) (hsize : g.locals.size = nL) (hstack : g.stack = As.reverse ++ .ref b :: rest) (hW : 2 * g.monitorRoom + (rest.map fun v => v.category).sum ≤ 8) (hdg : decode cc g.pc = .ok (.invokevirtual index, 3)) (hf : cells + mc ≤ R.cells ∧ slots + ms ≤ R.slots) :
    vx_Run p l e R s m args below meth c H locs cells slots mc ms g rest (Qc (Value.ref b :: As).toArray) XC free := by
  have hK : vx_Back l R p e below s args y 3 8 (PreOf R mc ms Pc) (PostOf Qc mc ms free) (vx_Post XC mc ms free) := vx_callBack cw.1 hM hp.1
  obtain ⟨⟨-, -, -, -, -, -, hcode, -, hy, hlen, hl⟩, hin, hse⟩ := cw
  obtain ⟨hx, hb, hml, ho, -⟩ := S
  obtain ⟨-, ⟨cellB, hcB, hoB, hclB⟩, hPc⟩ := hp
  intro T hT X
  rcases vx_callV X hx (C := C) (bytes := bytes) (maxL := maxL) (ret := ret) ho hl hin hse hcode hy hK (by rw [hT]; exact hcB) hoB hclB hg (hsize.trans hml.symm) (argsL := As) (rest := rest) (fun sig h => hn.trans (hlen sig h)) hstack hW (by rw [hb]; exact hdg)
    (fun vm₁ hW₁ => ⟨hf.1, hf.2, hPc (T.setVm vm₁) hT hW₁⟩) with ⟨v, vm₁, ⟨U', l2, c2, s2⟩, hW₁, X', ⟨g', mk, t, L, e1, e2, hq, h1, hL, h2, h3⟩, st⟩ | ⟨q, vm₁, ⟨U', l2, c2, s2⟩, hW₁, X', ⟨g', mk, t, L, E, ce, e1, e2, hq, hce, hcv, hcl, h1, hL, h2, h3⟩, st⟩
  · dsimp only [Pt.U, Pt.locs, Pt.cells, Pt.slots] at X' e1 e2 h1 h2 h3 st
    subst h1; subst h2; subst h3
    exact Or.inl ⟨v, (T.setVm vm₁).calling g' mk (Value.ref b :: As).toArray, t, U', L, hT, X', hL, e1, e2, hq, st⟩
  · dsimp only [Pt.U, Pt.locs, Pt.cells, Pt.slots] at X' e1 e2 h1 h2 h3 st hcl
    subst h1; subst h2; subst h3
    exact Or.inr ⟨q, (T.setVm vm₁).calling g' mk (Value.ref b :: As).toArray, t, U', L, E, ce, hT, X', hL, e1, e2, hq, hce, hcv, vx_cls hW₁ hcl, st⟩
theorem vx_runS (S : CallFix p m c cc nL s args Ts own) (hM : vx_Met l y ws rm Pc Qc XC mc ms free) (cw : CallB R s args own index y bytes maxL ret ws rm mc ms n ∧ (Cond.static y).before args s = true) (hp : PreS s H Pc As)
    (hg : g.method = m) (hn : As.length = n) (hsize : g.locals.size = nL) (hstack : g.stack = As.reverse ++ rest) (hW : 2 * g.monitorRoom + (rest.map fun v => v.category).sum ≤ 8) (hdg : decode cc g.pc = .ok (.invokestatic index, 3)) (hf : cells + mc ≤ R.cells ∧ slots + ms ≤ R.slots) :
    vx_Run p l e R s m args below meth c H locs cells slots mc ms g rest (Qc As.toArray) XC free := by
  have hK : vx_Back l R p e below s args y 3 8 (PreOf R mc ms Pc) (PostOf Qc mc ms free) (vx_Post XC mc ms free) := vx_callBack cw.1 hM hp.1
  obtain ⟨⟨-, -, -, -, -, -, hcode, hini, hy, hlen, hl⟩, hstt⟩ := cw
  obtain ⟨hx, hb, hml, ho, -⟩ := S
  intro T hT X
  rcases vx_callS X hx (bytes := bytes) (maxL := maxL) (ret := ret) ho hl hstt hini hcode hy hK hg (hsize.trans hml.symm) (argsL := As) (rest := rest) (fun sig h => hn.trans (hlen sig h)) hstack hW (by rw [hb]; exact hdg)
    (fun vm₁ hW₁ => ⟨hf.1, hf.2, hp.2 (T.setVm vm₁) hT hW₁⟩) with ⟨v, vm₁, ⟨U', l2, c2, s2⟩, hW₁, X', ⟨g', mk, t, L, e1, e2, hq, h1, hL, h2, h3⟩, st⟩ | ⟨q, vm₁, ⟨U', l2, c2, s2⟩, hW₁, X', ⟨g', mk, t, L, E, ce, e1, e2, hq, hce, hcv, hcl, h1, hL, h2, h3⟩, st⟩
  · dsimp only [Pt.U, Pt.locs, Pt.cells, Pt.slots] at X' e1 e2 h1 h2 h3 st
    subst h1; subst h2; subst h3
    exact Or.inl ⟨v, (T.setVm vm₁).calling g' mk As.toArray, t, U', L, hT, X', hL, e1, e2, hq, st⟩
  · dsimp only [Pt.U, Pt.locs, Pt.cells, Pt.slots] at X' e1 e2 h1 h2 h3 st hcl
    subst h1; subst h2; subst h3
    exact Or.inr ⟨q, (T.setVm vm₁).calling g' mk As.toArray, t, U', L, E, ce, hT, X', hL, e1, e2, hq, hce, hcv, vx_cls hW₁ hcl, st⟩
end Runs
section Rows
variable {p : Program} {l : Launch} {e : Env} {R : Room} {s : State} {m : MethodId} {args : Array Value} {below : List Frame} {meth : Method} {c : Code} {H : Heap} {locs : List Loc} {cells slots : Nat} {Q : State → Prop}
variable {mc ms : Nat} {free : Addr → Prop} {A0 A1 : Nat → Prop} {H0 : Heap} {a : Array Value} {pc : Nat} {ls : Array Slot} {st0 rest : List Value}
theorem vx_keep {st₀ t T' : State} {L : List Loc} (h0 : st₀.heap = H) (e1 : T'.heap = t.heap) (hS : va_S A0 H0 H locs) (hA : ∀ q, q < H.size → A1 q → A0 q) (hf : ∀ q, free q → A0 q) (hL : ∀ q ∈ L, free q.base) (hF : va_F A1 st₀ t) :
    H.size ≤ T'.heap.size ∧ (∀ q : Nat, q < H.size → ¬ A1 q → T'.heap[q]? = H[q]?) ∧ va_S A0 H0 T'.heap (locs ++ L) := by
  obtain ⟨hz, hk⟩ := hF
  rw [h0] at hz hk
  exact ⟨by rw [e1]; exact hz, fun q h1 h2 => by rw [e1]; exact hk q h1 h2,
    ⟨Nat.le_trans hS.1 (by rw [e1]; exact hz), fun q h1 h2 => by rw [e1, hk q (Nat.lt_of_lt_of_le h1 hS.1) (fun z => h2 (hA q (Nat.lt_of_lt_of_le h1 hS.1) z))]; exact hS.2.1 q h1 h2, fun q hq => by
      rcases List.mem_append.mp hq with h | h
      · exact hS.2.2 q h
      · exact hf _ (hL q h)⟩⟩
theorem vx_calli {S SX : Type} {post : Int32 → S → Prop} {px : SX → Prop} {B : S → State → Prop} {BX : String → SX → State → Prop} {AX : Nat → Prop} (hr : vx_Run p l e R s m args below meth c H locs cells slots mc ms (F0 m pc ls st0) rest (va_Qi post B A1 a) (vx_X px BX AX) free) (hS : va_S A0 H0 H locs) (hA : ∀ q, q < H.size → A1 q → A0 q) (hf : ∀ q, free q → A0 q) (hAX : ∀ q, q < H.size → AX q → A0 q)
    (kx : ∀ (E : String) (ce : Cell) (q9 : Addr) (u : SX) (t : State) (H1 : Heap) (locs1 : List Loc), t.heap = H1 → s.vm.Alike t.vm → px u → BX E u t → H.size ≤ H1.size → (∀ q : Nat, q < H.size → ¬ AX q → H1[q]? = H[q]?) → va_S A0 H0 H1 locs1 → H1[q9]? = some ce → ce.vm = .none → s.vm.findClass E = some ce.cls → vx_W p l e R s m args below meth c H1 locs1 (cells + mc) (slots + ms) Q (F0 m pc ls rest) q9)
    (kk : ∀ (r : Int32) (u : S) (t : State) (H1 : Heap) (locs1 : List Loc), t.heap = H1 → s.vm.Alike t.vm → post r u → B u t → H.size ≤ H1.size → (∀ q : Nat, q < H.size → ¬ A1 q → H1[q]? = H[q]?) → va_S A0 H0 H1 locs1 → W p l e R s m args below meth c H1 locs1 (cells + mc) (slots + ms) Q (F0 m (pc + 3) ls (.int r :: rest))) : W p l e R s m args below meth c H locs cells slots Q (F0 m pc ls st0) := by
  intro T hT X
  rcases hr T hT X with ⟨v, st₀, t, T', L, h0, X', hL, e1, e2, ⟨⟨r, u, hv, hp, hb⟩, hF⟩, st⟩ | ⟨q, st₀, t, T', L, E, ce, h0, X', hL, e1, e2, ⟨u, hp, hb, hF⟩, hce, hcv, hcl, st⟩
  · cases hv
    obtain ⟨k1, k2, k3⟩ := vx_keep h0 e1 hS hA hf hL hF
    obtain ⟨t2, a1, b1⟩ := kk r u t T'.heap (locs ++ L) e1.symm (by rw [← e2]; exact X'.warmed.alike) hp hb k1 k2 k3 T' rfl X'
    exact ⟨t2, st t2 a1, b1⟩
  · obtain ⟨k1, k2, k3⟩ := vx_keep h0 e1 hS hAX hf hL hF
    obtain ⟨t2, a1, b1⟩ := kx E ce q u t T'.heap (locs ++ L) e1.symm (by rw [← e2]; exact X'.warmed.alike) hp hb k1 k2 k3 (by rw [e1]; exact hce) hcv hcl T' rfl X'
    exact ⟨t2, st.trans a1, b1⟩
theorem vx_calll {S SX : Type} {post : Int64 → S → Prop} {px : SX → Prop} {B : S → State → Prop} {BX : String → SX → State → Prop} {AX : Nat → Prop} (hr : vx_Run p l e R s m args below meth c H locs cells slots mc ms (F0 m pc ls st0) rest (va_Ql post B A1 a) (vx_X px BX AX) free) (hS : va_S A0 H0 H locs) (hA : ∀ q, q < H.size → A1 q → A0 q) (hf : ∀ q, free q → A0 q) (hAX : ∀ q, q < H.size → AX q → A0 q)
    (kx : ∀ (E : String) (ce : Cell) (q9 : Addr) (u : SX) (t : State) (H1 : Heap) (locs1 : List Loc), t.heap = H1 → s.vm.Alike t.vm → px u → BX E u t → H.size ≤ H1.size → (∀ q : Nat, q < H.size → ¬ AX q → H1[q]? = H[q]?) → va_S A0 H0 H1 locs1 → H1[q9]? = some ce → ce.vm = .none → s.vm.findClass E = some ce.cls → vx_W p l e R s m args below meth c H1 locs1 (cells + mc) (slots + ms) Q (F0 m pc ls rest) q9)
    (kk : ∀ (r : Int64) (u : S) (t : State) (H1 : Heap) (locs1 : List Loc), t.heap = H1 → s.vm.Alike t.vm → post r u → B u t → H.size ≤ H1.size → (∀ q : Nat, q < H.size → ¬ A1 q → H1[q]? = H[q]?) → va_S A0 H0 H1 locs1 → W p l e R s m args below meth c H1 locs1 (cells + mc) (slots + ms) Q (F0 m (pc + 3) ls (.long r :: rest))) : W p l e R s m args below meth c H locs cells slots Q (F0 m pc ls st0) := by
  intro T hT X
  rcases hr T hT X with ⟨v, st₀, t, T', L, h0, X', hL, e1, e2, ⟨⟨r, u, hv, hp, hb⟩, hF⟩, st⟩ | ⟨q, st₀, t, T', L, E, ce, h0, X', hL, e1, e2, ⟨u, hp, hb, hF⟩, hce, hcv, hcl, st⟩
  · cases hv
    obtain ⟨k1, k2, k3⟩ := vx_keep h0 e1 hS hA hf hL hF
    obtain ⟨t2, a1, b1⟩ := kk r u t T'.heap (locs ++ L) e1.symm (by rw [← e2]; exact X'.warmed.alike) hp hb k1 k2 k3 T' rfl X'
    exact ⟨t2, st t2 a1, b1⟩
  · obtain ⟨k1, k2, k3⟩ := vx_keep h0 e1 hS hAX hf hL hF
    obtain ⟨t2, a1, b1⟩ := kx E ce q u t T'.heap (locs ++ L) e1.symm (by rw [← e2]; exact X'.warmed.alike) hp hb k1 k2 k3 (by rw [e1]; exact hce) hcv hcl T' rfl X'
    exact ⟨t2, st.trans a1, b1⟩
theorem vx_callf {S SX : Type} {post : UInt32 → S → Prop} {px : SX → Prop} {B : S → State → Prop} {BX : String → SX → State → Prop} {AX : Nat → Prop} (hr : vx_Run p l e R s m args below meth c H locs cells slots mc ms (F0 m pc ls st0) rest (va_Qf post B A1 a) (vx_X px BX AX) free) (hS : va_S A0 H0 H locs) (hA : ∀ q, q < H.size → A1 q → A0 q) (hf : ∀ q, free q → A0 q) (hAX : ∀ q, q < H.size → AX q → A0 q)
    (kx : ∀ (E : String) (ce : Cell) (q9 : Addr) (u : SX) (t : State) (H1 : Heap) (locs1 : List Loc), t.heap = H1 → s.vm.Alike t.vm → px u → BX E u t → H.size ≤ H1.size → (∀ q : Nat, q < H.size → ¬ AX q → H1[q]? = H[q]?) → va_S A0 H0 H1 locs1 → H1[q9]? = some ce → ce.vm = .none → s.vm.findClass E = some ce.cls → vx_W p l e R s m args below meth c H1 locs1 (cells + mc) (slots + ms) Q (F0 m pc ls rest) q9)
    (kk : ∀ (r : UInt32) (u : S) (t : State) (H1 : Heap) (locs1 : List Loc), t.heap = H1 → s.vm.Alike t.vm → post r u → B u t → H.size ≤ H1.size → (∀ q : Nat, q < H.size → ¬ A1 q → H1[q]? = H[q]?) → va_S A0 H0 H1 locs1 → W p l e R s m args below meth c H1 locs1 (cells + mc) (slots + ms) Q (F0 m (pc + 3) ls (.float r :: rest))) : W p l e R s m args below meth c H locs cells slots Q (F0 m pc ls st0) := by
  intro T hT X
  rcases hr T hT X with ⟨v, st₀, t, T', L, h0, X', hL, e1, e2, ⟨⟨r, u, hv, hp, hb⟩, hF⟩, st⟩ | ⟨q, st₀, t, T', L, E, ce, h0, X', hL, e1, e2, ⟨u, hp, hb, hF⟩, hce, hcv, hcl, st⟩
  · cases hv
    obtain ⟨k1, k2, k3⟩ := vx_keep h0 e1 hS hA hf hL hF
    obtain ⟨t2, a1, b1⟩ := kk r u t T'.heap (locs ++ L) e1.symm (by rw [← e2]; exact X'.warmed.alike) hp hb k1 k2 k3 T' rfl X'
    exact ⟨t2, st t2 a1, b1⟩
  · obtain ⟨k1, k2, k3⟩ := vx_keep h0 e1 hS hAX hf hL hF
    obtain ⟨t2, a1, b1⟩ := kx E ce q u t T'.heap (locs ++ L) e1.symm (by rw [← e2]; exact X'.warmed.alike) hp hb k1 k2 k3 (by rw [e1]; exact hce) hcv hcl T' rfl X'
    exact ⟨t2, st.trans a1, b1⟩
theorem vx_calld {S SX : Type} {post : UInt64 → S → Prop} {px : SX → Prop} {B : S → State → Prop} {BX : String → SX → State → Prop} {AX : Nat → Prop} (hr : vx_Run p l e R s m args below meth c H locs cells slots mc ms (F0 m pc ls st0) rest (va_Qd post B A1 a) (vx_X px BX AX) free) (hS : va_S A0 H0 H locs) (hA : ∀ q, q < H.size → A1 q → A0 q) (hf : ∀ q, free q → A0 q) (hAX : ∀ q, q < H.size → AX q → A0 q)
    (kx : ∀ (E : String) (ce : Cell) (q9 : Addr) (u : SX) (t : State) (H1 : Heap) (locs1 : List Loc), t.heap = H1 → s.vm.Alike t.vm → px u → BX E u t → H.size ≤ H1.size → (∀ q : Nat, q < H.size → ¬ AX q → H1[q]? = H[q]?) → va_S A0 H0 H1 locs1 → H1[q9]? = some ce → ce.vm = .none → s.vm.findClass E = some ce.cls → vx_W p l e R s m args below meth c H1 locs1 (cells + mc) (slots + ms) Q (F0 m pc ls rest) q9)
    (kk : ∀ (r : UInt64) (u : S) (t : State) (H1 : Heap) (locs1 : List Loc), t.heap = H1 → s.vm.Alike t.vm → post r u → B u t → H.size ≤ H1.size → (∀ q : Nat, q < H.size → ¬ A1 q → H1[q]? = H[q]?) → va_S A0 H0 H1 locs1 → W p l e R s m args below meth c H1 locs1 (cells + mc) (slots + ms) Q (F0 m (pc + 3) ls (.double r :: rest))) : W p l e R s m args below meth c H locs cells slots Q (F0 m pc ls st0) := by
  intro T hT X
  rcases hr T hT X with ⟨v, st₀, t, T', L, h0, X', hL, e1, e2, ⟨⟨r, u, hv, hp, hb⟩, hF⟩, st⟩ | ⟨q, st₀, t, T', L, E, ce, h0, X', hL, e1, e2, ⟨u, hp, hb, hF⟩, hce, hcv, hcl, st⟩
  · cases hv
    obtain ⟨k1, k2, k3⟩ := vx_keep h0 e1 hS hA hf hL hF
    obtain ⟨t2, a1, b1⟩ := kk r u t T'.heap (locs ++ L) e1.symm (by rw [← e2]; exact X'.warmed.alike) hp hb k1 k2 k3 T' rfl X'
    exact ⟨t2, st t2 a1, b1⟩
  · obtain ⟨k1, k2, k3⟩ := vx_keep h0 e1 hS hAX hf hL hF
    obtain ⟨t2, a1, b1⟩ := kx E ce q u t T'.heap (locs ++ L) e1.symm (by rw [← e2]; exact X'.warmed.alike) hp hb k1 k2 k3 (by rw [e1]; exact hce) hcv hcl T' rfl X'
    exact ⟨t2, st.trans a1, b1⟩
theorem vx_callv {S SX : Type} {post : S → Prop} {px : SX → Prop} {B : S → State → Prop} {BX : String → SX → State → Prop} {AX : Nat → Prop} (hr : vx_Run p l e R s m args below meth c H locs cells slots mc ms (F0 m pc ls st0) rest (va_Qv post B A1 a) (vx_X px BX AX) free) (hS : va_S A0 H0 H locs) (hA : ∀ q, q < H.size → A1 q → A0 q) (hf : ∀ q, free q → A0 q) (hAX : ∀ q, q < H.size → AX q → A0 q)
    (kx : ∀ (E : String) (ce : Cell) (q9 : Addr) (u : SX) (t : State) (H1 : Heap) (locs1 : List Loc), t.heap = H1 → s.vm.Alike t.vm → px u → BX E u t → H.size ≤ H1.size → (∀ q : Nat, q < H.size → ¬ AX q → H1[q]? = H[q]?) → va_S A0 H0 H1 locs1 → H1[q9]? = some ce → ce.vm = .none → s.vm.findClass E = some ce.cls → vx_W p l e R s m args below meth c H1 locs1 (cells + mc) (slots + ms) Q (F0 m pc ls rest) q9)
    (kk : ∀ (u : S) (t : State) (H1 : Heap) (locs1 : List Loc), t.heap = H1 → s.vm.Alike t.vm → post u → B u t → H.size ≤ H1.size → (∀ q : Nat, q < H.size → ¬ A1 q → H1[q]? = H[q]?) → va_S A0 H0 H1 locs1 → W p l e R s m args below meth c H1 locs1 (cells + mc) (slots + ms) Q (F0 m (pc + 3) ls (rest))) : W p l e R s m args below meth c H locs cells slots Q (F0 m pc ls st0) := by
  intro T hT X
  rcases hr T hT X with ⟨v, st₀, t, T', L, h0, X', hL, e1, e2, ⟨⟨u, hv, hp, hb⟩, hF⟩, st⟩ | ⟨q, st₀, t, T', L, E, ce, h0, X', hL, e1, e2, ⟨u, hp, hb, hF⟩, hce, hcv, hcl, st⟩
  · cases hv
    obtain ⟨k1, k2, k3⟩ := vx_keep h0 e1 hS hA hf hL hF
    obtain ⟨t2, a1, b1⟩ := kk u t T'.heap (locs ++ L) e1.symm (by rw [← e2]; exact X'.warmed.alike) hp hb k1 k2 k3 T' rfl X'
    exact ⟨t2, st t2 a1, b1⟩
  · obtain ⟨k1, k2, k3⟩ := vx_keep h0 e1 hS hAX hf hL hF
    obtain ⟨t2, a1, b1⟩ := kx E ce q u t T'.heap (locs ++ L) e1.symm (by rw [← e2]; exact X'.warmed.alike) hp hb k1 k2 k3 (by rw [e1]; exact hce) hcv hcl T' rfl X'
    exact ⟨t2, st.trans a1, b1⟩
/-- caught by the row x of this method's table; the rows ahead don't take it -/
theorem vx_catch {own name : String} {E : String} {ce : Cell} {q : Addr} (hown : s.vm.findClass own = some m.cls) (pre : List ExceptionTableEntry) (x : ExceptionTableEntry) (suf : List ExceptionTableEntry) (hsplit : c.exceptionTable.toList = pre ++ x :: suf)
    (hpass : ∀ z ∈ pre, covers z pc = false ∨ (z.catchType ≠ 0 ∧ ∃ nm : String, (Cond.classLink own z.catchType nm).before args s = true ∧ va_Nc E nm s)) (hx : covers x pc = true) (h0 : x.catchType ≠ 0)
    (hlink : (Cond.classLink own x.catchType name).before args s = true) (hcast : (Cond.castable E name).before args s = true) (hcell : H[q]? = some ce) (hv : ce.vm = .none) (hcl : s.vm.findClass E = some ce.cls)
    (kk : W p l e R s m args below meth c H locs cells slots Q (F0 m x.handlerPc ls [.ref q])) : vx_W p l e R s m args below meth c H locs cells slots Q (F0 m pc ls rest) q := by
  intro T hT X
  have hpl : e.platform.magicAccessors = ({} : Platform).magicAccessors := by rw [X.admits.platform]
  obtain ⟨c3, c4, hc3, hc4, hasg⟩ := Cond.castable_spec hcast
  cases Option.some.inj (hc3.symm.trans hcl)
  obtain ⟨c5, hc5, hcl5⟩ := Cond.classLink_spec hown hlink e.platform hpl
  cases Option.some.inj (hc4.symm.trans hc5)
  obtain ⟨vm', X', st⟩ := X.thenCaughtThrough q (g := F0 m pc ls rest) rfl (Steps.refl _) (by rw [hT]; exact hcell) (by rw [hv]; rfl) (by obtain ⟨k9, h9, -⟩ := Vm.findClass_spec hcl; exact ⟨k9, h9⟩) pre x suf hsplit
    (fun z hz => by
      rcases hpass z hz with h | ⟨hz0, nm, hl1, hn1⟩
      · exact Or.inl h
      · obtain ⟨c6, hc6, hcl6⟩ := Cond.classLink_spec hown hl1 e.platform hpl
        obtain ⟨a8, b8, h1, h2, h3⟩ := hn1
        cases Option.some.inj (h1.symm.trans hcl)
        cases Option.some.inj (h2.symm.trans hc6)
        exact Or.inr ⟨hz0, _, hcl6, h3⟩) hx (Or.inr ⟨h0, c4, hcl5, hasg⟩)
  obtain ⟨t, a1, b1⟩ := kk (T.setVm vm') hT X'
  exact ⟨t, st.trans a1, b1⟩
end Rows
section Ends
variable {p : Program} {l : Launch} {e : Env} {R : Room} {s : State} {m : MethodId} {args : Array Value} {below : List Frame} {meth : Method} {c : Code} {H : Heap} {locs : List Loc} {cells slots : Nat} {Q : State → Prop}
variable {mc ms : Nat} {free : Addr → Prop} {A0 A1 : Nat → Prop} {H0 : Heap} {a : Array Value} {ls : Array Slot} {st0 rest : List Value}
variable {Qc : Array Value → State → Outcome → State → Prop} {XC : String → State → State → Prop}
/-- what a body that may throw owes at its end -/
def vx_MQ (below : List Frame) (Qc : Array Value → State → Outcome → State → Prop) (XC : String → State → State → Prop) (a : Array Value) (s : State) (mc ms : Nat) (free : Addr → Prop) : State → Prop := fun t =>
  ∃ o, t.status = .running ∧ Ended t below o ∧ vx_Q Qc XC mc ms free a s o t
theorem vx_ret {g : JFrame} {mc ms : Nat} (k : W p l e R s m args below meth c H locs cells slots (MQ below Qc args s mc ms free) g) : W p l e R s m args below meth c H locs cells slots (vx_MQ below Qc XC args s mc ms free) g := by
  intro T hT X
  obtain ⟨t, a1, o, b1, b2, b3, b4⟩ := k T hT X
  exact ⟨t, a1, o, b1, b2, Or.inl ⟨b3, b4⟩⟩
/-- not caught here: it goes on to the caller -/
theorem vx_widen {g : JFrame} {q : Addr} {k n : Nat} (h1 : cells ≤ k) (h2 : slots ≤ n) (kk : vx_W p l e R s m args below meth c H locs k n Q g q) : vx_W p l e R s m args below meth c H locs cells slots Q g q := fun T hT X => kk T hT (stand_widen X h1 h2)
theorem vx_out {pc : Nat} {E : String} {ce : Cell} {q : Addr} {mc ms : Nat} (hout : ∀ x ∈ c.exceptionTable.toList, covers x pc = false) (hlocks : meth.locks = false) (hcell : H[q]? = some ce) (hv : ce.vm = .none) (hcl : s.vm.findClass E = some ce.cls)
    (hx : ∀ t : State, t.heap = H → s.vm.Alike t.vm → XC E s t) (hf : ∀ z ∈ locs, free z.base) (hc : cells ≤ mc) (hs : slots ≤ ms) :
    vx_W p l e R s m args below meth c H locs cells slots (vx_MQ below Qc XC args s mc ms free) (F0 m pc ls rest) q := by
  intro T hT X
  obtain ⟨st1, hrun, hend, hW, hsm⟩ := X.leaveThrown q (g := F0 m pc ls rest) rfl rfl rfl hout hlocks
  have hcell9 : (T.setFrames (.throwing q :: below)).heap[q]? = some ce := by
    show T.heap[q]? = some ce
    rw [hT]; exact hcell
  exact ⟨_, st1, .threw q, hrun, hend, Or.inr ⟨q, rfl, E, ce, locs, hx _ hT hW.alike, hcell9, hv, hcl, hW, hsm.mono hc hs, hf⟩⟩
theorem vx_frame {U : State} {k n : Nat} (h : s.sameButNew ({ U with vm := s.vm } : State) locs k n) : s.heap.size ≤ U.heap.size ∧ ∀ q : Nat, q < s.heap.size → (∀ z ∈ locs, z.base ≠ q) → U.heap[q]? = s.heap[q]? := by
  obtain ⟨-, h2, -, -, -, h6⟩ := h
  refine ⟨h2, fun q hq hz => ?_⟩
  obtain ⟨c9, e1, e2, e3, e4⟩ := h6 q _ (Array.getElem?_eq_getElem hq)
  have hs : c9.slots = (s.heap[q]).slots := Array.ext_getElem? fun i => e4 i fun hm => hz _ hm rfl
  have h9 : c9 = s.heap[q] := by
    rw [hs] at e2
    exact e2
  have e5 : U.heap[q]? = some c9 := e1
  rw [e5, h9, Array.getElem?_eq_getElem hq]
/-- the words of a throw but the four that speak of the heap -/
def vx_no (w : Cond) : Bool := decide (w ≠ .isRef (.static Bundle.tN "UNASSIGNED_STACK" Bundle.steD)) && decide (w ≠ .isRef (.static Bundle.tN "SUPPRESSED_SENTINEL" Bundle.listD)) && decide (w ≠ .laysStatic Bundle.tN "UNASSIGNED_STACK" Bundle.steD) && decide (w ≠ .laysStatic Bundle.tN "SUPPRESSED_SENTINEL" Bundle.listD)
def vx_at0 (own : String) (ic : Nat) (X : String) (names : List String) : List Cond := (Bundle.ownAtoms0 own ic X names).filter vx_no
def vx_atS (own : String) (ic : Nat) (X : String) (names : List String) : List Cond := (Bundle.ownAtoms own ic X names).filter vx_no
/-- a word that the tables alone decide, or a good one -/
def vx_ot (w : Cond) : Bool := w.onTables || goodWord w
theorem vx_ot_at {args a' : Array Value} {s U : State} {w : Cond} (hW : s.WarmedH U.vm) (hvm : s.vm = U.vm) (hg : vx_ot w = true) (h : w.before args s = true) : w.before a' U = true := by
  simp only [vx_ot, Bool.or_eq_true] at hg
  rcases hg with hg | hg
  · exact va_tabs hg hvm h
  · exact word_at hW (good_of_word hg) h
/-- a list's words: the good ones out of the method's own list, the others by premises of their own -/
theorem vx_hat {args : Array Value} {s : State} {L B : List Cond} (h1 : ∀ w ∈ L.filter goodWord, w.before args s = true) (h2 : ∀ w ∈ L.filter (fun w => !goodWord w), w ∈ B) (h3 : ∀ w ∈ B, w.before args s = true) : ∀ w ∈ L, w.before args s = true := by
  intro w hw
  by_cases g : goodWord w = true
  · exact h1 w (List.mem_filter.mpr ⟨hw, g⟩)
  · refine h3 w (h2 w (List.mem_filter.mpr ⟨hw, ?_⟩))
    show (!goodWord w) = true
    cases hgw : goodWord w
    · rfl
    · exact absurd hgw g
theorem vx_c {args : Array Value} {s : State} {w : Cond} {B : List Cond} (h : w.before args s = true) (t : ∀ w ∈ B, w.before args s = true) : ∀ w' ∈ w :: B, w'.before args s = true := fun w' h' => (List.mem_cons.mp h').elim (fun e => by rw [e]; exact h) (t w')
theorem vx_n {args : Array Value} {s : State} : ∀ w ∈ ([] : List Cond), w.before args s = true := fun _ h => nomatch h
theorem vx_own {args : Array Value} {s : State} {L : List Cond} (h1 : ∀ w ∈ L.filter vx_no, w.before args s = true)
    (hU : (Cond.isRef (.static Bundle.tN "UNASSIGNED_STACK" Bundle.steD)).before args s = true) (hN : (Cond.isRef (.static Bundle.tN "SUPPRESSED_SENTINEL" Bundle.listD)).before args s = true)
    (lU : (Cond.laysStatic Bundle.tN "UNASSIGNED_STACK" Bundle.steD).before args s = true) (lN : (Cond.laysStatic Bundle.tN "SUPPRESSED_SENTINEL" Bundle.listD).before args s = true) : ∀ w ∈ L, w.before args s = true := by
  intro w hw
  by_cases e1 : w = .isRef (.static Bundle.tN "UNASSIGNED_STACK" Bundle.steD)
  · rw [e1]; exact hU
  · by_cases e2 : w = .isRef (.static Bundle.tN "SUPPRESSED_SENTINEL" Bundle.listD)
    · rw [e2]; exact hN
    · by_cases e3 : w = .laysStatic Bundle.tN "UNASSIGNED_STACK" Bundle.steD
      · rw [e3]; exact lU
      · by_cases e4 : w = .laysStatic Bundle.tN "SUPPRESSED_SENTINEL" Bundle.listD
        · rw [e4]; exact lN
        · exact h1 w (List.mem_filter.mpr ⟨hw, by unfold vx_no; rw [decide_eq_true e1, decide_eq_true e2, decide_eq_true e3, decide_eq_true e4]; rfl⟩)
/-- where a static field lies, its class's statics cell in H -/
def vx_L (C n d : String) (A : Nat → Prop) (U : State) (H : Heap) : Prop := ∃ (c : ClassId) (k : Class) (i : Nat) (f : Field) (a : Nat) (cell : Cell), U.vm.findClass C = some c ∧ U.fieldFound? C n d = some (c, k, i, f) ∧ f.isStatic = true ∧ k.statics = some a ∧ H[a]? = some cell ∧ cell.vm.isStatics = true ∧ cell.cls = c ∧ f.slot < cell.slots.size ∧ k.staticTypes[f.slot]? = some f.type ∧ ¬ A a
theorem vx_L.moved {C n d : String} {A : Nat → Prop} {u U : State} {H : Heap} (hvm : u.vm.Alike U.vm) (h : vx_L C n d A u H) : vx_L C n d A U H := by
  obtain ⟨c, k, i, f, a, cell, h1, h2, h3, h4, h5, h6, h7, h8, h9, h10⟩ := h
  obtain ⟨k', hi', he⟩ := State.fieldFound?_setVm hvm h2
  exact ⟨c, k', i, f, a, cell, by rw [hvm.findClass]; exact h1, hi', h3, by rw [he]; exact h4, h5, h6, h7, h8, by rw [he]; exact h9, h10⟩
theorem vx_L.kept {C n d : String} {A : Nat → Prop} {U : State} {H H1 : Heap} (h : vx_L C n d A U H) (hq : ∀ a : Nat, a < H.size → ¬ A a → H1[a]? = H[a]?) : vx_L C n d A U H1 := by
  obtain ⟨c, k, i, f, a, cell, h1, h2, h3, h4, h5, h6, h7, h8, h9, h10⟩ := h
  exact ⟨c, k, i, f, a, cell, h1, h2, h3, h4, by rw [hq a (Array.getElem?_eq_some_iff.mp h5).1 h10]; exact h5, h6, h7, h8, h9, h10⟩
theorem vx_L.narrow {C n d : String} {A B : Nat → Prop} {U : State} {H : Heap} (h : vx_L C n d A U H) (hAB : ∀ q, B q → A q) : vx_L C n d B U H := by
  obtain ⟨c, k, i, f, a, cell, h1, h2, h3, h4, h5, h6, h7, h8, h9, h10⟩ := h
  exact ⟨c, k, i, f, a, cell, h1, h2, h3, h4, h5, h6, h7, h8, h9, fun z => h10 (hAB _ z)⟩
theorem vx_L.word {C n d : String} {A : Nat → Prop} {s : State} {args : Array Value} (h : vx_L C n d A s s.heap) : (Cond.laysStatic C n d).before args s = true := by
  obtain ⟨c, k, i, f, a, cell, h1, h2, h3, h4, h5, h6, h7, h8, h9, -⟩ := h
  show (Cond.laysStatic C n d).holds args s none s [] = true
  exact Cond.laysStatic_of h1 h2 h3 h4 h5 h6 h7 h8 h9
/-- .. and what it holds: null or some reference -/
def vx_Zq (C n d : String) (A : Nat → Prop) (U : State) (H : Heap) : Prop := va_Zq C n d A U H ∧ vx_L C n d A U H
theorem vx_Zq.moved {C n d : String} {A : Nat → Prop} {u U : State} {H : Heap} (hvm : u.vm.Alike U.vm) (h : vx_Zq C n d A u H) : vx_Zq C n d A U H := ⟨va_Zq.moved hvm h.1, vx_L.moved hvm h.2⟩
theorem vx_Zq.kept {C n d : String} {A : Nat → Prop} {U : State} {H H1 : Heap} (h : vx_Zq C n d A U H) (hq : ∀ a : Nat, a < H.size → ¬ A a → H1[a]? = H[a]?) : vx_Zq C n d A U H1 := ⟨va_Zq.kept h.1 hq, vx_L.kept h.2 hq⟩
theorem vx_Zq.narrow {C n d : String} {A B : Nat → Prop} {U : State} {H : Heap} (h : vx_Zq C n d A U H) (hAB : ∀ q, B q → A q) : vx_Zq C n d B U H := ⟨va_Zq.narrow h.1 hAB, vx_L.narrow h.2 hAB⟩
theorem vx_Zqof {args : Array Value} {s : State} {C n d : String} {A : Nat → Prop} (hl : (Cond.laysStatic C n d).before args s = true) (hini : (Cond.initialized C).before args s = true) (h : (Cond.isRef (.static C n d)).before args s = true) (hA : ∀ a : Nat, a < s.heap.size → ¬ A a) : vx_Zq C n d A s s.heap := by
  refine ⟨va_Zqof hl hini h hA, ?_⟩
  obtain ⟨c, k, i, f, a, cell, h1, h2, h3, h4, h5, h6, h7, h8, h9⟩ := Cond.laysStatic_spec hl
  exact ⟨c, k, i, f, a, cell, h1, h2, h3, h4, h5, h6, h7, h8, h9, hA a (Array.getElem?_eq_some_iff.mp h5).1⟩
theorem vx_isRef {C n d : String} {v : Value} {A : Nat → Prop} {s : State} {args : Array Value} (h : va_Z C n d v A s s.heap) (hv : v.isRef = true) : (Cond.isRef (.static C n d)).before args s = true := by
  obtain ⟨cf, kf, fi, f, a, cell, h1, h2, h3, h4, h5, h6, h7, -⟩ := h
  have he : (Term.static C n d).eval args s none [] s = some v := by
    simp [Term.eval, State.fieldNamed?, h1, h2, h4, h5, h6, h7]
  simp only [Cond.before, Cond.holds, Cond.value, he]
  cases v <;> simp_all [Value.isRef]
theorem vx_isRefq {C n d : String} {A : Nat → Prop} {s : State} {args : Array Value} (h : va_Zq C n d A s s.heap) : (Cond.isRef (.static C n d)).before args s = true := by
  rcases h with h | ⟨t, h⟩
  · exact vx_isRef h rfl
  · exact vx_isRef h rfl
/-- the same frame, seen from here: as if the method were called anew in this heap -/
theorem vx_rebase {T : State} (X : Stand p l e R s m args below meth c T locs cells slots) {R' : Room} (hf : R'.frames ≤ R.frames) (hl : R'.locals ≤ R.locals) (hc : cells + R'.cells ≤ R.cells) (hs : slots + R'.slots ≤ R.slots) :
    Stand p l e R' ((T.setVm s.vm).setFrames (.invoking m args :: below)) m args below meth c T [] 0 0 := by
  have htop : (T.setVm s.vm).topJava?.isSome := X.here.top
  have hF : ((T.setVm s.vm).setFrames (.invoking m args :: below)).frames = .invoking m args :: below := State.frames_setFrames _ (State.cur_lt_of_top htop)
  obtain ⟨g₀, hg0⟩ := Option.isSome_iff_exists.mp htop
  obtain ⟨r, hr⟩ := State.topJava?_eq_some.mp hg0
  have hl9 : e.platform.stackLimits (T.setVm s.vm).me = e.platform.stackLimits s.me := X.limits
  have hb9 : (T.setVm s.vm).me.stackBytes = s.me.stackBytes := X.bytes
  refine ⟨X.admits, X.cas, X.clock, hF, ?_, X.hears, X.method, X.code, X.here, X.tail, X.warmed, ?_, ?_, ?_⟩
  · have h := X.room
    have hU : ((T.setVm s.vm).setFrames (.invoking m args :: below)).localsInUse = s.localsInUse := by
      rw [State.localsInUse_invoking hF (meth := meth) (c := c) X.method X.code, State.localsInUse_invoking X.frames X.method X.code]
    simp only [State.hasRoom, Bool.and_eq_true, decide_eq_true_eq] at h ⊢
    obtain ⟨⟨⟨⟨h1, h2, h3, h4, h5, h6⟩, h7⟩, h8⟩, h9⟩ := h
    rw [X.frames, List.length_cons] at h2 h3
    have q1 := X.heapSize
    have q2 := X.used
    simp only [hF, hU, List.length_cons, State.stackLimits_setFrames, State.stackBytes_setFrames, hl9, hb9]
    refine ⟨⟨⟨⟨by omega, by omega, by omega, by omega, by omega, h6⟩, ?_⟩, ?_⟩, X.book⟩
    · show T.heap.size + R'.cells ≤ e.platform.maxCells
      omega
    · show T.slotsUsed + R'.slots ≤ e.platform.maxSlots
      omega
  · rw [State.stackLimits_setFrames]; rfl
  · rw [State.stackBytes_setFrames]; rfl
  · refine ⟨?_, Nat.le_refl _, Nat.le_refl _, ?_, ?_, fun a c9 h9 => ⟨c9, h9, rfl, rfl, fun _ _ => rfl⟩⟩
    · obtain ⟨t, ht, -⟩ := State.frames_cons hr
      show T.setVm s.vm = { ((T.setVm s.vm).setFrames (.invoking m args :: below)).setFrames (T.setVm s.vm).frames with heap := T.heap, slotsUsed := T.slotsUsed }
      rw [State.setFrames_setFrames, State.setFrames_self ht]
      rfl
    · show T.slotsUsed = T.slotsUsed + ((T.heap.toList.drop T.heap.size).map (·.slots.size)).sum
      rw [List.drop_eq_nil_of_le (Nat.le_of_eq Array.length_toList)]
      rfl
    · show ((T.heap.toList.drop T.heap.size).map (·.slots.size)).sum ≤ 0
      rw [List.drop_eq_nil_of_le (Nat.le_of_eq Array.length_toList)]
      exact Nat.le_refl _
/-- 'throw new E()': new; dup; invokespecial; athrow -/
theorem vx_throw0 {cc : ByteArray} {pc : Nat} (hexec : p.tables.exec = Jvm.exec) (hb : c.code = cc) (hl : l.stackTraces = false) {own cls : String} {names : List String} {ik ic mc ms : Nat} {A : Nat → Prop}
    (hown : s.vm.findClass own = some m.cls) (hcls : Bundle.fit cls = true) (hnames : ∀ n ∈ names, Bundle.fit n = true)
    (hk : (Cond.classLink own ik cls).before args s = true) (hini : (Cond.initialized cls).before args s = true) (hat : ∀ w ∈ vx_at0 own ic cls names, w.before args s = true)
    (hgood : ∀ w ∈ Cond.classLink own ik cls :: Cond.initialized cls :: vx_at0 own ic cls names, vx_ot w = true)
    (hU : vx_Zq Bundle.tN "UNASSIGNED_STACK" Bundle.steD A s s.heap) (hN : vx_Zq Bundle.tN "SUPPRESSED_SENTINEL" Bundle.listD A s s.heap) (hS : va_S A s.heap H locs) (hsize : ls.size = c.maxLocals)
    (d0 : decode cc pc = .ok (.new ik, 3)) (d3 : decode cc (pc + 3) = .ok (.dup, 1)) (d4 : decode cc (pc + 4) = .ok (.invokespecial ic, 3)) (d7 : decode cc (pc + 7) = .ok (.athrow, 1))
    (hout : ∀ x ∈ c.exceptionTable.toList, covers x (pc + 7) = false)
    (hRframes : names.length + 3 < R.frames) (hRlocals : (rest.map fun v => v.category).sum + (13 * (names.length + 1) + 42) ≤ R.locals) (hRcells : cells + 1 ≤ R.cells) (hRslots : slots + 6 ≤ R.slots) (hlocks : meth.locks = false)
    (hx : ∀ t : State, s.vm.Alike t.vm → H.size ≤ t.heap.size → (∀ q : Nat, q < H.size → t.heap[q]? = H[q]?) → XC cls s t)
    (hf : ∀ z ∈ locs, free z.base) (hc : cells + 1 ≤ mc) (hs : slots + 6 ≤ ms) :
    W p l e R s m args below meth c H locs cells slots (vx_MQ below Qc XC args s mc ms free) (F0 m pc ls rest) := by
  intro T hT X
  have htr : e.platform.stackTraces = false := (show e.platform.stackTraces = l.stackTraces by rw [X.admits.platform]).trans hl
  have Y := vx_rebase X (R' := { frames := R.frames, locals := R.locals, cells := 1, slots := 6 }) (Nat.le_refl _) (Nat.le_refl _) hRcells hRslots
  obtain ⟨s', hA⟩ : ∃ z, z = (T.setVm s.vm).setFrames (.invoking m args :: below) := ⟨_, rfl⟩
  rw [← hA] at Y
  have hvm : s'.vm = s.vm := by rw [hA]; rfl
  have hhp : s'.heap = H := by rw [hA]; exact hT
  have hW0 : s.WarmedH s'.vm := by rw [hvm]; exact State.WarmedH.refl s
  have hat' : ∀ w ∈ vx_at0 own ic cls names, w.before args s' = true := fun w hw => vx_ot_at hW0 hvm.symm (hgood w (List.mem_cons_of_mem _ (List.mem_cons_of_mem _ hw))) (hat w hw)
  have hk' : (Cond.classLink own ik cls).before args s' = true := vx_ot_at hW0 hvm.symm (hgood _ List.mem_cons_self) hk
  have hini' : (Cond.initialized cls).before args s' = true := vx_ot_at hW0 hvm.symm (hgood _ (List.mem_cons_of_mem _ List.mem_cons_self)) hini
  have hU' : vx_Zq Bundle.tN "UNASSIGNED_STACK" Bundle.steD A s' s'.heap := by rw [hhp]; exact vx_Zq.moved hW0.alike (hU.kept hS.2.1)
  have hN' : vx_Zq Bundle.tN "SUPPRESSED_SENTINEL" Bundle.listD A s' s'.heap := by rw [hhp]; exact vx_Zq.moved hW0.alike (hN.kept hS.2.1)
  have h : ∀ w ∈ Bundle.ownAtoms0 own ic cls names, w.before args s' = true := vx_own hat' (vx_isRefq hU'.1) (vx_isRefq hN'.1) hU'.2.word hN'.2.word
  have hown' : s'.vm.findClass own = some m.cls := by rw [hvm]; exact hown
  have hins : (Cond.instantiable cls 6).before args s' = true := h _ (by simp [Bundle.ownAtoms0])
  obtain ⟨vm₁, cX, kX, hfX, hkX, -, -, X₁, st1⟩ := Y.newCold hexec (own := own) (C := cls) (index := ik) (n := 6) hown' hk' hins hini'
    (g := F0 m pc ls rest) rfl (by rw [hb]; exact d0) (Nat.le_refl _) (Nat.le_refl _)
  generalize hT1 : (T.setVm vm₁).pushCell { cls := cX, slots := kX.instanceTypes.map defaultValue, vm := .none } = T1 at X₁ st1
  have hcat : (Value.ref T.heap.size).category = 1 := rfl
  have hcellA : T1.heap[T.heap.size]? = some (freshCell cX kX) := by rw [← hT1]; exact State.heap_pushCell_size _ _
  have d3' : decode c.code (pc + 3) = .ok (.dup, 1) := by rw [hb]; exact d3
  obtain ⟨U, hsteps, hrun, hend, hW, hsame, ce, hce, hO⟩ := X₁.ctorThrow0 hexec htr (own := own) (cls := cls) (names := names) (ic := ic) hown' hcls hnames h (fun x hx => nomatch hx) hfX hkX hcellA (by rw [hhp, hT]; exact Nat.le_refl _)
    (g := { method := m, pc := pc + 4, locals := ls, stack := .ref T.heap.size :: .ref T.heap.size :: rest, locked := none }) rfl hsize rfl rfl (rest := rest) rfl
    (by rw [hb]; exact d4) (by rw [hb]; exact d7) hout hRframes (by simp only [List.map_cons, List.sum_cons, hcat]; omega) hlocks
  obtain ⟨f1, f2⟩ := vx_frame hsame
  rw [hhp] at f1 f2
  have hWs : s.WarmedH U.vm := State.WarmedH.trans hW0 hW
  have hcl : s.vm.findClass cls = some ce.cls := by
    have h9 := hO.cls
    rw [hvm] at h9
    exact h9
  have hall : s.sameButNew ({ U with vm := s.vm } : State) locs mc ms := by
    subst hA
    obtain ⟨e1, e2⟩ := hsame
    rw [State.setFrames_setFrames] at e1
    have h2 : (T.setVm s.vm).sameButNew ({ U with vm := s.vm } : State) [] (0 + 1) (0 + 6) := ⟨e1, e2⟩
    have h3 := X.same.trans h2
    rw [List.append_nil] at h3
    exact h3.mono hc hs
  refine ⟨U, ?_, .threw T.heap.size, hrun, hend, Or.inr ⟨T.heap.size, rfl, cls, ce, locs, hx U hWs.alike f1 (fun q hq => f2 q hq (fun z hz => nomatch hz)), hce, hO.vm, hcl, hWs, hall, hf⟩⟩
  refine st1 _ ?_
  show Steps p.tables e below (T1.setTop { method := m, pc := pc + 3, locals := ls, stack := .ref T.heap.size :: rest, locked := none }) _
  jvm_step X₁.here [X₁.here.top, hexec, d3', Value.category]
  exact hsteps
/-- 'throw new E("text")': new; dup; ldc; invokespecial; athrow -/
theorem vx_throwS {cc : ByteArray} {pc : Nat} (hexec : p.tables.exec = Jvm.exec) (hb : c.code = cc) (hl : l.stackTraces = false) {own cls text : String} {names : List String} {ik is ic mc ms sa : Nat} {A : Nat → Prop}
    (hown : s.vm.findClass own = some m.cls) (hcls : Bundle.fit cls = true) (hnames : ∀ n ∈ names, Bundle.fit n = true)
    (hk : (Cond.classLink own ik cls).before args s = true) (hini : (Cond.initialized cls).before args s = true) (hstr : vk_R own is text sa s) (hat : ∀ w ∈ vx_atS own ic cls names, w.before args s = true)
    (hgood : ∀ w ∈ Cond.classLink own ik cls :: Cond.initialized cls :: vx_atS own ic cls names, vx_ot w = true)
    (hU : vx_Zq Bundle.tN "UNASSIGNED_STACK" Bundle.steD A s s.heap) (hN : vx_Zq Bundle.tN "SUPPRESSED_SENTINEL" Bundle.listD A s s.heap) (hS : va_S A s.heap H locs) (hsize : ls.size = c.maxLocals)
    (d0 : decode cc pc = .ok (.new ik, 3)) (d3 : decode cc (pc + 3) = .ok (.dup, 1)) (d4 : decode cc (pc + 4) = .ok (.ldc is, 2)) (d6 : decode cc (pc + 6) = .ok (.invokespecial ic, 3)) (d9 : decode cc (pc + 9) = .ok (.athrow, 1))
    (hout : ∀ x ∈ c.exceptionTable.toList, covers x (pc + 9) = false)
    (hRframes : names.length + 3 < R.frames) (hRlocals : (rest.map fun v => v.category).sum + (13 * (names.length + 1) + 43) ≤ R.locals) (hRcells : cells + 1 ≤ R.cells) (hRslots : slots + 6 ≤ R.slots) (hlocks : meth.locks = false)
    (hx : ∀ t : State, s.vm.Alike t.vm → H.size ≤ t.heap.size → (∀ q : Nat, q < H.size → t.heap[q]? = H[q]?) → XC cls s t)
    (hf : ∀ z ∈ locs, free z.base) (hc : cells + 1 ≤ mc) (hs : slots + 6 ≤ ms) :
    W p l e R s m args below meth c H locs cells slots (vx_MQ below Qc XC args s mc ms free) (F0 m pc ls rest) := by
  intro T hT X
  have htr : e.platform.stackTraces = false := (show e.platform.stackTraces = l.stackTraces by rw [X.admits.platform]).trans hl
  have Y := vx_rebase X (R' := { frames := R.frames, locals := R.locals, cells := 1, slots := 6 }) (Nat.le_refl _) (Nat.le_refl _) hRcells hRslots
  obtain ⟨s', hA⟩ : ∃ z, z = (T.setVm s.vm).setFrames (.invoking m args :: below) := ⟨_, rfl⟩
  rw [← hA] at Y
  have hvm : s'.vm = s.vm := by rw [hA]; rfl
  have hhp : s'.heap = H := by rw [hA]; exact hT
  have hW0 : s.WarmedH s'.vm := by rw [hvm]; exact State.WarmedH.refl s
  have hat' : ∀ w ∈ vx_atS own ic cls names, w.before args s' = true := fun w hw => vx_ot_at hW0 hvm.symm (hgood w (List.mem_cons_of_mem _ (List.mem_cons_of_mem _ hw))) (hat w hw)
  have hk' : (Cond.classLink own ik cls).before args s' = true := vx_ot_at hW0 hvm.symm (hgood _ List.mem_cons_self) hk
  have hini' : (Cond.initialized cls).before args s' = true := vx_ot_at hW0 hvm.symm (hgood _ (List.mem_cons_of_mem _ List.mem_cons_self)) hini
  have hU' : vx_Zq Bundle.tN "UNASSIGNED_STACK" Bundle.steD A s' s'.heap := by rw [hhp]; exact vx_Zq.moved hW0.alike (hU.kept hS.2.1)
  have hN' : vx_Zq Bundle.tN "SUPPRESSED_SENTINEL" Bundle.listD A s' s'.heap := by rw [hhp]; exact vx_Zq.moved hW0.alike (hN.kept hS.2.1)
  have h : ∀ w ∈ Bundle.ownAtoms own ic cls names, w.before args s' = true := vx_own hat' (vx_isRefq hU'.1) (vx_isRefq hN'.1) hU'.2.word hN'.2.word
  have hown' : s'.vm.findClass own = some m.cls := by rw [hvm]; exact hown
  have hins : (Cond.instantiable cls 6).before args s' = true := h _ (by simp [Bundle.ownAtoms])
  obtain ⟨vm₁, cX, kX, hfX, hkX, -, -, X₁, st1⟩ := Y.newCold hexec (own := own) (C := cls) (index := ik) (n := 6) hown' hk' hins hini'
    (g := F0 m pc ls rest) rfl (by rw [hb]; exact d0) (Nat.le_refl _) (Nat.le_refl _)
  generalize hT1 : (T.setVm vm₁).pushCell { cls := cX, slots := kX.instanceTypes.map defaultValue, vm := .none } = T1 at X₁ st1
  have hcat : (Value.ref T.heap.size).category = 1 := rfl
  have hcellA : T1.heap[T.heap.size]? = some (freshCell cX kX) := by rw [← hT1]; exact State.heap_pushCell_size _ _
  have d3' : decode c.code (pc + 3) = .ok (.dup, 1) := by rw [hb]; exact d3
  have d4' : decode c.code (pc + 4) = .ok (.ldc is, 2) := by rw [hb]; exact d4
  have hstr' : vk_R own is text sa s' := vk_R.warm hW0 hstr
  obtain ⟨U, hsteps, hrun, hend, hW, hsame, ce, hce, hO⟩ := X₁.ctorThrowS hexec htr (own := own) (cls := cls) (names := names) (ic := ic) hown' hcls hnames h (fun x hx => nomatch hx) hfX hkX hcellA (by rw [hhp, hT]; exact Nat.le_refl _) (msg := .ref sa) rfl
    (g := { method := m, pc := pc + 6, locals := ls, stack := .ref sa :: .ref T.heap.size :: .ref T.heap.size :: rest, locked := none }) rfl hsize rfl rfl (rest := rest) rfl
    (by rw [hb]; exact d6) (by rw [hb]; exact d9) hout hRframes (by simp only [List.map_cons, List.sum_cons, hcat]; omega) hlocks
  obtain ⟨f1, f2⟩ := vx_frame hsame
  rw [hhp] at f1 f2
  have hWs : s.WarmedH U.vm := State.WarmedH.trans hW0 hW
  have hcl : s.vm.findClass cls = some ce.cls := by
    have h9 := hO.cls
    rw [hvm] at h9
    exact h9
  have hall : s.sameButNew ({ U with vm := s.vm } : State) locs mc ms := by
    subst hA
    obtain ⟨e1, e2⟩ := hsame
    rw [State.setFrames_setFrames] at e1
    have h2 : (T.setVm s.vm).sameButNew ({ U with vm := s.vm } : State) [] (0 + 1) (0 + 6) := ⟨e1, e2⟩
    have h3 := X.same.trans h2
    rw [List.append_nil] at h3
    exact h3.mono hc hs
  refine ⟨U, ?_, .threw T.heap.size, hrun, hend, Or.inr ⟨T.heap.size, rfl, cls, ce, locs, hx U hWs.alike f1 (fun q hq => f2 q hq (fun z hz => nomatch hz)), hce, hO.vm, hcl, hWs, hall, hf⟩⟩
  refine st1 _ ?_
  show Steps p.tables e below (T1.setTop { method := m, pc := pc + 3, locals := ls, stack := .ref T.heap.size :: rest, locked := none }) _
  jvm_step X₁.here [X₁.here.top, hexec, d3', Value.category]
  exact X₁.ldcString hexec (own := own) (text := text) (index := is) (a := sa) hown' hstr'.1 hstr'.2
    (g := { method := m, pc := pc + 4, locals := ls, stack := .ref T.heap.size :: .ref T.heap.size :: rest, locked := none }) rfl d4' _ hsteps
/-- 'throw new E("text")', the text by a wide index -/
theorem vx_throwSW {cc : ByteArray} {pc : Nat} (hexec : p.tables.exec = Jvm.exec) (hb : c.code = cc) (hl : l.stackTraces = false) {own cls text : String} {names : List String} {ik is ic mc ms sa : Nat} {A : Nat → Prop}
    (hown : s.vm.findClass own = some m.cls) (hcls : Bundle.fit cls = true) (hnames : ∀ n ∈ names, Bundle.fit n = true)
    (hk : (Cond.classLink own ik cls).before args s = true) (hini : (Cond.initialized cls).before args s = true) (hstr : vk_R own is text sa s) (hat : ∀ w ∈ vx_atS own ic cls names, w.before args s = true)
    (hgood : ∀ w ∈ Cond.classLink own ik cls :: Cond.initialized cls :: vx_atS own ic cls names, vx_ot w = true)
    (hU : vx_Zq Bundle.tN "UNASSIGNED_STACK" Bundle.steD A s s.heap) (hN : vx_Zq Bundle.tN "SUPPRESSED_SENTINEL" Bundle.listD A s s.heap) (hS : va_S A s.heap H locs) (hsize : ls.size = c.maxLocals)
    (d0 : decode cc pc = .ok (.new ik, 3)) (d3 : decode cc (pc + 3) = .ok (.dup, 1)) (d4 : decode cc (pc + 4) = .ok (.ldc_w is, 3)) (d7 : decode cc (pc + 7) = .ok (.invokespecial ic, 3)) (d10 : decode cc (pc + 10) = .ok (.athrow, 1))
    (hout : ∀ x ∈ c.exceptionTable.toList, covers x (pc + 10) = false)
    (hRframes : names.length + 3 < R.frames) (hRlocals : (rest.map fun v => v.category).sum + (13 * (names.length + 1) + 43) ≤ R.locals) (hRcells : cells + 1 ≤ R.cells) (hRslots : slots + 6 ≤ R.slots) (hlocks : meth.locks = false)
    (hx : ∀ t : State, s.vm.Alike t.vm → H.size ≤ t.heap.size → (∀ q : Nat, q < H.size → t.heap[q]? = H[q]?) → XC cls s t)
    (hf : ∀ z ∈ locs, free z.base) (hc : cells + 1 ≤ mc) (hs : slots + 6 ≤ ms) :
    W p l e R s m args below meth c H locs cells slots (vx_MQ below Qc XC args s mc ms free) (F0 m pc ls rest) := by
  intro T hT X
  have htr : e.platform.stackTraces = false := (show e.platform.stackTraces = l.stackTraces by rw [X.admits.platform]).trans hl
  have Y := vx_rebase X (R' := { frames := R.frames, locals := R.locals, cells := 1, slots := 6 }) (Nat.le_refl _) (Nat.le_refl _) hRcells hRslots
  obtain ⟨s', hA⟩ : ∃ z, z = (T.setVm s.vm).setFrames (.invoking m args :: below) := ⟨_, rfl⟩
  rw [← hA] at Y
  have hvm : s'.vm = s.vm := by rw [hA]; rfl
  have hhp : s'.heap = H := by rw [hA]; exact hT
  have hW0 : s.WarmedH s'.vm := by rw [hvm]; exact State.WarmedH.refl s
  have hat' : ∀ w ∈ vx_atS own ic cls names, w.before args s' = true := fun w hw => vx_ot_at hW0 hvm.symm (hgood w (List.mem_cons_of_mem _ (List.mem_cons_of_mem _ hw))) (hat w hw)
  have hk' : (Cond.classLink own ik cls).before args s' = true := vx_ot_at hW0 hvm.symm (hgood _ List.mem_cons_self) hk
  have hini' : (Cond.initialized cls).before args s' = true := vx_ot_at hW0 hvm.symm (hgood _ (List.mem_cons_of_mem _ List.mem_cons_self)) hini
  have hU' : vx_Zq Bundle.tN "UNASSIGNED_STACK" Bundle.steD A s' s'.heap := by rw [hhp]; exact vx_Zq.moved hW0.alike (hU.kept hS.2.1)
  have hN' : vx_Zq Bundle.tN "SUPPRESSED_SENTINEL" Bundle.listD A s' s'.heap := by rw [hhp]; exact vx_Zq.moved hW0.alike (hN.kept hS.2.1)
  have h : ∀ w ∈ Bundle.ownAtoms own ic cls names, w.before args s' = true := vx_own hat' (vx_isRefq hU'.1) (vx_isRefq hN'.1) hU'.2.word hN'.2.word
  have hown' : s'.vm.findClass own = some m.cls := by rw [hvm]; exact hown
  have hins : (Cond.instantiable cls 6).before args s' = true := h _ (by simp [Bundle.ownAtoms])
  obtain ⟨vm₁, cX, kX, hfX, hkX, -, -, X₁, st1⟩ := Y.newCold hexec (own := own) (C := cls) (index := ik) (n := 6) hown' hk' hins hini'
    (g := F0 m pc ls rest) rfl (by rw [hb]; exact d0) (Nat.le_refl _) (Nat.le_refl _)
  generalize hT1 : (T.setVm vm₁).pushCell { cls := cX, slots := kX.instanceTypes.map defaultValue, vm := .none } = T1 at X₁ st1
  have hcat : (Value.ref T.heap.size).category = 1 := rfl
  have hcellA : T1.heap[T.heap.size]? = some (freshCell cX kX) := by rw [← hT1]; exact State.heap_pushCell_size _ _
  have d3' : decode c.code (pc + 3) = .ok (.dup, 1) := by rw [hb]; exact d3
  have d4' : decode c.code (pc + 4) = .ok (.ldc_w is, 3) := by rw [hb]; exact d4
  have hstr' : vk_R own is text sa s' := vk_R.warm hW0 hstr
  obtain ⟨U, hsteps, hrun, hend, hW, hsame, ce, hce, hO⟩ := X₁.ctorThrowS hexec htr (own := own) (cls := cls) (names := names) (ic := ic) hown' hcls hnames h (fun x hx => nomatch hx) hfX hkX hcellA (by rw [hhp, hT]; exact Nat.le_refl _) (msg := .ref sa) rfl
    (g := { method := m, pc := pc + 7, locals := ls, stack := .ref sa :: .ref T.heap.size :: .ref T.heap.size :: rest, locked := none }) rfl hsize rfl rfl (rest := rest) rfl
    (by rw [hb]; exact d7) (by rw [hb]; exact d10) hout hRframes (by simp only [List.map_cons, List.sum_cons, hcat]; omega) hlocks
  obtain ⟨f1, f2⟩ := vx_frame hsame
  rw [hhp] at f1 f2
  have hWs : s.WarmedH U.vm := State.WarmedH.trans hW0 hW
  have hcl : s.vm.findClass cls = some ce.cls := by
    have h9 := hO.cls
    rw [hvm] at h9
    exact h9
  have hall : s.sameButNew ({ U with vm := s.vm } : State) locs mc ms := by
    subst hA
    obtain ⟨e1, e2⟩ := hsame
    rw [State.setFrames_setFrames] at e1
    have h2 : (T.setVm s.vm).sameButNew ({ U with vm := s.vm } : State) [] (0 + 1) (0 + 6) := ⟨e1, e2⟩
    have h3 := X.same.trans h2
    rw [List.append_nil] at h3
    exact h3.mono hc hs
  refine ⟨U, ?_, .threw T.heap.size, hrun, hend, Or.inr ⟨T.heap.size, rfl, cls, ce, locs, hx U hWs.alike f1 (fun q hq => f2 q hq (fun z hz => nomatch hz)), hce, hO.vm, hcl, hWs, hall, hf⟩⟩
  refine st1 _ ?_
  show Steps p.tables e below (T1.setTop { method := m, pc := pc + 3, locals := ls, stack := .ref T.heap.size :: rest, locked := none }) _
  jvm_step X₁.here [X₁.here.top, hexec, d3', Value.category]
  exact X₁.ldcStringW hexec (own := own) (text := text) (index := is) (a := sa) hown' hstr'.1 hstr'.2
    (g := { method := m, pc := pc + 4, locals := ls, stack := .ref T.heap.size :: .ref T.heap.size :: rest, locked := none }) rfl d4' _ hsteps
end Ends
section Bodies
variable {l : Launch}
theorem vx_ofW {y : MethodName} {ws ws' : List Cond} {rm : Room} {Pc : Array Value → State → Prop} {Qc : Array Value → State → Outcome → State → Prop} {XC : String → State → State → Prop} {mc ms : Nat} {free : Addr → Prop} {cc : ByteArray} {maxL : Nat} {ret : Option FieldType}
    (hy : plainName y.cls = true) (hw : ws = Cond.code y cc maxL ret :: ws')
    (body : ∀ p e s m args below meth c s₁, BodyLoose p l y (headSpec ws rm) cc maxL ret e s m args below meth c s₁ → c.maxLocals = maxL → (∀ x ∈ c.exceptionTable.toList, False) → Pc args s →
      W p l e (headSpec ws rm).room s m args below meth c s.heap [] 0 0 (vx_MQ below Qc XC args s mc ms free) (entryFrame m args maxL)) : vx_Met l y ws rm Pc Qc XC mc ms free := by
  refine MetFree.of_bodyS (code := cc) (maxLocals := maxL) (ret := ret) hy ?_ ?_
  · intro args s m h hn
    obtain ⟨meth, c, h1, h2, h3, h4, h5, h6, -, -⟩ := Cond.code_spec hn (atoms_spec (ws := ws) h _ (by rw [hw]; exact List.mem_cons_self))
    exact ⟨meth, c, h1, h2, h3, h4, h5, h6⟩
  · intro p e s m args below meth c s₁ B hml hP _
    have hh0 : s₁.heap = s.heap := by rw [B.state]; rfl
    have ht : ∀ x ∈ c.exceptionTable.toList, False := by
      obtain ⟨meth9, c9, h1, h2, -, -, -, -, h7, -⟩ := Cond.code_spec B.named (atoms_spec (ws := ws) B.pre _ (by rw [hw]; exact List.mem_cons_self))
      cases Option.some.inj (h1.symm.trans B.method)
      cases Option.some.inj (h2.symm.trans (Stand.of_body B).code)
      intro x hx
      rw [Array.isEmpty_iff.mp h7] at hx
      cases hx
    obtain ⟨t, a1, o, b1, b2, b3⟩ := body p e s m args below meth c s₁ B hml ht hP s₁ hh0 (Stand.of_body B)
    exact ⟨t, o, a1, b1, b2, b3⟩
/-- the table of a body with handlers -/
theorem vx_table {p : Program} {x y : MethodName} {S : Spec} {cc bytes : ByteArray} {maxL maxL' : Nat} {ret ret' : Option FieldType} {e : Env} {s s₁ : State} {m : MethodId} {args : Array Value} {below : List Frame} {meth : Method} {c : Code} {hh : List (Nat × Nat × Nat × Nat)}
    (B : BodyLoose p l y S cc maxL ret e s m args below meth c s₁) (h : (Cond.codeWith y bytes maxL' ret' hh).before args s = true) : c.exceptionTable.toList = tableOf hh := by
  obtain ⟨m9, meth9, c9, hn9, h1, h2, -, -, h6, -⟩ := Cond.codeWith_spec h
  cases Option.some.inj (hn9.symm.trans B.named)
  cases Option.some.inj (h1.symm.trans B.method)
  cases Option.some.inj (h2.symm.trans (Stand.of_body B).code)
  rw [← h6, table_eq]
end Bodies
end VXA
/-! ===== END ===== -/
/-! ===== BEGIN a static call of a method with an exception table ===== -/
section VXS
variable {p : Program} {l : Launch} {e : Env} {R : Room} {s : State} {m : MethodId} {args : Array Value} {below : List Frame} {meth : Method} {c : Code} {T : State} {H : Heap} {locs : List Loc} {cells slots : Nat}
abbrev vx_CSW (R : Room) (s : State) (args : Array Value) (own : String) (index : Nat) (y : MethodName) (bytes : ByteArray) (maxL : Nat) (ret : Option FieldType) (hh : List (Nat × Nat × Nat × Nat)) (ws : List Cond) (rm : Room) (mc ms n : Nat) : Prop :=
  (rm.cells = mc ∧ rm.slots = ms ∧ rm.frames + 1 ≤ R.frames ∧ 8 + (maxL + 11) + rm.locals ≤ R.locals ∧ (∀ w ∈ ws, ∀ (a' : Array Value) (U : State), s.WarmedH U.vm → w.before a' U = true) ∧ Cond.codeWith y bytes maxL ret hh ∈ ws) ∧
  (Cond.codeWith y bytes maxL ret hh).before args s = true ∧ (Cond.initialized y.cls).before args s = true ∧ (y.cls ≠ "java/lang/invoke/MethodHandle" ∧ y.cls ≠ "java/lang/invoke/VarHandle") ∧
  (∀ sig, parseMethodDescriptor y.desc = some sig → n = sig.parameters.length) ∧ (Cond.methodLink own index y).before args s = true ∧ (Cond.static y).before args s = true
theorem vx_cwSW {own : String} {index maxL mc ms : Nat} {y : MethodName} {bytes : ByteArray} {ret : Option FieldType} {hh : List (Nat × Nat × Nat × Nat)} {Ts ws ws' : List Cond} {rm : Room} (n : Nat) (ht : ∀ w ∈ Ts, w.before args s = true) (hT : GoodIn Ts (va_wsS own index y ws)) (hw : ws = Cond.codeWith y bytes maxL ret hh :: ws') (hrc : rm.cells = mc) (hrs : rm.slots = ms)
    (hd : y.cls ≠ "java/lang/invoke/MethodHandle" ∧ y.cls ≠ "java/lang/invoke/VarHandle" ∧ (parseMethodDescriptor y.desc).map (fun d => d.parameters.length) = some n) (hR : rm.frames + 1 ≤ R.frames ∧ 8 + (maxL + 11) + rm.locals ≤ R.locals) :
    vx_CSW R s args own index y bytes maxL ret hh ws rm mc ms n := by
  have ok : ∀ w ∈ va_wsS own index y ws, w.before args s = true := fun w h => ht w (hT w h).1
  have hG : GoodIn Ts ws := fun w h => hT w (by unfold va_wsS; exact List.mem_append_right _ h)
  have hc : Cond.codeWith y bytes maxL ret hh ∈ ws := by rw [hw]; exact List.mem_cons_self
  refine ⟨⟨hrc, hrs, hR.1, hR.2, pay_in ht hG, hc⟩, ht _ (hG _ hc).1, ok _ (by simp [va_wsS]), ⟨hd.1, hd.2.1⟩, fun sig h => ?_, ok _ (by simp [va_wsS]), ok _ (by simp [va_wsS])⟩
  have h2 := hd.2.2
  rw [h] at h2
  exact (Option.some.inj h2).symm
theorem vx_callSW (X : Stand p l e R s m args below meth c T locs cells slots) (hexec : p.tables.exec = Jvm.exec) {own : String} {index : Nat} {y : MethodName} {bytes : ByteArray} {maxL : Nat} {ret : Option FieldType} {hh : List (Nat × Nat × Nat × Nat)}
    (hown : s.vm.findClass own = some m.cls) (hlink : (Cond.methodLink own index y).before args s = true) (hstat : (Cond.static y).before args s = true) (hinit : (Cond.initialized y.cls).before args s = true)
    (hcode : (Cond.codeWith y bytes maxL ret hh).before args s = true) (hy : y.cls ≠ "java/lang/invoke/MethodHandle" ∧ y.cls ≠ "java/lang/invoke/VarHandle")
    {W9 : Nat} {Pre : Pt → Array Value → Prop} {Post : Pt → Array Value → Option Value → Pt → Prop} (hK : Back l R p e below s args y 3 W9 Pre Post)
    {g : JFrame} (hg : g.method = m) (hsize : g.locals.size = c.maxLocals) {argsL rest : List Value} (hlen : ∀ sig, parseMethodDescriptor y.desc = some sig → argsL.length = sig.parameters.length)
    (hstack : g.stack = argsL.reverse ++ rest) (hW : 2 * g.monitorRoom + (rest.map fun v => v.category).sum ≤ W9) (hdg : decode c.code g.pc = .ok (.invokestatic index, 3))
    (hpre : ∀ vm₁, s.WarmedH vm₁ → Pre ⟨T.setVm vm₁, locs, cells, slots⟩ argsL.toArray) :
    ∃ (v : Option Value) (vm₁ : Vm) (B : Pt), s.WarmedH vm₁ ∧ Stand p l e R s m args below meth c B.U B.locs B.cells B.slots ∧ Post ⟨T.setVm vm₁, locs, cells, slots⟩ argsL.toArray v B ∧
      ∀ target, Steps p.tables e below (B.U.setTop { g with pc := g.pc + 3, stack := v.toList ++ rest }) target → Steps p.tables e below (T.setTop g) target := by
  obtain ⟨mk, methM, cM, hnamed, hmethM, -, -, -, -, -, -, hsigM⟩ := Cond.codeWith_spec hcode
  have hstatic : methM.isStatic = true := Cond.static_spec hnamed hmethM hstat
  obtain ⟨kP, hkP, -⟩ := className_of_methodNamed hnamed
  have hinitP : kP.init = .initialized := Cond.initialized_spec (findClass_of_methodNamed hnamed) hkP hinit
  obtain ⟨vm₁, X₁, hstep₁⟩ := X.invokestatic hexec hown hlink hnamed hmethM hstatic hkP hinitP hy (g := g) hg (argsL := argsL) (rest := rest) (hlen _ hsigM) hstack hdg
  obtain ⟨v, B, X', hpost, hsteps⟩ := hK m meth c ⟨T.setVm vm₁, locs, cells, slots⟩ { g with stack := rest } (.invokestatic index) mk argsL.toArray X₁ hg hsize hdg hW (X₁.named hnamed) (hpre vm₁ X₁.warmed)
  exact ⟨v, vm₁, B, X₁.warmed, X', hpost, fun target h => hstep₁ _ fun acts => by rw [doInvoke_state]; exact hsteps.trans h⟩
theorem vx_runSW {y : MethodName} {bytes cc : ByteArray} {maxL nL mc ms n index : Nat} {ret : Option FieldType} {hh : List (Nat × Nat × Nat × Nat)} {ws : List Cond} {rm : Room} {Pc : Array Value → State → Prop} {Qc : Array Value → State → Outcome → State → Prop} {free : Addr → Prop} {Ts : List Cond} {own : String} {As rest : List Value} {g : JFrame}
    (S : CallFix p m c cc nL s args Ts own) (hM : Met l y ws rm Pc Qc mc ms free) (cw : vx_CSW R s args own index y bytes maxL ret hh ws rm mc ms n) (hp : PreS s H Pc As)
    (hg : g.method = m) (hn : As.length = n) (hsize : g.locals.size = nL) (hstack : g.stack = As.reverse ++ rest) (hW : 2 * g.monitorRoom + (rest.map fun v => v.category).sum ≤ 8) (hdg : decode cc g.pc = .ok (.invokestatic index, 3)) (hf : cells + mc ≤ R.cells ∧ slots + ms ≤ R.slots) :
    va_Run p l e R s m args below meth c H locs cells slots mc ms g rest (Qc As.toArray) (free) := by
  obtain ⟨⟨hrc, hrs, hfr, hlo, hws, hcw⟩, hcode, hini, hy, hlen, hl, hstt⟩ := cw
  have hK : Back l R p e below s args y 3 8 (PreOf R mc ms Pc) (PostOf Qc mc ms free) := va_backW (hh := hh) (bytes := bytes) (maxL := maxL) (ret := ret) hM hp.1 hrc hrs hfr hlo hws hcw (fun a' U hW => word_at hW (Or.inl (by first | rfl | simp [Cond.onTables, Cond.keeps, Cond.steady])) hini)
  obtain ⟨hx, hb, hml, ho, -⟩ := S
  intro T hT X
  obtain ⟨v, vm₁, ⟨U', l2, c2, s2⟩, hW₁, X', ⟨g', mk, t, L, e1, e2, hq, h1, hL, h2, h3⟩, st⟩ := vx_callSW X hx (hh := hh) (bytes := bytes) (maxL := maxL) (ret := ret) ho hl hstt hini hcode hy hK hg (hsize.trans hml.symm) (argsL := As) (rest := rest) (fun sig h => hn.trans (hlen sig h)) hstack hW (by rw [hb]; exact hdg)
    (fun vm₁ hW₁ => ⟨hf.1, hf.2, hp.2 (T.setVm vm₁) hT hW₁⟩)
  dsimp only [Pt.U, Pt.locs, Pt.cells, Pt.slots] at X' e1 e2 h1 h2 h3 st
  subst h1; subst h2; subst h3
  exact ⟨v, (T.setVm vm₁).calling g' mk As.toArray, t, U', L, hT, X', hL, e1, e2, hq, st⟩
/-- not caught here, past rows that name other classes: it goes on to the caller -/
theorem vx_outP {p : Program} {l : Launch} {e : Env} {R : Room} {s : State} {m : MethodId} {args : Array Value} {below : List Frame} {meth : Method} {c : Code} {H : Heap} {locs : List Loc} {cells slots : Nat} {free : Addr → Prop} {ls : Array Slot} {rest : List Value} {Qc : Array Value → State → Outcome → State → Prop} {XC : String → State → State → Prop}
    {pc : Nat} {own E : String} {ce : Cell} {q : Addr} {mc ms : Nat} (hown : s.vm.findClass own = some m.cls) (hlocks : meth.locks = false)
    (hpass : ∀ z ∈ c.exceptionTable.toList, covers z pc = false ∨ (z.catchType ≠ 0 ∧ ∃ nm : String, (Cond.classLink own z.catchType nm).before args s = true ∧ va_Nc E nm s)) (hcell : H[q]? = some ce) (hv : ce.vm = .none) (hcl : s.vm.findClass E = some ce.cls)
    (hx : ∀ t : State, t.heap = H → s.vm.Alike t.vm → XC E s t) (hf : ∀ z ∈ locs, free z.base) (hc : cells ≤ mc) (hs : slots ≤ ms) :
    vx_W p l e R s m args below meth c H locs cells slots (vx_MQ below Qc XC args s mc ms free) (F0 m pc ls rest) q := by
  intro T hT X
  have hpl : e.platform.magicAccessors = ({} : Platform).magicAccessors := by rw [X.admits.platform]
  obtain ⟨vm', hW', X', st⟩ := X.outThrough hlocks q (g := F0 m pc ls rest) rfl rfl rfl (cell := ce) (by rw [hT]; exact hcell) (by rw [hv]; rfl)
    (by obtain ⟨k9, h9, -⟩ := Vm.findClass_spec hcl; exact ⟨k9, h9⟩) (fun z hz => by
      rcases hpass z hz with h | ⟨hz0, nm, hl1, hn1⟩
      · exact Or.inl h
      · obtain ⟨c6, hc6, hcl6⟩ := Cond.classLink_spec hown hl1 e.platform hpl
        obtain ⟨a8, b8, h1, h2, h3⟩ := hn1
        cases Option.some.inj (h1.symm.trans hcl)
        cases Option.some.inj (h2.symm.trans hc6)
        exact Or.inr ⟨hz0, _, hcl6, h3⟩)
  obtain ⟨g₀, hfr⟩ := X'.frames_eq
  have hcell9 : ((T.setVm vm').setFrames (.throwing q :: below)).heap[q]? = some ce := by
    show T.heap[q]? = some ce
    rw [hT]; exact hcell
  have hend : Ended ((T.setVm vm').setFrames (.throwing q :: below)) below (.threw q) := State.frames_setFrames _ (State.cur_lt_of_frames hfr)
  refine ⟨(T.setVm vm').setFrames (.throwing q :: below), ?_, .threw q, X'.here.running, hend, Or.inr ⟨q, rfl, E, ce, locs, hx _ hT (X'.ends _).1.alike, hcell9, hv, hcl, (X'.ends _).1, (X'.ends _).2.mono hc hs, hf⟩⟩
  rw [X.pushThrowing_eq]
  exact st
/-- a thing of a world lies in the heap -/
theorem vx_lt {D : va_G} {cl : List vw_C} {ws : va_W} {H1 : Heap} (h : va_P D cl ws H1) {k : Nat} {q : Nat × va_E} (hk : ws[k]? = some q) : q.1 < H1.size := (h k q hk).lt
end VXS
/-! ===== END ===== -/
/-! ===== BEGIN methods with a table of their own: called by a name, returning or throwing ===== -/
section VXH
/-! vx_backW, vx_callVX, vx_callSX, vx_callVW, vx_runVW, vx_runVX, vx_runSX, vx_ofWH follow the same proofs as their sisters above (Free/Laws.lean, Shelf42/LK1.lean); vx_outP calls Shelf42/NT130.lean (outThrough). -/
section
variable {l : Launch} {R : Room} {p : Program} {e : Env} {below : List Frame} {s : State} {sargs : Array Value} {y : MethodName} {len W9 : Nat}
theorem vx_backW {ws : List Cond} {rm : Room} {Pc : Array Value → State → Prop} {Qc : Array Value → State → Outcome → State → Prop} {XC : String → State → State → Prop} {mc ms : Nat} {free : Addr → Prop} {bytes : ByteArray} {maxL : Nat} {ret : Option FieldType} {hh : List (Nat × Nat × Nat × Nat)}
    (hM : vx_Met l y ws rm Pc Qc XC mc ms free) (hblind : FrameBlind Pc) (hrc : rm.cells = mc) (hrs : rm.slots = ms)
    (hframes : rm.frames + 1 ≤ R.frames) (hlocals : W9 + (maxL + 11) + rm.locals ≤ R.locals)
    (hws : ∀ w ∈ ws, ∀ a' U, s.WarmedH U.vm → w.before a' U = true) (hcode : Cond.codeWith y bytes maxL ret hh ∈ ws) (hinit : ∀ a' U, s.WarmedH U.vm → (Cond.initialized y.cls).before a' U = true) :
    vx_Back l R p e below s sargs y len W9 (PreOf R mc ms Pc) (PostOf Qc mc ms free) (vx_Post XC mc ms free) := by
  intro m meth c A g ig mk a X hg hsize hdg hW hn hp
  have h1 : (headSpec ws rm).pre.before a A.U = true := atoms_intro fun w hw => hws w hw _ _ X.warmed
  have h2 : (Cond.codeWith y bytes maxL ret hh).before a A.U = true := hws _ hcode _ _ X.warmed
  have h3 : (Cond.initialized y.cls).before a A.U = true := hinit _ _ X.warmed
  have h4 : A.cells + (headSpec ws rm).room.cells ≤ R.cells := by rw [show (headSpec ws rm).room.cells = mc from hrc]; exact hp.1
  have h5 : A.slots + (headSpec ws rm).room.slots ≤ R.slots := by rw [show (headSpec ws rm).room.slots = ms from hrs]; exact hp.2.1
  have hPc : Pc a (A.U.calling g mk a) := hblind _ _ _ _ hp.2.2
  obtain ⟨U, Ls, c0, s0⟩ := A
  dsimp only [Pt.U, Pt.locs, Pt.cells, Pt.slots] at h1 h2 h3 h4 h5 X hn hPc ⊢
  obtain ⟨m9, methY, cY, hn9, hmY, hcY, -, hlY, -⟩ := Cond.codeWith_spec h2
  cases Option.some.inj (hn9.symm.trans hn)
  obtain ⟨kY, hkY, -⟩ := className_of_methodNamed hn
  have hinitY : kY.init = .initialized := Cond.initialized_spec (findClass_of_methodNamed hn) hkY h3
  have h : At U g.method c below := by rw [hg]; exact X.here
  have hlocals9 : W9 + (maxL + 11) + (headSpec ws rm).room.locals ≤ R.locals := hlocals
  have happ : (headSpec ws rm).appliesLoose y e.platform (U.calling g mk a) = true :=
    Spec.appliesLoose_calling (g := g) h hdg hn hkY hinitY
      (X.room_calling (g := g) (R' := (headSpec ws rm).room) hsize hmY hcY hframes (by rw [hlY]; omega) h4 h5) h1
  obtain ⟨mid, hmid⟩ := h.above
  have hfr : (U.setTop g).frames = (.java g :: mid) ++ below := by rw [State.frames_setTop' g h.top, hmid]; rfl
  obtain ⟨o, s₂, hsteps, -, hend, hq⟩ := Steps.callFree hM p X.admits X.cas X.clock (acts := []) hfr happ hPc trivial
  have hq' : vx_Q Qc XC mc ms free a (U.calling g mk a) o s₂ := hq
  rw [State.frames_setTop' g h.top] at hend
  obtain ⟨g₀, hg0⟩ := Option.isSome_iff_exists.mp h.top
  obtain ⟨r, hr⟩ := State.topJava?_eq_some.mp hg0
  have hr' : (({ U with heap := s₂.heap, slotsUsed := s₂.slotsUsed } : State).setVm s₂.vm).frames = .java g₀ :: r := hr
  rcases hq' with ⟨hqc, L, hfe, hL⟩ | ⟨q, rfl, E, ce, L, hx, hce, hcv, hcl, hW₂, hsm, hL⟩
  · obtain ⟨⟨v, rfl⟩, hW₂, e2, q2, q3, q4, q5, q6⟩ := id hfe
    have e3 : s₂ = ({ (U.calling g mk a).setFrames s₂.frames with heap := s₂.heap, slotsUsed := s₂.slotsUsed } : State).setVm s₂.vm := by
      have : s₂ = ({ s₂ with vm := (U.calling g mk a).vm } : State).setVm s₂.vm := rfl
      rw [e2] at this
      exact this
    obtain ⟨c₂, i₂, len₂, hc₂, hd₂, hf₂⟩ := hend
    have hW' : U.WarmedH s₂.vm := hW₂
    have hcc : c₂ = c := by
      have h1 : s₂.code? g.method = U.code? g.method := by
        rw [State.code?_eq, State.code?_eq, hW'.alike.method?]
      exact Option.some.inj (hc₂.symm.trans (h1.trans h.code))
    subst hcc
    have hlen : len₂ = len := by rw [hdg] at hd₂; cases hd₂; rfl
    subst hlen
    have hs₂ : s₂ = (({ U with heap := s₂.heap, slotsUsed := s₂.slotsUsed } : State).setVm s₂.vm).setTop { g with pc := g.pc + len₂, stack := v.toList ++ g.stack } := by
      refine e3.trans ?_
      rw [hf₂, State.calling_eq h.top, State.setFrames_setFrames, State.setTop_of_frames _ hr', hr]
      rfl
    have hsame : U.sameButNew ({ U with heap := s₂.heap, slotsUsed := s₂.slotsUsed } : State) L mc ms := by
      refine ⟨?_, q2, q3, q4, q5, q6⟩
      obtain ⟨t, ht, -⟩ := State.frames_cons hr
      show ({ U with heap := s₂.heap, slotsUsed := s₂.slotsUsed } : State) = { U.setFrames U.frames with heap := s₂.heap, slotsUsed := s₂.slotsUsed }
      rw [State.setFrames_self ht]
    subst hg
    refine Or.inl ⟨v, ⟨(({ U with heap := s₂.heap, slotsUsed := s₂.slotsUsed } : State).setVm s₂.vm), Ls ++ L, c0 + mc, s0 + ms⟩,
      ⟨X.admits, X.cas, X.clock, X.frames, X.room, X.hears, X.method, X.code, (X.here.setHeapUsed s₂.heap s₂.slotsUsed).setVm hW'.alike, X.tail, State.WarmedH.trans X.warmed hW', X.limits, X.bytes, X.same.trans (hsame.setVm s.vm)⟩,
      ⟨g, mk, s₂, L, rfl, rfl, hqc, rfl, hL, rfl, rfl⟩, ?_⟩
    show Steps p.tables e below _ ((({ U with heap := s₂.heap, slotsUsed := s₂.slotsUsed } : State).setVm s₂.vm).setTop { g with pc := g.pc + len₂, stack := v.toList ++ g.stack })
    rw [← hs₂]
    exact hsteps
  · obtain ⟨e2, q2, q3, q4, q5, q6⟩ := id hsm
    have e3 : s₂ = ({ (U.calling g mk a).setFrames s₂.frames with heap := s₂.heap, slotsUsed := s₂.slotsUsed } : State).setVm s₂.vm := by
      have : s₂ = ({ s₂ with vm := (U.calling g mk a).vm } : State).setVm s₂.vm := rfl
      rw [e2] at this
      exact this
    have hf₂ : s₂.frames = .throwing q :: .java g :: U.frames.tail := hend
    have hW' : U.WarmedH s₂.vm := hW₂
    have hs₂ : s₂ = ((({ U with heap := s₂.heap, slotsUsed := s₂.slotsUsed } : State).setVm s₂.vm).setTop g).pushFrame (.throwing q) := by
      refine e3.trans ?_
      rw [hf₂, State.calling_eq h.top, State.setFrames_setFrames, State.pushFrame, State.frames_setTop _ hr', State.setTop_of_frames _ hr', State.setFrames_setFrames, hr]
      rfl
    have hsame : U.sameButNew ({ U with heap := s₂.heap, slotsUsed := s₂.slotsUsed } : State) L mc ms := by
      refine ⟨?_, q2, q3, q4, q5, q6⟩
      obtain ⟨t, ht, -⟩ := State.frames_cons hr
      show ({ U with heap := s₂.heap, slotsUsed := s₂.slotsUsed } : State) = { U.setFrames U.frames with heap := s₂.heap, slotsUsed := s₂.slotsUsed }
      rw [State.setFrames_self ht]
    subst hg
    refine Or.inr ⟨q, ⟨(({ U with heap := s₂.heap, slotsUsed := s₂.slotsUsed } : State).setVm s₂.vm), Ls ++ L, c0 + mc, s0 + ms⟩,
      ⟨X.admits, X.cas, X.clock, X.frames, X.room, X.hears, X.method, X.code, (X.here.setHeapUsed s₂.heap s₂.slotsUsed).setVm hW'.alike, X.tail, State.WarmedH.trans X.warmed hW', X.limits, X.bytes, X.same.trans (hsame.setVm s.vm)⟩,
      ⟨g, mk, s₂, L, E, ce, rfl, rfl, hx, hce, hcv, hcl, rfl, hL, rfl, rfl⟩, ?_⟩
    show Steps p.tables e below _ (((({ U with heap := s₂.heap, slotsUsed := s₂.slotsUsed } : State).setVm s₂.vm).setTop g).pushFrame (.throwing q))
    rw [← hs₂]
    exact hsteps
end
variable {p : Program} {l : Launch} {e : Env} {R : Room} {s : State} {m : MethodId} {args : Array Value} {below : List Frame} {meth : Method} {c : Code} {T : State} {H : Heap} {locs : List Loc} {cells slots : Nat}
theorem vx_callVX (X : Stand p l e R s m args below meth c T locs cells slots) (hexec : p.tables.exec = Jvm.exec) {own C : String} {index : Nat} {y : MethodName} {bytes : ByteArray} {maxL : Nat} {ret : Option FieldType} {hh : List (Nat × Nat × Nat × Nat)}
    (hown : s.vm.findClass own = some m.cls) (hlink : (Cond.methodLink own index y).before args s = true) (hinst : (Cond.instanceMethod y).before args s = true) (hsel : (Cond.selects C y y).before args s = true)
    (hcode : (Cond.codeWith y bytes maxL ret hh).before args s = true) (hy : y.cls ≠ "java/lang/invoke/MethodHandle" ∧ y.cls ≠ "java/lang/invoke/VarHandle")
    {W9 : Nat} {Pre : Pt → Array Value → Prop} {Post : Pt → Array Value → Option Value → Pt → Prop} {PostX : Pt → Array Value → Addr → Pt → Prop} (hK : vx_Back l R p e below s args y 3 W9 Pre Post PostX)
    {b : Addr} {cellB : Cell} (hcell : T.heap[b]? = some cellB) (hobj : cellB.vm.isStatics = false) (hcls : s.vm.findClass C = some cellB.cls)
    {g : JFrame} (hg : g.method = m) (hsize : g.locals.size = c.maxLocals) {argsL rest : List Value} (hlen : ∀ sig, parseMethodDescriptor y.desc = some sig → argsL.length = sig.parameters.length)
    (hstack : g.stack = argsL.reverse ++ .ref b :: rest) (hW : 2 * g.monitorRoom + (rest.map fun v => v.category).sum ≤ W9) (hdg : decode c.code g.pc = .ok (.invokevirtual index, 3))
    (hpre : ∀ vm₁, s.WarmedH vm₁ → Pre ⟨T.setVm vm₁, locs, cells, slots⟩ (Value.ref b :: argsL).toArray) :
    (∃ (v : Option Value) (vm₁ : Vm) (B : Pt), s.WarmedH vm₁ ∧ Stand p l e R s m args below meth c B.U B.locs B.cells B.slots ∧ Post ⟨T.setVm vm₁, locs, cells, slots⟩ (Value.ref b :: argsL).toArray v B ∧
      ∀ target, Steps p.tables e below (B.U.setTop { g with pc := g.pc + 3, stack := v.toList ++ rest }) target → Steps p.tables e below (T.setTop g) target) ∨
    (∃ (q : Addr) (vm₁ : Vm) (B : Pt), s.WarmedH vm₁ ∧ Stand p l e R s m args below meth c B.U B.locs B.cells B.slots ∧ PostX ⟨T.setVm vm₁, locs, cells, slots⟩ (Value.ref b :: argsL).toArray q B ∧
      Steps p.tables e below (T.setTop g) ((B.U.setTop { g with stack := rest }).pushFrame (.throwing q))) := by
  obtain ⟨mk, methM, hnamed, hmethM, hstM, habM⟩ := Cond.instanceMethod_spec hinst
  obtain ⟨m8, methM', cM, hn8, hmethM', -, -, -, -, -, -, hsigM⟩ := Cond.codeWith_spec hcode
  cases Option.some.inj (hn8.symm.trans hnamed)
  cases hmethM.symm.trans hmethM'
  obtain ⟨c2, r2, m2, q1, q2, q3, q4, kP, hkP, hkPi⟩ := Cond.selects_spec hsel
  cases hcls.symm.trans q1
  cases (State.methodFound?_of_named hnamed hy).symm.trans q2
  cases hnamed.symm.trans q3
  have hselP : selectMethod e.platform s.vm cellB.cls mk = .method mk := by rw [Launch.admits_selectMethod X.admits]; exact q4
  obtain ⟨vm₁, X₁, hstep₁⟩ := X.invokevirtual hexec hown hlink hnamed hmethM hstM hkP hkPi hy (a := b) (cell := cellB) hcell
    (fun z h => by rw [h] at hobj; cases hobj) hselP hmethM habM hkP hkPi (g := g) hg (argsL := argsL) (rest := rest) (hlen _ hsigM) hstack hdg
  rcases hK m meth c ⟨T.setVm vm₁, locs, cells, slots⟩ { g with stack := rest } (.invokevirtual index) mk (Value.ref b :: argsL).toArray X₁ hg hsize hdg hW (X₁.named hnamed) (hpre vm₁ X₁.warmed) with ⟨v, B, X', hpost, hsteps⟩ | ⟨q, B, X', hpost, hsteps⟩
  · exact Or.inl ⟨v, vm₁, B, X₁.warmed, X', hpost, fun target h => hstep₁ _ fun acts => by rw [doInvoke_state]; exact hsteps.trans h⟩
  · exact Or.inr ⟨q, vm₁, B, X₁.warmed, X', hpost, hstep₁ _ fun acts => by rw [doInvoke_state]; exact hsteps⟩
theorem vx_callSX (X : Stand p l e R s m args below meth c T locs cells slots) (hexec : p.tables.exec = Jvm.exec) {own : String} {index : Nat} {y : MethodName} {bytes : ByteArray} {maxL : Nat} {ret : Option FieldType} {hh : List (Nat × Nat × Nat × Nat)}
    (hown : s.vm.findClass own = some m.cls) (hlink : (Cond.methodLink own index y).before args s = true) (hstat : (Cond.static y).before args s = true) (hinit : (Cond.initialized y.cls).before args s = true)
    (hcode : (Cond.codeWith y bytes maxL ret hh).before args s = true) (hy : y.cls ≠ "java/lang/invoke/MethodHandle" ∧ y.cls ≠ "java/lang/invoke/VarHandle")
    {W9 : Nat} {Pre : Pt → Array Value → Prop} {Post : Pt → Array Value → Option Value → Pt → Prop} {PostX : Pt → Array Value → Addr → Pt → Prop} (hK : vx_Back l R p e below s args y 3 W9 Pre Post PostX)
    {g : JFrame} (hg : g.method = m) (hsize : g.locals.size = c.maxLocals) {argsL rest : List Value} (hlen : ∀ sig, parseMethodDescriptor y.desc = some sig → argsL.length = sig.parameters.length)
    (hstack : g.stack = argsL.reverse ++ rest) (hW : 2 * g.monitorRoom + (rest.map fun v => v.category).sum ≤ W9) (hdg : decode c.code g.pc = .ok (.invokestatic index, 3))
    (hpre : ∀ vm₁, s.WarmedH vm₁ → Pre ⟨T.setVm vm₁, locs, cells, slots⟩ argsL.toArray) :
    (∃ (v : Option Value) (vm₁ : Vm) (B : Pt), s.WarmedH vm₁ ∧ Stand p l e R s m args below meth c B.U B.locs B.cells B.slots ∧ Post ⟨T.setVm vm₁, locs, cells, slots⟩ argsL.toArray v B ∧
      ∀ target, Steps p.tables e below (B.U.setTop { g with pc := g.pc + 3, stack := v.toList ++ rest }) target → Steps p.tables e below (T.setTop g) target) ∨
    (∃ (q : Addr) (vm₁ : Vm) (B : Pt), s.WarmedH vm₁ ∧ Stand p l e R s m args below meth c B.U B.locs B.cells B.slots ∧ PostX ⟨T.setVm vm₁, locs, cells, slots⟩ argsL.toArray q B ∧
      Steps p.tables e below (T.setTop g) ((B.U.setTop { g with stack := rest }).pushFrame (.throwing q))) := by
  obtain ⟨mk, methM, cM, hnamed, hmethM, -, -, -, -, -, -, hsigM⟩ := Cond.codeWith_spec hcode
  have hstatic : methM.isStatic = true := Cond.static_spec hnamed hmethM hstat
  obtain ⟨kP, hkP, -⟩ := className_of_methodNamed hnamed
  have hinitP : kP.init = .initialized := Cond.initialized_spec (findClass_of_methodNamed hnamed) hkP hinit
  obtain ⟨vm₁, X₁, hstep₁⟩ := X.invokestatic hexec hown hlink hnamed hmethM hstatic hkP hinitP hy (g := g) hg (argsL := argsL) (rest := rest) (hlen _ hsigM) hstack hdg
  rcases hK m meth c ⟨T.setVm vm₁, locs, cells, slots⟩ { g with stack := rest } (.invokestatic index) mk argsL.toArray X₁ hg hsize hdg hW (X₁.named hnamed) (hpre vm₁ X₁.warmed) with ⟨v, B, X', hpost, hsteps⟩ | ⟨q, B, X', hpost, hsteps⟩
  · exact Or.inl ⟨v, vm₁, B, X₁.warmed, X', hpost, fun target h => hstep₁ _ fun acts => by rw [doInvoke_state]; exact hsteps.trans h⟩
  · exact Or.inr ⟨q, vm₁, B, X₁.warmed, X', hpost, hstep₁ _ fun acts => by rw [doInvoke_state]; exact hsteps⟩
theorem vx_callVW (X : Stand p l e R s m args below meth c T locs cells slots) (hexec : p.tables.exec = Jvm.exec) {own C : String} {index : Nat} {y : MethodName} {bytes : ByteArray} {maxL : Nat} {ret : Option FieldType} {hh : List (Nat × Nat × Nat × Nat)}
    (hown : s.vm.findClass own = some m.cls) (hlink : (Cond.methodLink own index y).before args s = true) (hinst : (Cond.instanceMethod y).before args s = true) (hsel : (Cond.selects C y y).before args s = true)
    (hcode : (Cond.codeWith y bytes maxL ret hh).before args s = true) (hy : y.cls ≠ "java/lang/invoke/MethodHandle" ∧ y.cls ≠ "java/lang/invoke/VarHandle")
    {W9 : Nat} {Pre : Pt → Array Value → Prop} {Post : Pt → Array Value → Option Value → Pt → Prop} (hK : Back l R p e below s args y 3 W9 Pre Post)
    {b : Addr} {cellB : Cell} (hcell : T.heap[b]? = some cellB) (hobj : cellB.vm.isStatics = false) (hcls : s.vm.findClass C = some cellB.cls)
    {g : JFrame} (hg : g.method = m) (hsize : g.locals.size = c.maxLocals) {argsL rest : List Value} (hlen : ∀ sig, parseMethodDescriptor y.desc = some sig → argsL.length = sig.parameters.length)
    (hstack : g.stack = argsL.reverse ++ .ref b :: rest) (hW : 2 * g.monitorRoom + (rest.map fun v => v.category).sum ≤ W9) (hdg : decode c.code g.pc = .ok (.invokevirtual index, 3))
    (hpre : ∀ vm₁, s.WarmedH vm₁ → Pre ⟨T.setVm vm₁, locs, cells, slots⟩ (Value.ref b :: argsL).toArray) :
    ∃ (v : Option Value) (vm₁ : Vm) (B : Pt), s.WarmedH vm₁ ∧ Stand p l e R s m args below meth c B.U B.locs B.cells B.slots ∧ Post ⟨T.setVm vm₁, locs, cells, slots⟩ (Value.ref b :: argsL).toArray v B ∧
      ∀ target, Steps p.tables e below (B.U.setTop { g with pc := g.pc + 3, stack := v.toList ++ rest }) target → Steps p.tables e below (T.setTop g) target := by
  obtain ⟨mk, methM, hnamed, hmethM, hstM, habM⟩ := Cond.instanceMethod_spec hinst
  obtain ⟨m8, methM', cM, hn8, hmethM', -, -, -, -, -, -, hsigM⟩ := Cond.codeWith_spec hcode
  cases Option.some.inj (hn8.symm.trans hnamed)
  cases hmethM.symm.trans hmethM'
  obtain ⟨c2, r2, m2, q1, q2, q3, q4, kP, hkP, hkPi⟩ := Cond.selects_spec hsel
  cases hcls.symm.trans q1
  cases (State.methodFound?_of_named hnamed hy).symm.trans q2
  cases hnamed.symm.trans q3
  have hselP : selectMethod e.platform s.vm cellB.cls mk = .method mk := by rw [Launch.admits_selectMethod X.admits]; exact q4
  obtain ⟨vm₁, X₁, hstep₁⟩ := X.invokevirtual hexec hown hlink hnamed hmethM hstM hkP hkPi hy (a := b) (cell := cellB) hcell
    (fun z h => by rw [h] at hobj; cases hobj) hselP hmethM habM hkP hkPi (g := g) hg (argsL := argsL) (rest := rest) (hlen _ hsigM) hstack hdg
  obtain ⟨v, B, X', hpost, hsteps⟩ := hK m meth c ⟨T.setVm vm₁, locs, cells, slots⟩ { g with stack := rest } (.invokevirtual index) mk (Value.ref b :: argsL).toArray X₁ hg hsize hdg hW (X₁.named hnamed) (hpre vm₁ X₁.warmed)
  exact ⟨v, vm₁, B, X₁.warmed, X', hpost, fun target h => hstep₁ _ fun acts => by rw [doInvoke_state]; exact hsteps.trans h⟩
abbrev vx_CVW (R : Room) (s : State) (args : Array Value) (own C : String) (index : Nat) (y : MethodName) (bytes : ByteArray) (maxL : Nat) (ret : Option FieldType) (hh : List (Nat × Nat × Nat × Nat)) (ws : List Cond) (rm : Room) (mc ms n : Nat) : Prop :=
  (rm.cells = mc ∧ rm.slots = ms ∧ rm.frames + 1 ≤ R.frames ∧ 8 + (maxL + 11) + rm.locals ≤ R.locals ∧ (∀ w ∈ ws, ∀ (a' : Array Value) (U : State), s.WarmedH U.vm → w.before a' U = true) ∧ Cond.codeWith y bytes maxL ret hh ∈ ws) ∧
  (Cond.codeWith y bytes maxL ret hh).before args s = true ∧ (Cond.initialized y.cls).before args s = true ∧ (y.cls ≠ "java/lang/invoke/MethodHandle" ∧ y.cls ≠ "java/lang/invoke/VarHandle") ∧
  (∀ sig, parseMethodDescriptor y.desc = some sig → n = sig.parameters.length) ∧ (Cond.methodLink own index y).before args s = true ∧ (Cond.instanceMethod y).before args s = true ∧ (Cond.selects C y y).before args s = true
theorem vx_cwVW {own C : String} {index maxL mc ms : Nat} {y : MethodName} {bytes : ByteArray} {ret : Option FieldType} {hh : List (Nat × Nat × Nat × Nat)} {Ts ws ws' : List Cond} {rm : Room} (n : Nat) (ht : ∀ w ∈ Ts, w.before args s = true) (hT : GoodIn Ts (wsV own index C y ws)) (hw : ws = Cond.codeWith y bytes maxL ret hh :: ws') (hrc : rm.cells = mc) (hrs : rm.slots = ms)
    (hd : y.cls = C ∧ y.cls ≠ "java/lang/invoke/MethodHandle" ∧ y.cls ≠ "java/lang/invoke/VarHandle" ∧ (parseMethodDescriptor y.desc).map (fun d => d.parameters.length) = some n) (hR : rm.frames + 1 ≤ R.frames ∧ 8 + (maxL + 11) + rm.locals ≤ R.locals) :
    vx_CVW R s args own C index y bytes maxL ret hh ws rm mc ms n := by
  obtain ⟨hC, hd⟩ := hd
  subst hC
  have ok : ∀ w ∈ wsV own index y.cls y ws, w.before args s = true := fun w h => ht w (hT w h).1
  have hG : GoodIn Ts ws := fun w h => hT w (by unfold wsV; exact List.mem_append_right _ h)
  have hc : Cond.codeWith y bytes maxL ret hh ∈ ws := by rw [hw]; exact List.mem_cons_self
  refine ⟨⟨hrc, hrs, hR.1, hR.2, pay_in ht hG, hc⟩, ht _ (hG _ hc).1, ok _ (by simp [wsV]), ⟨hd.1, hd.2.1⟩, fun sig h => ?_, ok _ (by simp [wsV]), ok _ (by simp [wsV]), ok _ (by simp [wsV])⟩
  have h2 := hd.2.2
  rw [h] at h2
  exact (Option.some.inj h2).symm
theorem vx_runVW {y : MethodName} {bytes cc : ByteArray} {maxL nL mc ms n index : Nat} {ret : Option FieldType} {hh : List (Nat × Nat × Nat × Nat)} {ws : List Cond} {rm : Room} {Pc : Array Value → State → Prop} {Qc : Array Value → State → Outcome → State → Prop} {free : Addr → Prop} {Ts : List Cond} {own C : String} {b : Addr} {As rest : List Value} {g : JFrame}
    (S : CallFix p m c cc nL s args Ts own) (hM : Met l y ws rm Pc Qc mc ms free) (cw : vx_CVW R s args own C index y bytes maxL ret hh ws rm mc ms n) (hp : PreV s H C b Pc As)
    (hg : g.method = m) (hn : As.length = n) (hsize : g.locals.size = nL) (hstack : g.stack = As.reverse ++ .ref b :: rest) (hW : 2 * g.monitorRoom + (rest.map fun v => v.category).sum ≤ 8) (hdg : decode cc g.pc = .ok (.invokevirtual index, 3)) (hf : cells + mc ≤ R.cells ∧ slots + ms ≤ R.slots) :
    va_Run p l e R s m args below meth c H locs cells slots mc ms g rest (Qc (Value.ref b :: As).toArray) free := by
  obtain ⟨⟨hrc, hrs, hfr, hlo, hws, hcw⟩, hcode, hini, hy, hlen, hl, hin, hse⟩ := cw
  have hK : Back l R p e below s args y 3 8 (PreOf R mc ms Pc) (PostOf Qc mc ms free) := va_backW (hh := hh) (bytes := bytes) (maxL := maxL) (ret := ret) hM hp.1 hrc hrs hfr hlo hws hcw (fun a' U hW => word_at hW (Or.inl (by first | rfl | simp [Cond.onTables, Cond.keeps, Cond.steady])) hini)
  obtain ⟨hx, hb, hml, ho, -⟩ := S
  obtain ⟨-, ⟨cellB, hcB, hoB, hclB⟩, hPc⟩ := hp
  intro T hT X
  obtain ⟨v, vm₁, ⟨U', l2, c2, s2⟩, hW₁, X', ⟨g', mk, t, L, e1, e2, hq, h1, hL, h2, h3⟩, st⟩ := vx_callVW X hx (C := C) (hh := hh) (bytes := bytes) (maxL := maxL) (ret := ret) ho hl hin hse hcode hy hK (by rw [hT]; exact hcB) hoB hclB hg (hsize.trans hml.symm) (argsL := As) (rest := rest) (fun sig h => hn.trans (hlen sig h)) hstack hW (by rw [hb]; exact hdg)
    (fun vm₁ hW₁ => ⟨hf.1, hf.2, hPc (T.setVm vm₁) hT hW₁⟩)
  dsimp only [Pt.U, Pt.locs, Pt.cells, Pt.slots] at X' e1 e2 h1 h2 h3 st
  subst h1; subst h2; subst h3
  exact ⟨v, (T.setVm vm₁).calling g' mk (Value.ref b :: As).toArray, t, U', L, hT, X', hL, e1, e2, hq, st⟩
section
variable {y : MethodName} {bytes cc : ByteArray} {maxL nL mc ms n index : Nat} {ret : Option FieldType} {ws : List Cond} {rm : Room} {Pc : Array Value → State → Prop} {Qc : Array Value → State → Outcome → State → Prop} {XC : String → State → State → Prop} {free : Addr → Prop} {Ts : List Cond} {own C : String} {b : Addr} {As rest : List Value} {g : JFrame}
theorem vx_runVX {hh : List (Nat × Nat × Nat × Nat)} (S : CallFix p m c cc nL s args Ts own) (hM : vx_Met l y ws rm Pc Qc XC mc ms free) (cw : vx_CVW R s args own C index y bytes maxL ret hh ws rm mc ms n) (hp : PreV s H C b Pc As)
    (hg : g.method = m) (hn : As.length = n) (hsize : g.locals.size = nL) (hstack : g.stack = As.reverse ++ .ref b :: rest) (hW : 2 * g.monitorRoom + (rest.map fun v => v.category).sum ≤ 8) (hdg : decode cc g.pc = .ok (.invokevirtual index, 3)) (hf : cells + mc ≤ R.cells ∧ slots + ms ≤ R.slots) :
    vx_Run p l e R s m args below meth c H locs cells slots mc ms g rest (Qc (Value.ref b :: As).toArray) XC free := by
  obtain ⟨⟨hrc, hrs, hfr, hlo, hws, hcw⟩, hcode, hini, hy, hlen, hl, hin, hse⟩ := cw
  have hK : vx_Back l R p e below s args y 3 8 (PreOf R mc ms Pc) (PostOf Qc mc ms free) (vx_Post XC mc ms free) := vx_backW (hh := hh) (bytes := bytes) (maxL := maxL) (ret := ret) hM hp.1 hrc hrs hfr hlo hws hcw (fun a' U hW => word_at hW (Or.inl (by first | rfl | simp [Cond.onTables, Cond.keeps, Cond.steady])) hini)
  obtain ⟨hx, hb, hml, ho, -⟩ := S
  obtain ⟨-, ⟨cellB, hcB, hoB, hclB⟩, hPc⟩ := hp
  intro T hT X
  rcases vx_callVX X hx (C := C) (hh := hh) (bytes := bytes) (maxL := maxL) (ret := ret) ho hl hin hse hcode hy hK (by rw [hT]; exact hcB) hoB hclB hg (hsize.trans hml.symm) (argsL := As) (rest := rest) (fun sig h => hn.trans (hlen sig h)) hstack hW (by rw [hb]; exact hdg)
    (fun vm₁ hW₁ => ⟨hf.1, hf.2, hPc (T.setVm vm₁) hT hW₁⟩) with ⟨v, vm₁, ⟨U', l2, c2, s2⟩, hW₁, X', ⟨g', mk, t, L, e1, e2, hq, h1, hL, h2, h3⟩, st⟩ | ⟨q, vm₁, ⟨U', l2, c2, s2⟩, hW₁, X', ⟨g', mk, t, L, E, ce, e1, e2, hq, hce, hcv, hcl, h1, hL, h2, h3⟩, st⟩
  · dsimp only [Pt.U, Pt.locs, Pt.cells, Pt.slots] at X' e1 e2 h1 h2 h3 st
    subst h1; subst h2; subst h3
    exact Or.inl ⟨v, (T.setVm vm₁).calling g' mk (Value.ref b :: As).toArray, t, U', L, hT, X', hL, e1, e2, hq, st⟩
  · dsimp only [Pt.U, Pt.locs, Pt.cells, Pt.slots] at X' e1 e2 h1 h2 h3 st hcl
    subst h1; subst h2; subst h3
    exact Or.inr ⟨q, (T.setVm vm₁).calling g' mk (Value.ref b :: As).toArray, t, U', L, E, ce, hT, X', hL, e1, e2, hq, hce, hcv, vx_cls hW₁ hcl, st⟩
theorem vx_runSX {hh : List (Nat × Nat × Nat × Nat)} (S : CallFix p m c cc nL s args Ts own) (hM : vx_Met l y ws rm Pc Qc XC mc ms free) (cw : vx_CSW R s args own index y bytes maxL ret hh ws rm mc ms n) (hp : PreS s H Pc As)
    (hg : g.method = m) (hn : As.length = n) (hsize : g.locals.size = nL) (hstack : g.stack = As.reverse ++ rest) (hW : 2 * g.monitorRoom + (rest.map fun v => v.category).sum ≤ 8) (hdg : decode cc g.pc = .ok (.invokestatic index, 3)) (hf : cells + mc ≤ R.cells ∧ slots + ms ≤ R.slots) :
    vx_Run p l e R s m args below meth c H locs cells slots mc ms g rest (Qc As.toArray) XC free := by
  obtain ⟨⟨hrc, hrs, hfr, hlo, hws, hcw⟩, hcode, hini, hy, hlen, hl, hstt⟩ := cw
  have hK : vx_Back l R p e below s args y 3 8 (PreOf R mc ms Pc) (PostOf Qc mc ms free) (vx_Post XC mc ms free) := vx_backW (hh := hh) (bytes := bytes) (maxL := maxL) (ret := ret) hM hp.1 hrc hrs hfr hlo hws hcw (fun a' U hW => word_at hW (Or.inl (by first | rfl | simp [Cond.onTables, Cond.keeps, Cond.steady])) hini)
  obtain ⟨hx, hb, hml, ho, -⟩ := S
  intro T hT X
  rcases vx_callSX X hx (hh := hh) (bytes := bytes) (maxL := maxL) (ret := ret) ho hl hstt hini hcode hy hK hg (hsize.trans hml.symm) (argsL := As) (rest := rest) (fun sig h => hn.trans (hlen sig h)) hstack hW (by rw [hb]; exact hdg)
    (fun vm₁ hW₁ => ⟨hf.1, hf.2, hp.2 (T.setVm vm₁) hT hW₁⟩) with ⟨v, vm₁, ⟨U', l2, c2, s2⟩, hW₁, X', ⟨g', mk, t, L, e1, e2, hq, h1, hL, h2, h3⟩, st⟩ | ⟨q, vm₁, ⟨U', l2, c2, s2⟩, hW₁, X', ⟨g', mk, t, L, E, ce, e1, e2, hq, hce, hcv, hcl, h1, hL, h2, h3⟩, st⟩
  · dsimp only [Pt.U, Pt.locs, Pt.cells, Pt.slots] at X' e1 e2 h1 h2 h3 st
    subst h1; subst h2; subst h3
    exact Or.inl ⟨v, (T.setVm vm₁).calling g' mk As.toArray, t, U', L, hT, X', hL, e1, e2, hq, st⟩
  · dsimp only [Pt.U, Pt.locs, Pt.cells, Pt.slots] at X' e1 e2 h1 h2 h3 st hcl
    subst h1; subst h2; subst h3
    exact Or.inr ⟨q, (T.setVm vm₁).calling g' mk As.toArray, t, U', L, E, ce, hT, X', hL, e1, e2, hq, hce, hcv, vx_cls hW₁ hcl, st⟩
end
end VXH
theorem vx_ofWH {l : Launch} {y : MethodName} {ws ws' : List Cond} {rm : Room} {Pc : Array Value → State → Prop} {Qc : Array Value → State → Outcome → State → Prop} {XC : String → State → State → Prop} {mc ms : Nat} {free : Addr → Prop} {cc : ByteArray} {maxL : Nat} {ret : Option FieldType} {hh : List (Nat × Nat × Nat × Nat)}
    (hy : plainName y.cls = true) (hw : ws = Cond.codeWith y cc maxL ret hh :: ws')
    (body : ∀ p e s m args below meth c s₁, BodyLoose p l y (headSpec ws rm) cc maxL ret e s m args below meth c s₁ → c.maxLocals = maxL → Pc args s →
      W p l e (headSpec ws rm).room s m args below meth c s.heap [] 0 0 (vx_MQ below Qc XC args s mc ms free) (entryFrame m args maxL)) : vx_Met l y ws rm Pc Qc XC mc ms free := by
  refine MetFree.of_bodyS (code := cc) (maxLocals := maxL) (ret := ret) hy ?_ ?_
  · intro args s m h hn
    obtain ⟨m9, meth, c, hn9, h1, h2, h3, h4, -, h5, h6, -⟩ := Cond.codeWith_spec (atoms_spec (ws := ws) h _ (by rw [hw]; exact List.mem_cons_self))
    cases hn.symm.trans hn9
    exact ⟨meth, c, h1, h2, h3, h4, h5, h6⟩
  · intro p e s m args below meth c s₁ B hml hP _
    have hh0 : s₁.heap = s.heap := by rw [B.state]; rfl
    obtain ⟨t, a1, o, b1, b2, b3⟩ := body p e s m args below meth c s₁ B hml hP s₁ hh0 (Stand.of_body B)
    exact ⟨t, o, a1, b1, b2, b3⟩
/-! ===== END ===== -/
end
section
/-! ===== BEGIN printed: names, fields, word lists, decode rows ===== -/
def RX0 : String := "Flowforge"
def TX0 : u_T := fun k => match k with
  | 0 => ("Flowforge", "jobCount", "I", false)
  | 1 => ("Flowforge", "machineCount", "I", false)
  | 2 => ("Flowforge", "times", "[I", true)
  | 3 => ("Flowforge", "begins", "[I", true)
  | 4 => ("Flowforge", "ends", "[I", true)
  | 5 => ("Flowforge", "tails", "[I", true)
  | 6 => ("Flowforge", "order", "[I", true)
  | 7 => ("Flowforge", "trial", "[I", true)
  | 8 => ("Flowforge", "queue", "[I", true)
  | 9 => ("Flowforge", "solved", "[Z", true)
  | 10 => ("Flowforge", "leastMakespans", "[I", true)
  | 11 => ("Flowforge", "leastCounts", "[I", true)
  | _ => ("Flowforge", "bestJobs", "[I", true)
def tyX0 : Nat → FieldType := fun k => match k with
  | 0 => .int
  | 1 => .int
  | 2 => .array .int
  | 3 => .array .int
  | 4 => .array .int
  | 5 => .array .int
  | 6 => .array .int
  | 7 => .array .int
  | 8 => .array .int
  | 9 => .array .boolean
  | 10 => .array .int
  | 11 => .array .int
  | _ => .array .int
abbrev wsX00 : List Cond := u_ws RX0 TX0 13
theorem nmX0 : ∀ a, a < 13 → ∀ b, b < 13 → a ≠ b → (TX0 a).2.1 ≠ (TX0 b).2.1 := by decide +kernel
theorem tyX0_ok : ∀ k, k < 13 → parseFieldDescriptor (TX0 k).2.2.1 = some (tyX0 k) := by decide +kernel
abbrev cX0_init : ByteArray := prog_1_method_1_code
def yX0_init : MethodName := ⟨RX0, "<init>", "()V"⟩
abbrev cX0_addJob : ByteArray := prog_1_method_2_code
def yX0_addJob : MethodName := ⟨RX0, "addJob", "()I"⟩
abbrev cX0_setMachines : ByteArray := prog_1_method_3_code
def yX0_setMachines : MethodName := ⟨RX0, "setMachines", "(I)I"⟩
abbrev cX0_setTime : ByteArray := prog_1_method_4_code
def yX0_setTime : MethodName := ⟨RX0, "setTime", "(III)I"⟩
abbrev cX0_time : ByteArray := prog_1_method_5_code
def yX0_time : MethodName := ⟨RX0, "time", "(II)I"⟩
abbrev cX0_jobs : ByteArray := prog_1_method_6_code
def yX0_jobs : MethodName := ⟨RX0, "jobs", "()I"⟩
abbrev cX0_machines : ByteArray := prog_1_method_7_code
def yX0_machines : MethodName := ⟨RX0, "machines", "()I"⟩
abbrev cX0_jobAt : ByteArray := prog_1_method_8_code
def yX0_jobAt : MethodName := ⟨RX0, "jobAt", "(I)I"⟩
abbrev cX0_move : ByteArray := prog_1_method_9_code
def yX0_move : MethodName := ⟨RX0, "move", "(II)I"⟩
abbrev cX0_makespanIfMoved : ByteArray := prog_1_method_10_code
def yX0_makespanIfMoved : MethodName := ⟨RX0, "makespanIfMoved", "(II)I"⟩
abbrev cX0_orderByRule : ByteArray := prog_1_method_11_code
def yX0_orderByRule : MethodName := ⟨RX0, "orderByRule", "()I"⟩
abbrev cX0_orderByInsertion : ByteArray := prog_1_method_12_code
def yX0_orderByInsertion : MethodName := ⟨RX0, "orderByInsertion", "()I"⟩
abbrev cX0_improve : ByteArray := prog_1_method_13_code
def yX0_improve : MethodName := ⟨RX0, "improve", "()I"⟩
abbrev cX0_makespan : ByteArray := prog_1_method_14_code
def yX0_makespan : MethodName := ⟨RX0, "makespan", "(I)I"⟩
abbrev cX0_begin : ByteArray := prog_1_method_15_code
def yX0_begin : MethodName := ⟨RX0, "begin", "(III)I"⟩
abbrev cX0_totalTime : ByteArray := prog_1_method_16_code
def yX0_totalTime : MethodName := ⟨RX0, "totalTime", "()I"⟩
abbrev cX0_head : ByteArray := prog_1_method_17_code
def yX0_head : MethodName := ⟨RX0, "head", "(II)I"⟩
abbrev cX0_tail : ByteArray := prog_1_method_18_code
def yX0_tail : MethodName := ⟨RX0, "tail", "(II)I"⟩
abbrev cX0_isCritical : ByteArray := prog_1_method_19_code
def yX0_isCritical : MethodName := ⟨RX0, "isCritical", "(II)Z"⟩
abbrev cX0_idle : ByteArray := prog_1_method_20_code
def yX0_idle : MethodName := ⟨RX0, "idle", "(II)I"⟩
abbrev cX0_machineBound : ByteArray := prog_1_method_21_code
def yX0_machineBound : MethodName := ⟨RX0, "machineBound", "(I)I"⟩
abbrev cX0_pairBound : ByteArray := prog_1_method_22_code
def yX0_pairBound : MethodName := ⟨RX0, "pairBound", "(II)I"⟩
abbrev cX0_best : ByteArray := prog_1_method_23_code
def yX0_best : MethodName := ⟨RX0, "best", "(I)I"⟩
abbrev cX0_bestAt : ByteArray := prog_1_method_24_code
def yX0_bestAt : MethodName := ⟨RX0, "bestAt", "(II)I"⟩
abbrev cX0_bestOrders : ByteArray := prog_1_method_25_code
def yX0_bestOrders : MethodName := ⟨RX0, "bestOrders", "(I)I"⟩
abbrev cX0_gap : ByteArray := prog_1_method_26_code
def yX0_gap : MethodName := ⟨RX0, "gap", "()D"⟩
abbrev cX0_requireJob : ByteArray := prog_1_method_27_code
def yX0_requireJob : MethodName := ⟨RX0, "requireJob", "(I)V"⟩
abbrev cX0_requirePlace : ByteArray := prog_1_method_28_code
def yX0_requirePlace : MethodName := ⟨RX0, "requirePlace", "(I)V"⟩
abbrev cX0_requireMachine : ByteArray := prog_1_method_29_code
def yX0_requireMachine : MethodName := ⟨RX0, "requireMachine", "(I)V"⟩
abbrev cX0_requireVariant : ByteArray := prog_1_method_30_code
def yX0_requireVariant : MethodName := ⟨RX0, "requireVariant", "(I)V"⟩
abbrev cX0_cell : ByteArray := prog_1_method_31_code
def yX0_cell : MethodName := ⟨RX0, "cell", "(II)I"⟩
abbrev cX0_timeOf : ByteArray := prog_1_method_32_code
def yX0_timeOf : MethodName := ⟨RX0, "timeOf", "(II)I"⟩
abbrev cX0_sumOf : ByteArray := prog_1_method_33_code
def yX0_sumOf : MethodName := ⟨RX0, "sumOf", "(III)I"⟩
abbrev cX0_leastSum : ByteArray := prog_1_method_34_code
def yX0_leastSum : MethodName := ⟨RX0, "leastSum", "(II)I"⟩
abbrev cX0_loadOf : ByteArray := prog_1_method_35_code
def yX0_loadOf : MethodName := ⟨RX0, "loadOf", "(I)I"⟩
abbrev cX0_placeOf : ByteArray := prog_1_method_36_code
def yX0_placeOf : MethodName := ⟨RX0, "placeOf", "(I)I"⟩
abbrev cX0_shift : ByteArray := prog_1_method_37_code
def yX0_shift : MethodName := ⟨RX0, "shift", "([III)V"⟩
abbrev cX0_makespanIfShifted : ByteArray := prog_1_method_38_code
def yX0_makespanIfShifted : MethodName := ⟨RX0, "makespanIfShifted", "(III)I"⟩
abbrev cX0_placeForLast : ByteArray := prog_1_method_39_code
def yX0_placeForLast : MethodName := ⟨RX0, "placeForLast", "(I)I"⟩
abbrev cX0_fillQueueBySum : ByteArray := prog_1_method_40_code
def yX0_fillQueueBySum : MethodName := ⟨RX0, "fillQueueBySum", "()V"⟩
abbrev cX0_fillByRule : ByteArray := prog_1_method_41_code
def yX0_fillByRule : MethodName := ⟨RX0, "fillByRule", "([III)V"⟩
abbrev cX0_goesBefore : ByteArray := prog_1_method_42_code
def yX0_goesBefore : MethodName := ⟨RX0, "goesBefore", "(IIII)Z"⟩
abbrev cX0_leastOfPair : ByteArray := prog_1_method_43_code
def yX0_leastOfPair : MethodName := ⟨RX0, "leastOfPair", "(II)I"⟩
abbrev cX0_scheduleOrder : ByteArray := prog_1_method_44_code
def yX0_scheduleOrder : MethodName := ⟨RX0, "scheduleOrder", "(I)I"⟩
abbrev cX0_lastEnd : ByteArray := prog_1_method_45_code
def yX0_lastEnd : MethodName := ⟨RX0, "lastEnd", "(I)I"⟩
abbrev cX0_scheduleJob : ByteArray := prog_1_method_46_code
def yX0_scheduleJob : MethodName := ⟨RX0, "scheduleJob", "(III)V"⟩
abbrev cX0_beginWithoutWaiting : ByteArray := prog_1_method_47_code
def yX0_beginWithoutWaiting : MethodName := ⟨RX0, "beginWithoutWaiting", "(II)I"⟩
abbrev cX0_freeFrom : ByteArray := prog_1_method_48_code
def yX0_freeFrom : MethodName := ⟨RX0, "freeFrom", "(III)I"⟩
abbrev cX0_fillTails : ByteArray := prog_1_method_49_code
def yX0_fillTails : MethodName := ⟨RX0, "fillTails", "()V"⟩
abbrev cX0_forgetBestOrders : ByteArray := prog_1_method_50_code
def yX0_forgetBestOrders : MethodName := ⟨RX0, "forgetBestOrders", "()V"⟩
abbrev cX0_findBestOrder : ByteArray := prog_1_method_51_code
def yX0_findBestOrder : MethodName := ⟨RX0, "findBestOrder", "(I)V"⟩
abbrev cX0_countTrial : ByteArray := prog_1_method_52_code
def yX0_countTrial : MethodName := ⟨RX0, "countTrial", "(II)V"⟩
abbrev cX0_stepTrial : ByteArray := prog_1_method_53_code
def yX0_stepTrial : MethodName := ⟨RX0, "stepTrial", "()I"⟩
abbrev cX0_swapInTrial : ByteArray := prog_1_method_54_code
def yX0_swapInTrial : MethodName := ⟨RX0, "swapInTrial", "(II)V"⟩
def RX1 : String := "FlowforgeModel"
def TX1 : u_T := fun k => match k with
  | 0 => ("FlowforgeModel", "thrown", "I", false)
  | 1 => ("FlowforgeModel", "many", "I", false)
  | 2 => ("FlowforgeModel", "wide", "I", false)
  | 3 => ("FlowforgeModel", "times", "[I", true)
  | 4 => ("FlowforgeModel", "order", "[I", true)
  | 5 => ("FlowforgeModel", "starts", "[I", true)
  | 6 => ("FlowforgeModel", "tails", "[I", true)
  | 7 => ("FlowforgeModel", "trial", "[I", true)
  | 8 => ("FlowforgeModel", "firstBest", "[I", true)
  | _ => ("FlowforgeModel", "bestMany", "I", false)
def tyX1 : Nat → FieldType := fun k => match k with
  | 0 => .int
  | 1 => .int
  | 2 => .int
  | 3 => .array .int
  | 4 => .array .int
  | 5 => .array .int
  | 6 => .array .int
  | 7 => .array .int
  | 8 => .array .int
  | _ => .int
abbrev wsX10 : List Cond := u_ws RX1 TX1 10
theorem nmX1 : ∀ a, a < 10 → ∀ b, b < 10 → a ≠ b → (TX1 a).2.1 ≠ (TX1 b).2.1 := by decide +kernel
theorem tyX1_ok : ∀ k, k < 10 → parseFieldDescriptor (TX1 k).2.2.1 = some (tyX1 k) := by decide +kernel
abbrev cX1_init : ByteArray := prog_3_method_1_code
def yX1_init : MethodName := ⟨RX1, "<init>", "()V"⟩
abbrev cX1_thrown : ByteArray := prog_3_method_2_code
def yX1_thrown : MethodName := ⟨RX1, "thrown", "()I"⟩
abbrev cX1_fails : ByteArray := prog_3_method_3_code
def yX1_fails : MethodName := ⟨RX1, "fails", "(I)I"⟩
abbrev cX1_in : ByteArray := prog_3_method_4_code
def yX1_in : MethodName := ⟨RX1, "in", "(III)Z"⟩
abbrev cX1_isOf : ByteArray := prog_3_method_5_code
def yX1_isOf : MethodName := ⟨RX1, "isOf", "(II)Z"⟩
abbrev cX1_timeOf : ByteArray := prog_3_method_6_code
def yX1_timeOf : MethodName := ⟨RX1, "timeOf", "(II)I"⟩
abbrev cX1_addJob : ByteArray := prog_3_method_7_code
def yX1_addJob : MethodName := ⟨RX1, "addJob", "()I"⟩
abbrev cX1_setMachines : ByteArray := prog_3_method_8_code
def yX1_setMachines : MethodName := ⟨RX1, "setMachines", "(I)I"⟩
abbrev cX1_setTime : ByteArray := prog_3_method_9_code
def yX1_setTime : MethodName := ⟨RX1, "setTime", "(III)I"⟩
abbrev cX1_time : ByteArray := prog_3_method_10_code
def yX1_time : MethodName := ⟨RX1, "time", "(II)I"⟩
abbrev cX1_jobs : ByteArray := prog_3_method_11_code
def yX1_jobs : MethodName := ⟨RX1, "jobs", "()I"⟩
abbrev cX1_machines : ByteArray := prog_3_method_12_code
def yX1_machines : MethodName := ⟨RX1, "machines", "()I"⟩
abbrev cX1_startOf : ByteArray := prog_3_method_13_code
def yX1_startOf : MethodName := ⟨RX1, "startOf", "(II)I"⟩
abbrev cX1_endOf : ByteArray := prog_3_method_14_code
def yX1_endOf : MethodName := ⟨RX1, "endOf", "([III)I"⟩
abbrev cX1_freeAt : ByteArray := prog_3_method_15_code
def yX1_freeAt : MethodName := ⟨RX1, "freeAt", "(I[III)I"⟩
abbrev cX1_lays : ByteArray := prog_3_method_16_code
def yX1_lays : MethodName := ⟨RX1, "lays", "(I[II)I"⟩
abbrev cX1_pullsTogether : ByteArray := prog_3_method_17_code
def yX1_pullsTogether : MethodName := ⟨RX1, "pullsTogether", "([II)V"⟩
abbrev cX1_plain : ByteArray := prog_3_method_18_code
def yX1_plain : MethodName := ⟨RX1, "plain", "()I"⟩
abbrev cX1_placeOf : ByteArray := prog_3_method_19_code
def yX1_placeOf : MethodName := ⟨RX1, "placeOf", "(I)I"⟩
abbrev cX1_triesMove : ByteArray := prog_3_method_20_code
def yX1_triesMove : MethodName := ⟨RX1, "triesMove", "(II)V"⟩
abbrev cX1_takesTrial : ByteArray := prog_3_method_21_code
def yX1_takesTrial : MethodName := ⟨RX1, "takesTrial", "()V"⟩
abbrev cX1_jobAt : ByteArray := prog_3_method_22_code
def yX1_jobAt : MethodName := ⟨RX1, "jobAt", "(I)I"⟩
abbrev cX1_canMove : ByteArray := prog_3_method_23_code
def yX1_canMove : MethodName := ⟨RX1, "canMove", "(II)Z"⟩
abbrev cX1_move : ByteArray := prog_3_method_24_code
def yX1_move : MethodName := ⟨RX1, "move", "(II)I"⟩
abbrev cX1_makespanIfMoved : ByteArray := prog_3_method_25_code
def yX1_makespanIfMoved : MethodName := ⟨RX1, "makespanIfMoved", "(II)I"⟩
abbrev cX1_isAhead : ByteArray := prog_3_method_26_code
def yX1_isAhead : MethodName := ⟨RX1, "isAhead", "(II)Z"⟩
abbrev cX1_orderByRule : ByteArray := prog_3_method_27_code
def yX1_orderByRule : MethodName := ⟨RX1, "orderByRule", "()I"⟩
abbrev cX1_sumOf : ByteArray := prog_3_method_28_code
def yX1_sumOf : MethodName := ⟨RX1, "sumOf", "(III)I"⟩
abbrev cX1_bySum : ByteArray := prog_3_method_29_code
def yX1_bySum : MethodName := ⟨RX1, "bySum", "(I)I"⟩
abbrev cX1_puts : ByteArray := prog_3_method_30_code
def yX1_puts : MethodName := ⟨RX1, "puts", "(III)V"⟩
abbrev cX1_takesOut : ByteArray := prog_3_method_31_code
def yX1_takesOut : MethodName := ⟨RX1, "takesOut", "(II)V"⟩
abbrev cX1_orderByInsertion : ByteArray := prog_3_method_32_code
def yX1_orderByInsertion : MethodName := ⟨RX1, "orderByInsertion", "()I"⟩
abbrev cX1_improve : ByteArray := prog_3_method_33_code
def yX1_improve : MethodName := ⟨RX1, "improve", "()I"⟩
abbrev cX1_isVariant : ByteArray := prog_3_method_34_code
def yX1_isVariant : MethodName := ⟨RX1, "isVariant", "(I)Z"⟩
abbrev cX1_makespan : ByteArray := prog_3_method_35_code
def yX1_makespan : MethodName := ⟨RX1, "makespan", "(I)I"⟩
abbrev cX1_begin : ByteArray := prog_3_method_36_code
def yX1_begin : MethodName := ⟨RX1, "begin", "(III)I"⟩
abbrev cX1_totalTime : ByteArray := prog_3_method_37_code
def yX1_totalTime : MethodName := ⟨RX1, "totalTime", "()I"⟩
abbrev cX1_laysTails : ByteArray := prog_3_method_38_code
def yX1_laysTails : MethodName := ⟨RX1, "laysTails", "()V"⟩
abbrev cX1_head : ByteArray := prog_3_method_39_code
def yX1_head : MethodName := ⟨RX1, "head", "(II)I"⟩
abbrev cX1_tail : ByteArray := prog_3_method_40_code
def yX1_tail : MethodName := ⟨RX1, "tail", "(II)I"⟩
abbrev cX1_isCritical : ByteArray := prog_3_method_41_code
def yX1_isCritical : MethodName := ⟨RX1, "isCritical", "(II)Z"⟩
abbrev cX1_idle : ByteArray := prog_3_method_42_code
def yX1_idle : MethodName := ⟨RX1, "idle", "(II)I"⟩
abbrev cX1_leastSum : ByteArray := prog_3_method_43_code
def yX1_leastSum : MethodName := ⟨RX1, "leastSum", "(II)I"⟩
abbrev cX1_machineBound : ByteArray := prog_3_method_44_code
def yX1_machineBound : MethodName := ⟨RX1, "machineBound", "(I)I"⟩
abbrev cX1_startsTrial : ByteArray := prog_3_method_45_code
def yX1_startsTrial : MethodName := ⟨RX1, "startsTrial", "()V"⟩
abbrev cX1_goesOn : ByteArray := prog_3_method_46_code
def yX1_goesOn : MethodName := ⟨RX1, "goesOn", "()Z"⟩
abbrev cX1_swaps : ByteArray := prog_3_method_47_code
def yX1_swaps : MethodName := ⟨RX1, "swaps", "(II)V"⟩
abbrev cX1_onTwo : ByteArray := prog_3_method_48_code
def yX1_onTwo : MethodName := ⟨RX1, "onTwo", "(II)I"⟩
abbrev cX1_pairBound : ByteArray := prog_3_method_49_code
def yX1_pairBound : MethodName := ⟨RX1, "pairBound", "(II)I"⟩
abbrev cX1_searches : ByteArray := prog_3_method_50_code
def yX1_searches : MethodName := ⟨RX1, "searches", "(I)I"⟩
abbrev cX1_best : ByteArray := prog_3_method_51_code
def yX1_best : MethodName := ⟨RX1, "best", "(I)I"⟩
abbrev cX1_bestAt : ByteArray := prog_3_method_52_code
def yX1_bestAt : MethodName := ⟨RX1, "bestAt", "(II)I"⟩
abbrev cX1_bestOrders : ByteArray := prog_3_method_53_code
def yX1_bestOrders : MethodName := ⟨RX1, "bestOrders", "(I)I"⟩
abbrev cX1_gap : ByteArray := prog_3_method_54_code
def yX1_gap : MethodName := ⟨RX1, "gap", "()D"⟩
def RJ9 : String := "java/lang/Math"
def TJ9 : u_T := fun k => match k with
  | _ => ("", "", "", false)
def tyJ9 : Nat → FieldType := fun k => match k with
  | _ => .int
abbrev wsJ90 : List Cond := u_ws RJ9 TJ9 0
theorem nmJ9 : ∀ a, a < 0 → ∀ b, b < 0 → a ≠ b → (TJ9 a).2.1 ≠ (TJ9 b).2.1 := by decide +kernel
theorem tyJ9_ok : ∀ k, k < 0 → parseFieldDescriptor (TJ9 k).2.2.1 = some (tyJ9 k) := by decide +kernel
abbrev cJ9_max_7cf53 : ByteArray := prog_8_method_65_code
def yJ9_max_7cf53 : MethodName := ⟨RJ9, "max", "(II)I"⟩
abbrev cJ9_min_7cf53 : ByteArray := prog_8_method_69_code
def yJ9_min_7cf53 : MethodName := ⟨RJ9, "min", "(II)I"⟩
def RJ0 : String := "java/lang/String"
def TJ0 : u_T := fun k => match k with
  | _ => ("", "", "", false)
def tyJ0 : Nat → FieldType := fun k => match k with
  | _ => .int
abbrev wsJ00 : List Cond := u_ws RJ0 TJ0 0
theorem nmJ0 : ∀ a, a < 0 → ∀ b, b < 0 → a ≠ b → (TJ0 a).2.1 ≠ (TJ0 b).2.1 := by decide +kernel
theorem tyJ0_ok : ∀ k, k < 0 → parseFieldDescriptor (TJ0 k).2.2.1 = some (tyJ0 k) := by decide +kernel
def RJ10 : String := "java/lang/System"
def TJ10 : u_T := fun k => match k with
  | _ => ("", "", "", false)
def tyJ10 : Nat → FieldType := fun k => match k with
  | _ => .int
abbrev wsJ100 : List Cond := u_ws RJ10 TJ10 0
theorem nmJ10 : ∀ a, a < 0 → ∀ b, b < 0 → a ≠ b → (TJ10 a).2.1 ≠ (TJ10 b).2.1 := by decide +kernel
theorem tyJ10_ok : ∀ k, k < 0 → parseFieldDescriptor (TJ10 k).2.2.1 = some (tyJ10 k) := by decide +kernel
def RL : String := "FlowforgeLaw"
abbrev cL_addJob : ByteArray := method_3_code
def yL_addJob : MethodName := ⟨RL, "addJob", "(LFlowforge;[J)I"⟩
abbrev cL_setMachines : ByteArray := method_4_code
def yL_setMachines : MethodName := ⟨RL, "setMachines", "(LFlowforge;I[J)I"⟩
abbrev cL_setTime : ByteArray := method_5_code
def yL_setTime : MethodName := ⟨RL, "setTime", "(LFlowforge;III[J)I"⟩
abbrev cL_time : ByteArray := method_6_code
def yL_time : MethodName := ⟨RL, "time", "(LFlowforge;II[J)I"⟩
abbrev cL_jobAt : ByteArray := method_7_code
def yL_jobAt : MethodName := ⟨RL, "jobAt", "(LFlowforge;I[J)I"⟩
abbrev cL_move : ByteArray := method_8_code
def yL_move : MethodName := ⟨RL, "move", "(LFlowforge;II[J)I"⟩
abbrev cL_makespanIfMoved : ByteArray := method_9_code
def yL_makespanIfMoved : MethodName := ⟨RL, "makespanIfMoved", "(LFlowforge;II[J)I"⟩
abbrev cL_orderByRule : ByteArray := method_10_code
def yL_orderByRule : MethodName := ⟨RL, "orderByRule", "(LFlowforge;[J)I"⟩
abbrev cL_makespan : ByteArray := method_11_code
def yL_makespan : MethodName := ⟨RL, "makespan", "(LFlowforge;I[J)I"⟩
abbrev cL_begin : ByteArray := method_12_code
def yL_begin : MethodName := ⟨RL, "begin", "(LFlowforge;III[J)I"⟩
abbrev cL_head : ByteArray := method_13_code
def yL_head : MethodName := ⟨RL, "head", "(LFlowforge;II[J)I"⟩
abbrev cL_tail : ByteArray := method_14_code
def yL_tail : MethodName := ⟨RL, "tail", "(LFlowforge;II[J)I"⟩
abbrev cL_isCritical : ByteArray := method_15_code
def yL_isCritical : MethodName := ⟨RL, "isCritical", "(LFlowforge;II[J)I"⟩
abbrev cL_idle : ByteArray := method_16_code
def yL_idle : MethodName := ⟨RL, "idle", "(LFlowforge;II[J)I"⟩
abbrev cL_machineBound : ByteArray := method_17_code
def yL_machineBound : MethodName := ⟨RL, "machineBound", "(LFlowforge;I[J)I"⟩
abbrev cL_pairBound : ByteArray := method_18_code
def yL_pairBound : MethodName := ⟨RL, "pairBound", "(LFlowforge;II[J)I"⟩
abbrev cL_best : ByteArray := method_19_code
def yL_best : MethodName := ⟨RL, "best", "(LFlowforge;I[J)I"⟩
abbrev cL_bestAt : ByteArray := method_20_code
def yL_bestAt : MethodName := ⟨RL, "bestAt", "(LFlowforge;II[J)I"⟩
abbrev cL_bestOrders : ByteArray := method_21_code
def yL_bestOrders : MethodName := ⟨RL, "bestOrders", "(LFlowforge;I[J)I"⟩
abbrev cL_law : ByteArray := code
def yL_law : MethodName := ⟨RL, "law", "([I)Z"⟩
def wsX0_init : List Cond := .code yX0_init cX0_init 1 none :: ([.methodLink RX0 1 objectInit, .instanceMethod objectInit, .code objectInit ⟨#[0xb1]⟩ 1 none, .fieldLink RX0 7 "Flowforge" "jobCount" "I", .fieldLink RX0 13 "Flowforge" "machineCount" "I", .arrayClass .int, .fieldLink RX0 16 "Flowforge" "times" "[I", .fieldLink RX0 20 "Flowforge" "begins" "[I", .fieldLink RX0 23 "Flowforge" "ends" "[I", .fieldLink RX0 26 "Flowforge" "tails" "[I", .fieldLink RX0 29 "Flowforge" "order" "[I", .fieldLink RX0 32 "Flowforge" "trial" "[I", .fieldLink RX0 35 "Flowforge" "queue" "[I", .arrayClass .boolean, .fieldLink RX0 38 "Flowforge" "solved" "[Z", .fieldLink RX0 42 "Flowforge" "leastMakespans" "[I", .fieldLink RX0 45 "Flowforge" "leastCounts" "[I", .fieldLink RX0 48 "Flowforge" "bestJobs" "[I"] ++ wsX00)
def wsX0_forgetBestOrders : List Cond := .code yX0_forgetBestOrders cX0_forgetBestOrders 2 none :: ([.fieldLink RX0 38 "Flowforge" "solved" "[Z"] ++ wsX00)
def wsX0_addJob : List Cond := .code yX0_addJob cX0_addJob 2 (some .int) :: ([.classLink RX0 51 "java/lang/IllegalStateException", .initialized "java/lang/IllegalStateException", .fieldLink RX0 7 "Flowforge" "jobCount" "I", .fieldLink RX0 29 "Flowforge" "order" "[I", .methodLink RX0 58 yX0_forgetBestOrders, .instanceMethod yX0_forgetBestOrders, .selects RX0 yX0_forgetBestOrders yX0_forgetBestOrders, .initialized RX0, .code yX0_forgetBestOrders cX0_forgetBestOrders 2 none, .fieldLink RX0 38 "Flowforge" "solved" "[Z"] ++ wsX00 ++ (vx_atS RX0 55 "java/lang/IllegalStateException" ["java/lang/RuntimeException", "java/lang/Exception"]).filter goodWord)
def wsX0_cell : List Cond := .code yX0_cell cX0_cell 2 (some .int) :: ([])
def wsX0_setMachines : List Cond := .code yX0_setMachines cX0_setMachines 5 (some .int) :: ([.classLink RX0 61 "java/lang/IllegalArgumentException", .initialized "java/lang/IllegalArgumentException", .fieldLink RX0 13 "Flowforge" "machineCount" "I", .fieldLink RX0 7 "Flowforge" "jobCount" "I", .fieldLink RX0 16 "Flowforge" "times" "[I", .methodLink RX0 66 yX0_cell, .static yX0_cell, .initialized RX0, .code yX0_cell cX0_cell 2 (some .int), .methodLink RX0 58 yX0_forgetBestOrders, .instanceMethod yX0_forgetBestOrders, .selects RX0 yX0_forgetBestOrders yX0_forgetBestOrders, .code yX0_forgetBestOrders cX0_forgetBestOrders 2 none, .fieldLink RX0 38 "Flowforge" "solved" "[Z"] ++ wsX00 ++ (vx_atS RX0 65 "java/lang/IllegalArgumentException" ["java/lang/RuntimeException", "java/lang/Exception"]).filter goodWord)
def wsX0_requireJob : List Cond := .code yX0_requireJob cX0_requireJob 2 none :: ([.classLink RX0 131 "java/lang/IndexOutOfBoundsException", .initialized "java/lang/IndexOutOfBoundsException", .fieldLink RX0 7 "Flowforge" "jobCount" "I"] ++ wsX00 ++ (vx_atS RX0 135 "java/lang/IndexOutOfBoundsException" ["java/lang/RuntimeException", "java/lang/Exception"]).filter goodWord)
def wsX0_requireMachine : List Cond := .code yX0_requireMachine cX0_requireMachine 2 none :: ([.classLink RX0 131 "java/lang/IndexOutOfBoundsException", .initialized "java/lang/IndexOutOfBoundsException", .fieldLink RX0 13 "Flowforge" "machineCount" "I"] ++ wsX00 ++ (vx_atS RX0 135 "java/lang/IndexOutOfBoundsException" ["java/lang/RuntimeException", "java/lang/Exception"]).filter goodWord)
def wsX0_setTime : List Cond := .code yX0_setTime cX0_setTime 5 (some .int) :: ([.classLink RX0 61 "java/lang/IllegalArgumentException", .initialized "java/lang/IllegalArgumentException", .fieldLink RX0 16 "Flowforge" "times" "[I", .methodLink RX0 70 yX0_requireJob, .instanceMethod yX0_requireJob, .selects RX0 yX0_requireJob yX0_requireJob, .initialized RX0, .code yX0_requireJob cX0_requireJob 2 none, .classLink RX0 131 "java/lang/IndexOutOfBoundsException", .initialized "java/lang/IndexOutOfBoundsException", .fieldLink RX0 7 "Flowforge" "jobCount" "I", .methodLink RX0 74 yX0_requireMachine, .instanceMethod yX0_requireMachine, .selects RX0 yX0_requireMachine yX0_requireMachine, .code yX0_requireMachine cX0_requireMachine 2 none, .fieldLink RX0 13 "Flowforge" "machineCount" "I", .methodLink RX0 66 yX0_cell, .static yX0_cell, .code yX0_cell cX0_cell 2 (some .int), .methodLink RX0 58 yX0_forgetBestOrders, .instanceMethod yX0_forgetBestOrders, .selects RX0 yX0_forgetBestOrders yX0_forgetBestOrders, .code yX0_forgetBestOrders cX0_forgetBestOrders 2 none, .fieldLink RX0 38 "Flowforge" "solved" "[Z"] ++ wsX00 ++ (vx_atS RX0 65 "java/lang/IllegalArgumentException" ["java/lang/RuntimeException", "java/lang/Exception"]).filter goodWord ++ (vx_atS RX0 135 "java/lang/IndexOutOfBoundsException" ["java/lang/RuntimeException", "java/lang/Exception"]).filter goodWord)
def wsX0_time : List Cond := .code yX0_time cX0_time 3 (some .int) :: ([.fieldLink RX0 16 "Flowforge" "times" "[I", .methodLink RX0 70 yX0_requireJob, .instanceMethod yX0_requireJob, .selects RX0 yX0_requireJob yX0_requireJob, .initialized RX0, .code yX0_requireJob cX0_requireJob 2 none, .classLink RX0 131 "java/lang/IndexOutOfBoundsException", .initialized "java/lang/IndexOutOfBoundsException", .fieldLink RX0 7 "Flowforge" "jobCount" "I", .methodLink RX0 74 yX0_requireMachine, .instanceMethod yX0_requireMachine, .selects RX0 yX0_requireMachine yX0_requireMachine, .code yX0_requireMachine cX0_requireMachine 2 none, .fieldLink RX0 13 "Flowforge" "machineCount" "I", .methodLink RX0 66 yX0_cell, .static yX0_cell, .code yX0_cell cX0_cell 2 (some .int)] ++ wsX00 ++ (vx_atS RX0 135 "java/lang/IndexOutOfBoundsException" ["java/lang/RuntimeException", "java/lang/Exception"]).filter goodWord)
def wsX0_jobs : List Cond := .code yX0_jobs cX0_jobs 1 (some .int) :: ([.fieldLink RX0 7 "Flowforge" "jobCount" "I"] ++ wsX00)
def wsX0_machines : List Cond := .code yX0_machines cX0_machines 1 (some .int) :: ([.fieldLink RX0 13 "Flowforge" "machineCount" "I"] ++ wsX00)
def wsX0_requirePlace : List Cond := .code yX0_requirePlace cX0_requirePlace 2 none :: ([.classLink RX0 131 "java/lang/IndexOutOfBoundsException", .initialized "java/lang/IndexOutOfBoundsException", .fieldLink RX0 7 "Flowforge" "jobCount" "I"] ++ wsX00 ++ (vx_atS RX0 135 "java/lang/IndexOutOfBoundsException" ["java/lang/RuntimeException", "java/lang/Exception"]).filter goodWord)
def wsX0_jobAt : List Cond := .code yX0_jobAt cX0_jobAt 2 (some .int) :: ([.fieldLink RX0 29 "Flowforge" "order" "[I", .methodLink RX0 79 yX0_requirePlace, .instanceMethod yX0_requirePlace, .selects RX0 yX0_requirePlace yX0_requirePlace, .initialized RX0, .code yX0_requirePlace cX0_requirePlace 2 none, .classLink RX0 131 "java/lang/IndexOutOfBoundsException", .initialized "java/lang/IndexOutOfBoundsException", .fieldLink RX0 7 "Flowforge" "jobCount" "I"] ++ wsX00 ++ (vx_atS RX0 135 "java/lang/IndexOutOfBoundsException" ["java/lang/RuntimeException", "java/lang/Exception"]).filter goodWord)
def wsX0_placeOf : List Cond := .code yX0_placeOf cX0_placeOf 3 (some .int) :: ([.fieldLink RX0 7 "Flowforge" "jobCount" "I", .fieldLink RX0 29 "Flowforge" "order" "[I"] ++ wsX00)
def wsX0_shift : List Cond := .code yX0_shift cX0_shift 5 none :: ([])
def wsX0_move : List Cond := .code yX0_move cX0_move 4 (some .int) :: ([.fieldLink RX0 29 "Flowforge" "order" "[I", .methodLink RX0 70 yX0_requireJob, .instanceMethod yX0_requireJob, .selects RX0 yX0_requireJob yX0_requireJob, .initialized RX0, .code yX0_requireJob cX0_requireJob 2 none, .classLink RX0 131 "java/lang/IndexOutOfBoundsException", .initialized "java/lang/IndexOutOfBoundsException", .fieldLink RX0 7 "Flowforge" "jobCount" "I", .methodLink RX0 79 yX0_requirePlace, .instanceMethod yX0_requirePlace, .selects RX0 yX0_requirePlace yX0_requirePlace, .code yX0_requirePlace cX0_requirePlace 2 none, .methodLink RX0 82 yX0_placeOf, .instanceMethod yX0_placeOf, .selects RX0 yX0_placeOf yX0_placeOf, .code yX0_placeOf cX0_placeOf 3 (some .int), .methodLink RX0 86 yX0_shift, .static yX0_shift, .code yX0_shift cX0_shift 5 none] ++ wsX00 ++ (vx_atS RX0 135 "java/lang/IndexOutOfBoundsException" ["java/lang/RuntimeException", "java/lang/Exception"]).filter goodWord)
def wsX0_freeFrom : List Cond := .code yX0_freeFrom cX0_freeFrom 4 (some .int) :: ([.fieldLink RX0 13 "Flowforge" "machineCount" "I", .fieldLink RX0 20 "Flowforge" "begins" "[I", .fieldLink RX0 23 "Flowforge" "ends" "[I", .methodLink RX0 66 yX0_cell, .static yX0_cell, .initialized RX0, .code yX0_cell cX0_cell 2 (some .int)] ++ wsX00)
def wsX0_timeOf : List Cond := .code yX0_timeOf cX0_timeOf 3 (some .int) :: ([.fieldLink RX0 16 "Flowforge" "times" "[I", .methodLink RX0 66 yX0_cell, .static yX0_cell, .initialized RX0, .code yX0_cell cX0_cell 2 (some .int)] ++ wsX00)
def wsX0_beginWithoutWaiting : List Cond := .code yX0_beginWithoutWaiting cX0_beginWithoutWaiting 6 (some .int) :: ([.fieldLink RX0 13 "Flowforge" "machineCount" "I", .methodLink RX0 167 Lib.Math.max.name, .static Lib.Math.max.name, .initialized "java/lang/Math", .code Lib.Math.max.name Lib.Math.max.code 2 (some .int), .methodLink RX0 173 yX0_freeFrom, .instanceMethod yX0_freeFrom, .selects RX0 yX0_freeFrom yX0_freeFrom, .initialized RX0, .code yX0_freeFrom cX0_freeFrom 4 (some .int), .fieldLink RX0 20 "Flowforge" "begins" "[I", .fieldLink RX0 23 "Flowforge" "ends" "[I", .methodLink RX0 66 yX0_cell, .static yX0_cell, .code yX0_cell cX0_cell 2 (some .int), .methodLink RX0 114 yX0_timeOf, .instanceMethod yX0_timeOf, .selects RX0 yX0_timeOf yX0_timeOf, .code yX0_timeOf cX0_timeOf 3 (some .int), .fieldLink RX0 16 "Flowforge" "times" "[I"] ++ wsX00)
def wsX0_scheduleJob : List Cond := .code yX0_scheduleJob cX0_scheduleJob 7 none :: ([.fieldLink RX0 13 "Flowforge" "machineCount" "I", .methodLink RX0 167 Lib.Math.max.name, .static Lib.Math.max.name, .initialized "java/lang/Math", .code Lib.Math.max.name Lib.Math.max.code 2 (some .int), .fieldLink RX0 20 "Flowforge" "begins" "[I", .fieldLink RX0 23 "Flowforge" "ends" "[I", .methodLink RX0 170 yX0_beginWithoutWaiting, .instanceMethod yX0_beginWithoutWaiting, .selects RX0 yX0_beginWithoutWaiting yX0_beginWithoutWaiting, .initialized RX0, .code yX0_beginWithoutWaiting cX0_beginWithoutWaiting 6 (some .int), .methodLink RX0 173 yX0_freeFrom, .instanceMethod yX0_freeFrom, .selects RX0 yX0_freeFrom yX0_freeFrom, .code yX0_freeFrom cX0_freeFrom 4 (some .int), .methodLink RX0 66 yX0_cell, .static yX0_cell, .code yX0_cell cX0_cell 2 (some .int), .methodLink RX0 114 yX0_timeOf, .instanceMethod yX0_timeOf, .selects RX0 yX0_timeOf yX0_timeOf, .code yX0_timeOf cX0_timeOf 3 (some .int), .fieldLink RX0 16 "Flowforge" "times" "[I"] ++ wsX00)
def wsX0_lastEnd : List Cond := .code yX0_lastEnd cX0_lastEnd 2 (some .int) :: ([.fieldLink RX0 23 "Flowforge" "ends" "[I", .fieldLink RX0 13 "Flowforge" "machineCount" "I", .methodLink RX0 66 yX0_cell, .static yX0_cell, .initialized RX0, .code yX0_cell cX0_cell 2 (some .int)] ++ wsX00)
def wsX0_makespanIfShifted_r1 : List Cond := [Cond.fieldLink RX0 29 "Flowforge" "order" "[I", Cond.fieldLink RX0 32 "Flowforge" "trial" "[I", Cond.methodLink RX0 150 arraycopyName, Cond.native arraycopyName, Cond.static arraycopyName, Cond.initialized "java/lang/System", Cond.methodLink RX0 86 yX0_shift, Cond.static yX0_shift, Cond.initialized RX0, Cond.code yX0_shift cX0_shift 5 none, Cond.methodLink RX0 156 yX0_scheduleJob, Cond.instanceMethod yX0_scheduleJob, Cond.selects RX0 yX0_scheduleJob yX0_scheduleJob, Cond.code yX0_scheduleJob cX0_scheduleJob 7 none, Cond.fieldLink RX0 13 "Flowforge" "machineCount" "I", Cond.methodLink RX0 167 Lib.Math.max.name, Cond.static Lib.Math.max.name, Cond.initialized "java/lang/Math", Cond.code Lib.Math.max.name Lib.Math.max.code 2 (some .int), Cond.fieldLink RX0 20 "Flowforge" "begins" "[I", Cond.fieldLink RX0 23 "Flowforge" "ends" "[I", Cond.methodLink RX0 170 yX0_beginWithoutWaiting, Cond.instanceMethod yX0_beginWithoutWaiting, Cond.selects RX0 yX0_beginWithoutWaiting yX0_beginWithoutWaiting]
def wsX0_makespanIfShifted_r2 : List Cond := [Cond.code yX0_beginWithoutWaiting cX0_beginWithoutWaiting 6 (some .int), Cond.methodLink RX0 173 yX0_freeFrom, Cond.instanceMethod yX0_freeFrom, Cond.selects RX0 yX0_freeFrom yX0_freeFrom, Cond.code yX0_freeFrom cX0_freeFrom 4 (some .int), Cond.methodLink RX0 66 yX0_cell, Cond.static yX0_cell, Cond.code yX0_cell cX0_cell 2 (some .int), Cond.methodLink RX0 114 yX0_timeOf, Cond.instanceMethod yX0_timeOf, Cond.selects RX0 yX0_timeOf yX0_timeOf, Cond.code yX0_timeOf cX0_timeOf 3 (some .int), Cond.fieldLink RX0 16 "Flowforge" "times" "[I", Cond.methodLink RX0 160 yX0_lastEnd, Cond.instanceMethod yX0_lastEnd, Cond.selects RX0 yX0_lastEnd yX0_lastEnd, Cond.code yX0_lastEnd cX0_lastEnd 2 (some .int)]
def wsX0_makespanIfShifted : List Cond := .code yX0_makespanIfShifted cX0_makespanIfShifted 5 (some .int) :: ((wsX0_makespanIfShifted_r1 ++ wsX0_makespanIfShifted_r2) ++ wsX00)
def wsX0_makespanIfMoved_r1 : List Cond := [Cond.fieldLink RX0 7 "Flowforge" "jobCount" "I", Cond.methodLink RX0 70 yX0_requireJob, Cond.instanceMethod yX0_requireJob, Cond.selects RX0 yX0_requireJob yX0_requireJob, Cond.initialized RX0, Cond.code yX0_requireJob cX0_requireJob 2 none, Cond.classLink RX0 131 "java/lang/IndexOutOfBoundsException", Cond.initialized "java/lang/IndexOutOfBoundsException", Cond.methodLink RX0 79 yX0_requirePlace, Cond.instanceMethod yX0_requirePlace, Cond.selects RX0 yX0_requirePlace yX0_requirePlace, Cond.code yX0_requirePlace cX0_requirePlace 2 none, Cond.methodLink RX0 82 yX0_placeOf, Cond.instanceMethod yX0_placeOf, Cond.selects RX0 yX0_placeOf yX0_placeOf, Cond.code yX0_placeOf cX0_placeOf 3 (some .int), Cond.fieldLink RX0 29 "Flowforge" "order" "[I", Cond.methodLink RX0 90 yX0_makespanIfShifted, Cond.instanceMethod yX0_makespanIfShifted, Cond.selects RX0 yX0_makespanIfShifted yX0_makespanIfShifted, Cond.code yX0_makespanIfShifted cX0_makespanIfShifted 5 (some .int), Cond.fieldLink RX0 32 "Flowforge" "trial" "[I", Cond.methodLink RX0 150 arraycopyName, Cond.native arraycopyName]
def wsX0_makespanIfMoved_r2 : List Cond := [Cond.static arraycopyName, Cond.initialized "java/lang/System", Cond.methodLink RX0 86 yX0_shift, Cond.static yX0_shift, Cond.code yX0_shift cX0_shift 5 none, Cond.methodLink RX0 156 yX0_scheduleJob, Cond.instanceMethod yX0_scheduleJob, Cond.selects RX0 yX0_scheduleJob yX0_scheduleJob, Cond.code yX0_scheduleJob cX0_scheduleJob 7 none, Cond.fieldLink RX0 13 "Flowforge" "machineCount" "I", Cond.methodLink RX0 167 Lib.Math.max.name, Cond.static Lib.Math.max.name, Cond.initialized "java/lang/Math", Cond.code Lib.Math.max.name Lib.Math.max.code 2 (some .int), Cond.fieldLink RX0 20 "Flowforge" "begins" "[I", Cond.fieldLink RX0 23 "Flowforge" "ends" "[I", Cond.methodLink RX0 170 yX0_beginWithoutWaiting, Cond.instanceMethod yX0_beginWithoutWaiting, Cond.selects RX0 yX0_beginWithoutWaiting yX0_beginWithoutWaiting, Cond.code yX0_beginWithoutWaiting cX0_beginWithoutWaiting 6 (some .int), Cond.methodLink RX0 173 yX0_freeFrom, Cond.instanceMethod yX0_freeFrom, Cond.selects RX0 yX0_freeFrom yX0_freeFrom, Cond.code yX0_freeFrom cX0_freeFrom 4 (some .int)]
def wsX0_makespanIfMoved_r3 : List Cond := [Cond.methodLink RX0 66 yX0_cell, Cond.static yX0_cell, Cond.code yX0_cell cX0_cell 2 (some .int), Cond.methodLink RX0 114 yX0_timeOf, Cond.instanceMethod yX0_timeOf, Cond.selects RX0 yX0_timeOf yX0_timeOf, Cond.code yX0_timeOf cX0_timeOf 3 (some .int), Cond.fieldLink RX0 16 "Flowforge" "times" "[I", Cond.methodLink RX0 160 yX0_lastEnd, Cond.instanceMethod yX0_lastEnd, Cond.selects RX0 yX0_lastEnd yX0_lastEnd, Cond.code yX0_lastEnd cX0_lastEnd 2 (some .int)]
def wsX0_makespanIfMoved : List Cond := .code yX0_makespanIfMoved cX0_makespanIfMoved 3 (some .int) :: ((wsX0_makespanIfMoved_r1 ++ (wsX0_makespanIfMoved_r2 ++ wsX0_makespanIfMoved_r3)) ++ wsX00 ++ (vx_atS RX0 135 "java/lang/IndexOutOfBoundsException" ["java/lang/RuntimeException", "java/lang/Exception"]).filter goodWord)
def wsX0_goesBefore : List Cond := .code yX0_goesBefore cX0_goesBefore 7 (some .boolean) :: ([.methodLink RX0 114 yX0_timeOf, .instanceMethod yX0_timeOf, .selects RX0 yX0_timeOf yX0_timeOf, .initialized RX0, .code yX0_timeOf cX0_timeOf 3 (some .int), .fieldLink RX0 16 "Flowforge" "times" "[I", .methodLink RX0 66 yX0_cell, .static yX0_cell, .code yX0_cell cX0_cell 2 (some .int)] ++ wsX00)
def wsX0_fillByRule : List Cond := .code yX0_fillByRule cX0_fillByRule 6 none :: ([.fieldLink RX0 7 "Flowforge" "jobCount" "I", .methodLink RX0 163 yX0_goesBefore, .instanceMethod yX0_goesBefore, .selects RX0 yX0_goesBefore yX0_goesBefore, .initialized RX0, .code yX0_goesBefore cX0_goesBefore 7 (some .boolean), .methodLink RX0 114 yX0_timeOf, .instanceMethod yX0_timeOf, .selects RX0 yX0_timeOf yX0_timeOf, .code yX0_timeOf cX0_timeOf 3 (some .int), .fieldLink RX0 16 "Flowforge" "times" "[I", .methodLink RX0 66 yX0_cell, .static yX0_cell, .code yX0_cell cX0_cell 2 (some .int)] ++ wsX00)
def wsX0_scheduleOrder_r1 : List Cond := [Cond.fieldLink RX0 7 "Flowforge" "jobCount" "I", Cond.fieldLink RX0 29 "Flowforge" "order" "[I", Cond.methodLink RX0 156 yX0_scheduleJob, Cond.instanceMethod yX0_scheduleJob, Cond.selects RX0 yX0_scheduleJob yX0_scheduleJob, Cond.initialized RX0, Cond.code yX0_scheduleJob cX0_scheduleJob 7 none, Cond.fieldLink RX0 13 "Flowforge" "machineCount" "I", Cond.methodLink RX0 167 Lib.Math.max.name, Cond.static Lib.Math.max.name, Cond.initialized "java/lang/Math", Cond.code Lib.Math.max.name Lib.Math.max.code 2 (some .int), Cond.fieldLink RX0 20 "Flowforge" "begins" "[I", Cond.fieldLink RX0 23 "Flowforge" "ends" "[I", Cond.methodLink RX0 170 yX0_beginWithoutWaiting, Cond.instanceMethod yX0_beginWithoutWaiting, Cond.selects RX0 yX0_beginWithoutWaiting yX0_beginWithoutWaiting, Cond.code yX0_beginWithoutWaiting cX0_beginWithoutWaiting 6 (some .int), Cond.methodLink RX0 173 yX0_freeFrom, Cond.instanceMethod yX0_freeFrom, Cond.selects RX0 yX0_freeFrom yX0_freeFrom, Cond.code yX0_freeFrom cX0_freeFrom 4 (some .int), Cond.methodLink RX0 66 yX0_cell, Cond.static yX0_cell]
def wsX0_scheduleOrder_r2 : List Cond := [Cond.code yX0_cell cX0_cell 2 (some .int), Cond.methodLink RX0 114 yX0_timeOf, Cond.instanceMethod yX0_timeOf, Cond.selects RX0 yX0_timeOf yX0_timeOf, Cond.code yX0_timeOf cX0_timeOf 3 (some .int), Cond.fieldLink RX0 16 "Flowforge" "times" "[I", Cond.methodLink RX0 160 yX0_lastEnd, Cond.instanceMethod yX0_lastEnd, Cond.selects RX0 yX0_lastEnd yX0_lastEnd, Cond.code yX0_lastEnd cX0_lastEnd 2 (some .int)]
def wsX0_scheduleOrder : List Cond := .code yX0_scheduleOrder cX0_scheduleOrder 3 (some .int) :: ((wsX0_scheduleOrder_r1 ++ wsX0_scheduleOrder_r2) ++ wsX00)
def wsX0_orderByRule_r1 : List Cond := [Cond.classLink RX0 51 "java/lang/IllegalStateException", Cond.initialized "java/lang/IllegalStateException", Cond.fieldLink RX0 13 "Flowforge" "machineCount" "I", Cond.fieldLink RX0 29 "Flowforge" "order" "[I", Cond.methodLink RX0 96 yX0_fillByRule, Cond.instanceMethod yX0_fillByRule, Cond.selects RX0 yX0_fillByRule yX0_fillByRule, Cond.initialized RX0, Cond.code yX0_fillByRule cX0_fillByRule 6 none, Cond.fieldLink RX0 7 "Flowforge" "jobCount" "I", Cond.methodLink RX0 163 yX0_goesBefore, Cond.instanceMethod yX0_goesBefore, Cond.selects RX0 yX0_goesBefore yX0_goesBefore, Cond.code yX0_goesBefore cX0_goesBefore 7 (some .boolean), Cond.methodLink RX0 114 yX0_timeOf, Cond.instanceMethod yX0_timeOf, Cond.selects RX0 yX0_timeOf yX0_timeOf, Cond.code yX0_timeOf cX0_timeOf 3 (some .int), Cond.fieldLink RX0 16 "Flowforge" "times" "[I", Cond.methodLink RX0 66 yX0_cell, Cond.static yX0_cell, Cond.code yX0_cell cX0_cell 2 (some .int), Cond.methodLink RX0 99 yX0_scheduleOrder, Cond.instanceMethod yX0_scheduleOrder]
def wsX0_orderByRule_r2 : List Cond := [Cond.selects RX0 yX0_scheduleOrder yX0_scheduleOrder, Cond.code yX0_scheduleOrder cX0_scheduleOrder 3 (some .int), Cond.methodLink RX0 156 yX0_scheduleJob, Cond.instanceMethod yX0_scheduleJob, Cond.selects RX0 yX0_scheduleJob yX0_scheduleJob, Cond.code yX0_scheduleJob cX0_scheduleJob 7 none, Cond.methodLink RX0 167 Lib.Math.max.name, Cond.static Lib.Math.max.name, Cond.initialized "java/lang/Math", Cond.code Lib.Math.max.name Lib.Math.max.code 2 (some .int), Cond.fieldLink RX0 20 "Flowforge" "begins" "[I", Cond.fieldLink RX0 23 "Flowforge" "ends" "[I", Cond.methodLink RX0 170 yX0_beginWithoutWaiting, Cond.instanceMethod yX0_beginWithoutWaiting, Cond.selects RX0 yX0_beginWithoutWaiting yX0_beginWithoutWaiting, Cond.code yX0_beginWithoutWaiting cX0_beginWithoutWaiting 6 (some .int), Cond.methodLink RX0 173 yX0_freeFrom, Cond.instanceMethod yX0_freeFrom, Cond.selects RX0 yX0_freeFrom yX0_freeFrom, Cond.code yX0_freeFrom cX0_freeFrom 4 (some .int), Cond.methodLink RX0 160 yX0_lastEnd, Cond.instanceMethod yX0_lastEnd, Cond.selects RX0 yX0_lastEnd yX0_lastEnd, Cond.code yX0_lastEnd cX0_lastEnd 2 (some .int)]
def wsX0_orderByRule : List Cond := .code yX0_orderByRule cX0_orderByRule 1 (some .int) :: ((wsX0_orderByRule_r1 ++ wsX0_orderByRule_r2) ++ wsX00 ++ (vx_atS RX0 55 "java/lang/IllegalStateException" ["java/lang/RuntimeException", "java/lang/Exception"]).filter goodWord)
def wsX0_sumOf : List Cond := .code yX0_sumOf cX0_sumOf 6 (some .int) :: ([.methodLink RX0 114 yX0_timeOf, .instanceMethod yX0_timeOf, .selects RX0 yX0_timeOf yX0_timeOf, .initialized RX0, .code yX0_timeOf cX0_timeOf 3 (some .int), .fieldLink RX0 16 "Flowforge" "times" "[I", .methodLink RX0 66 yX0_cell, .static yX0_cell, .code yX0_cell cX0_cell 2 (some .int)] ++ wsX00)
def wsX0_fillQueueBySum : List Cond := .code yX0_fillQueueBySum cX0_fillQueueBySum 4 none :: ([.fieldLink RX0 7 "Flowforge" "jobCount" "I", .fieldLink RX0 13 "Flowforge" "machineCount" "I", .fieldLink RX0 35 "Flowforge" "queue" "[I", .methodLink RX0 142 yX0_sumOf, .instanceMethod yX0_sumOf, .selects RX0 yX0_sumOf yX0_sumOf, .initialized RX0, .code yX0_sumOf cX0_sumOf 6 (some .int), .methodLink RX0 114 yX0_timeOf, .instanceMethod yX0_timeOf, .selects RX0 yX0_timeOf yX0_timeOf, .code yX0_timeOf cX0_timeOf 3 (some .int), .fieldLink RX0 16 "Flowforge" "times" "[I", .methodLink RX0 66 yX0_cell, .static yX0_cell, .code yX0_cell cX0_cell 2 (some .int)] ++ wsX00)
def wsX0_placeForLast_r1 : List Cond := [Cond.methodLink RX0 90 yX0_makespanIfShifted, Cond.instanceMethod yX0_makespanIfShifted, Cond.selects RX0 yX0_makespanIfShifted yX0_makespanIfShifted, Cond.initialized RX0, Cond.code yX0_makespanIfShifted cX0_makespanIfShifted 5 (some .int), Cond.fieldLink RX0 29 "Flowforge" "order" "[I", Cond.fieldLink RX0 32 "Flowforge" "trial" "[I", Cond.methodLink RX0 150 arraycopyName, Cond.native arraycopyName, Cond.static arraycopyName, Cond.initialized "java/lang/System", Cond.methodLink RX0 86 yX0_shift, Cond.static yX0_shift, Cond.code yX0_shift cX0_shift 5 none, Cond.methodLink RX0 156 yX0_scheduleJob, Cond.instanceMethod yX0_scheduleJob, Cond.selects RX0 yX0_scheduleJob yX0_scheduleJob, Cond.code yX0_scheduleJob cX0_scheduleJob 7 none, Cond.fieldLink RX0 13 "Flowforge" "machineCount" "I", Cond.methodLink RX0 167 Lib.Math.max.name, Cond.static Lib.Math.max.name, Cond.initialized "java/lang/Math", Cond.code Lib.Math.max.name Lib.Math.max.code 2 (some .int), Cond.fieldLink RX0 20 "Flowforge" "begins" "[I"]
def wsX0_placeForLast_r2 : List Cond := [Cond.fieldLink RX0 23 "Flowforge" "ends" "[I", Cond.methodLink RX0 170 yX0_beginWithoutWaiting, Cond.instanceMethod yX0_beginWithoutWaiting, Cond.selects RX0 yX0_beginWithoutWaiting yX0_beginWithoutWaiting, Cond.code yX0_beginWithoutWaiting cX0_beginWithoutWaiting 6 (some .int), Cond.methodLink RX0 173 yX0_freeFrom, Cond.instanceMethod yX0_freeFrom, Cond.selects RX0 yX0_freeFrom yX0_freeFrom, Cond.code yX0_freeFrom cX0_freeFrom 4 (some .int), Cond.methodLink RX0 66 yX0_cell, Cond.static yX0_cell, Cond.code yX0_cell cX0_cell 2 (some .int), Cond.methodLink RX0 114 yX0_timeOf, Cond.instanceMethod yX0_timeOf, Cond.selects RX0 yX0_timeOf yX0_timeOf, Cond.code yX0_timeOf cX0_timeOf 3 (some .int), Cond.fieldLink RX0 16 "Flowforge" "times" "[I", Cond.methodLink RX0 160 yX0_lastEnd, Cond.instanceMethod yX0_lastEnd, Cond.selects RX0 yX0_lastEnd yX0_lastEnd, Cond.code yX0_lastEnd cX0_lastEnd 2 (some .int)]
def wsX0_placeForLast : List Cond := .code yX0_placeForLast cX0_placeForLast 6 (some .int) :: ((wsX0_placeForLast_r1 ++ wsX0_placeForLast_r2) ++ wsX00)
def wsX0_orderByInsertion_r1 : List Cond := [Cond.fieldLink RX0 7 "Flowforge" "jobCount" "I", Cond.fieldLink RX0 29 "Flowforge" "order" "[I", Cond.fieldLink RX0 35 "Flowforge" "queue" "[I", Cond.methodLink RX0 102 yX0_fillQueueBySum, Cond.instanceMethod yX0_fillQueueBySum, Cond.selects RX0 yX0_fillQueueBySum yX0_fillQueueBySum, Cond.initialized RX0, Cond.code yX0_fillQueueBySum cX0_fillQueueBySum 4 none, Cond.fieldLink RX0 13 "Flowforge" "machineCount" "I", Cond.methodLink RX0 142 yX0_sumOf, Cond.instanceMethod yX0_sumOf, Cond.selects RX0 yX0_sumOf yX0_sumOf, Cond.code yX0_sumOf cX0_sumOf 6 (some .int), Cond.methodLink RX0 114 yX0_timeOf, Cond.instanceMethod yX0_timeOf, Cond.selects RX0 yX0_timeOf yX0_timeOf, Cond.code yX0_timeOf cX0_timeOf 3 (some .int), Cond.fieldLink RX0 16 "Flowforge" "times" "[I", Cond.methodLink RX0 66 yX0_cell, Cond.static yX0_cell, Cond.code yX0_cell cX0_cell 2 (some .int), Cond.methodLink RX0 105 yX0_placeForLast, Cond.instanceMethod yX0_placeForLast, Cond.selects RX0 yX0_placeForLast yX0_placeForLast]
def wsX0_orderByInsertion_r2 : List Cond := [Cond.code yX0_placeForLast cX0_placeForLast 6 (some .int), Cond.methodLink RX0 90 yX0_makespanIfShifted, Cond.instanceMethod yX0_makespanIfShifted, Cond.selects RX0 yX0_makespanIfShifted yX0_makespanIfShifted, Cond.code yX0_makespanIfShifted cX0_makespanIfShifted 5 (some .int), Cond.fieldLink RX0 32 "Flowforge" "trial" "[I", Cond.methodLink RX0 150 arraycopyName, Cond.native arraycopyName, Cond.static arraycopyName, Cond.initialized "java/lang/System", Cond.methodLink RX0 86 yX0_shift, Cond.static yX0_shift, Cond.code yX0_shift cX0_shift 5 none, Cond.methodLink RX0 156 yX0_scheduleJob, Cond.instanceMethod yX0_scheduleJob, Cond.selects RX0 yX0_scheduleJob yX0_scheduleJob, Cond.code yX0_scheduleJob cX0_scheduleJob 7 none, Cond.methodLink RX0 167 Lib.Math.max.name, Cond.static Lib.Math.max.name, Cond.initialized "java/lang/Math", Cond.code Lib.Math.max.name Lib.Math.max.code 2 (some .int), Cond.fieldLink RX0 20 "Flowforge" "begins" "[I", Cond.fieldLink RX0 23 "Flowforge" "ends" "[I", Cond.methodLink RX0 170 yX0_beginWithoutWaiting]
def wsX0_orderByInsertion_r3 : List Cond := [Cond.instanceMethod yX0_beginWithoutWaiting, Cond.selects RX0 yX0_beginWithoutWaiting yX0_beginWithoutWaiting, Cond.code yX0_beginWithoutWaiting cX0_beginWithoutWaiting 6 (some .int), Cond.methodLink RX0 173 yX0_freeFrom, Cond.instanceMethod yX0_freeFrom, Cond.selects RX0 yX0_freeFrom yX0_freeFrom, Cond.code yX0_freeFrom cX0_freeFrom 4 (some .int), Cond.methodLink RX0 160 yX0_lastEnd, Cond.instanceMethod yX0_lastEnd, Cond.selects RX0 yX0_lastEnd yX0_lastEnd, Cond.code yX0_lastEnd cX0_lastEnd 2 (some .int), Cond.methodLink RX0 99 yX0_scheduleOrder, Cond.instanceMethod yX0_scheduleOrder, Cond.selects RX0 yX0_scheduleOrder yX0_scheduleOrder, Cond.code yX0_scheduleOrder cX0_scheduleOrder 3 (some .int)]
def wsX0_orderByInsertion : List Cond := .code yX0_orderByInsertion cX0_orderByInsertion 2 (some .int) :: ((wsX0_orderByInsertion_r1 ++ (wsX0_orderByInsertion_r2 ++ wsX0_orderByInsertion_r3)) ++ wsX00)
def wsX0_improve_r1 : List Cond := [Cond.fieldLink RX0 7 "Flowforge" "jobCount" "I", Cond.fieldLink RX0 29 "Flowforge" "order" "[I", Cond.methodLink RX0 99 yX0_scheduleOrder, Cond.instanceMethod yX0_scheduleOrder, Cond.selects RX0 yX0_scheduleOrder yX0_scheduleOrder, Cond.initialized RX0, Cond.code yX0_scheduleOrder cX0_scheduleOrder 3 (some .int), Cond.methodLink RX0 156 yX0_scheduleJob, Cond.instanceMethod yX0_scheduleJob, Cond.selects RX0 yX0_scheduleJob yX0_scheduleJob, Cond.code yX0_scheduleJob cX0_scheduleJob 7 none, Cond.fieldLink RX0 13 "Flowforge" "machineCount" "I", Cond.methodLink RX0 167 Lib.Math.max.name, Cond.static Lib.Math.max.name, Cond.initialized "java/lang/Math", Cond.code Lib.Math.max.name Lib.Math.max.code 2 (some .int), Cond.fieldLink RX0 20 "Flowforge" "begins" "[I", Cond.fieldLink RX0 23 "Flowforge" "ends" "[I", Cond.methodLink RX0 170 yX0_beginWithoutWaiting, Cond.instanceMethod yX0_beginWithoutWaiting, Cond.selects RX0 yX0_beginWithoutWaiting yX0_beginWithoutWaiting, Cond.code yX0_beginWithoutWaiting cX0_beginWithoutWaiting 6 (some .int), Cond.methodLink RX0 173 yX0_freeFrom, Cond.instanceMethod yX0_freeFrom]
def wsX0_improve_r2 : List Cond := [Cond.selects RX0 yX0_freeFrom yX0_freeFrom, Cond.code yX0_freeFrom cX0_freeFrom 4 (some .int), Cond.methodLink RX0 66 yX0_cell, Cond.static yX0_cell, Cond.code yX0_cell cX0_cell 2 (some .int), Cond.methodLink RX0 114 yX0_timeOf, Cond.instanceMethod yX0_timeOf, Cond.selects RX0 yX0_timeOf yX0_timeOf, Cond.code yX0_timeOf cX0_timeOf 3 (some .int), Cond.fieldLink RX0 16 "Flowforge" "times" "[I", Cond.methodLink RX0 160 yX0_lastEnd, Cond.instanceMethod yX0_lastEnd, Cond.selects RX0 yX0_lastEnd yX0_lastEnd, Cond.code yX0_lastEnd cX0_lastEnd 2 (some .int), Cond.methodLink RX0 90 yX0_makespanIfShifted, Cond.instanceMethod yX0_makespanIfShifted, Cond.selects RX0 yX0_makespanIfShifted yX0_makespanIfShifted, Cond.code yX0_makespanIfShifted cX0_makespanIfShifted 5 (some .int), Cond.fieldLink RX0 32 "Flowforge" "trial" "[I", Cond.methodLink RX0 150 arraycopyName, Cond.native arraycopyName, Cond.static arraycopyName, Cond.initialized "java/lang/System", Cond.methodLink RX0 86 yX0_shift]
def wsX0_improve_r3 : List Cond := [Cond.static yX0_shift, Cond.code yX0_shift cX0_shift 5 none]
def wsX0_improve : List Cond := .code yX0_improve cX0_improve 8 (some .int) :: ((wsX0_improve_r1 ++ (wsX0_improve_r2 ++ wsX0_improve_r3)) ++ wsX00)
def wsX0_requireVariant : List Cond := .code yX0_requireVariant cX0_requireVariant 1 none :: ([.classLink RX0 61 "java/lang/IllegalArgumentException", .initialized "java/lang/IllegalArgumentException"] ++ (vx_atS RX0 65 "java/lang/IllegalArgumentException" ["java/lang/RuntimeException", "java/lang/Exception"]).filter goodWord)
def wsX0_makespan_r1 : List Cond := [Cond.methodLink RX0 108 yX0_requireVariant, Cond.static yX0_requireVariant, Cond.initialized RX0, Cond.code yX0_requireVariant cX0_requireVariant 1 none, Cond.classLink RX0 61 "java/lang/IllegalArgumentException", Cond.initialized "java/lang/IllegalArgumentException", Cond.methodLink RX0 99 yX0_scheduleOrder, Cond.instanceMethod yX0_scheduleOrder, Cond.selects RX0 yX0_scheduleOrder yX0_scheduleOrder, Cond.code yX0_scheduleOrder cX0_scheduleOrder 3 (some .int), Cond.fieldLink RX0 7 "Flowforge" "jobCount" "I", Cond.fieldLink RX0 29 "Flowforge" "order" "[I", Cond.methodLink RX0 156 yX0_scheduleJob, Cond.instanceMethod yX0_scheduleJob, Cond.selects RX0 yX0_scheduleJob yX0_scheduleJob, Cond.code yX0_scheduleJob cX0_scheduleJob 7 none, Cond.fieldLink RX0 13 "Flowforge" "machineCount" "I", Cond.methodLink RX0 167 Lib.Math.max.name, Cond.static Lib.Math.max.name, Cond.initialized "java/lang/Math", Cond.code Lib.Math.max.name Lib.Math.max.code 2 (some .int), Cond.fieldLink RX0 20 "Flowforge" "begins" "[I", Cond.fieldLink RX0 23 "Flowforge" "ends" "[I", Cond.methodLink RX0 170 yX0_beginWithoutWaiting]
def wsX0_makespan_r2 : List Cond := [Cond.instanceMethod yX0_beginWithoutWaiting, Cond.selects RX0 yX0_beginWithoutWaiting yX0_beginWithoutWaiting, Cond.code yX0_beginWithoutWaiting cX0_beginWithoutWaiting 6 (some .int), Cond.methodLink RX0 173 yX0_freeFrom, Cond.instanceMethod yX0_freeFrom, Cond.selects RX0 yX0_freeFrom yX0_freeFrom, Cond.code yX0_freeFrom cX0_freeFrom 4 (some .int), Cond.methodLink RX0 66 yX0_cell, Cond.static yX0_cell, Cond.code yX0_cell cX0_cell 2 (some .int), Cond.methodLink RX0 114 yX0_timeOf, Cond.instanceMethod yX0_timeOf, Cond.selects RX0 yX0_timeOf yX0_timeOf, Cond.code yX0_timeOf cX0_timeOf 3 (some .int), Cond.fieldLink RX0 16 "Flowforge" "times" "[I", Cond.methodLink RX0 160 yX0_lastEnd, Cond.instanceMethod yX0_lastEnd, Cond.selects RX0 yX0_lastEnd yX0_lastEnd, Cond.code yX0_lastEnd cX0_lastEnd 2 (some .int)]
def wsX0_makespan : List Cond := .code yX0_makespan cX0_makespan 2 (some .int) :: ((wsX0_makespan_r1 ++ wsX0_makespan_r2) ++ wsX00 ++ (vx_atS RX0 65 "java/lang/IllegalArgumentException" ["java/lang/RuntimeException", "java/lang/Exception"]).filter goodWord)
def wsX0_begin_r1 : List Cond := [Cond.fieldLink RX0 20 "Flowforge" "begins" "[I", Cond.methodLink RX0 108 yX0_requireVariant, Cond.static yX0_requireVariant, Cond.initialized RX0, Cond.code yX0_requireVariant cX0_requireVariant 1 none, Cond.classLink RX0 61 "java/lang/IllegalArgumentException", Cond.initialized "java/lang/IllegalArgumentException", Cond.methodLink RX0 79 yX0_requirePlace, Cond.instanceMethod yX0_requirePlace, Cond.selects RX0 yX0_requirePlace yX0_requirePlace, Cond.code yX0_requirePlace cX0_requirePlace 2 none, Cond.classLink RX0 131 "java/lang/IndexOutOfBoundsException", Cond.initialized "java/lang/IndexOutOfBoundsException", Cond.fieldLink RX0 7 "Flowforge" "jobCount" "I", Cond.methodLink RX0 74 yX0_requireMachine, Cond.instanceMethod yX0_requireMachine, Cond.selects RX0 yX0_requireMachine yX0_requireMachine, Cond.code yX0_requireMachine cX0_requireMachine 2 none, Cond.fieldLink RX0 13 "Flowforge" "machineCount" "I", Cond.methodLink RX0 99 yX0_scheduleOrder, Cond.instanceMethod yX0_scheduleOrder, Cond.selects RX0 yX0_scheduleOrder yX0_scheduleOrder, Cond.code yX0_scheduleOrder cX0_scheduleOrder 3 (some .int), Cond.fieldLink RX0 29 "Flowforge" "order" "[I"]
def wsX0_begin_r2 : List Cond := [Cond.methodLink RX0 156 yX0_scheduleJob, Cond.instanceMethod yX0_scheduleJob, Cond.selects RX0 yX0_scheduleJob yX0_scheduleJob, Cond.code yX0_scheduleJob cX0_scheduleJob 7 none, Cond.methodLink RX0 167 Lib.Math.max.name, Cond.static Lib.Math.max.name, Cond.initialized "java/lang/Math", Cond.code Lib.Math.max.name Lib.Math.max.code 2 (some .int), Cond.fieldLink RX0 23 "Flowforge" "ends" "[I", Cond.methodLink RX0 170 yX0_beginWithoutWaiting, Cond.instanceMethod yX0_beginWithoutWaiting, Cond.selects RX0 yX0_beginWithoutWaiting yX0_beginWithoutWaiting, Cond.code yX0_beginWithoutWaiting cX0_beginWithoutWaiting 6 (some .int), Cond.methodLink RX0 173 yX0_freeFrom, Cond.instanceMethod yX0_freeFrom, Cond.selects RX0 yX0_freeFrom yX0_freeFrom, Cond.code yX0_freeFrom cX0_freeFrom 4 (some .int), Cond.methodLink RX0 66 yX0_cell, Cond.static yX0_cell, Cond.code yX0_cell cX0_cell 2 (some .int), Cond.methodLink RX0 114 yX0_timeOf, Cond.instanceMethod yX0_timeOf, Cond.selects RX0 yX0_timeOf yX0_timeOf, Cond.code yX0_timeOf cX0_timeOf 3 (some .int)]
def wsX0_begin_r3 : List Cond := [Cond.fieldLink RX0 16 "Flowforge" "times" "[I", Cond.methodLink RX0 160 yX0_lastEnd, Cond.instanceMethod yX0_lastEnd, Cond.selects RX0 yX0_lastEnd yX0_lastEnd, Cond.code yX0_lastEnd cX0_lastEnd 2 (some .int)]
def wsX0_begin : List Cond := .code yX0_begin cX0_begin 4 (some .int) :: ((wsX0_begin_r1 ++ (wsX0_begin_r2 ++ wsX0_begin_r3)) ++ wsX00 ++ (vx_atS RX0 65 "java/lang/IllegalArgumentException" ["java/lang/RuntimeException", "java/lang/Exception"]).filter goodWord ++ (vx_atS RX0 135 "java/lang/IndexOutOfBoundsException" ["java/lang/RuntimeException", "java/lang/Exception"]).filter goodWord)
def wsX0_totalTime_r1 : List Cond := [Cond.fieldLink RX0 7 "Flowforge" "jobCount" "I", Cond.fieldLink RX0 23 "Flowforge" "ends" "[I", Cond.fieldLink RX0 13 "Flowforge" "machineCount" "I", Cond.methodLink RX0 99 yX0_scheduleOrder, Cond.instanceMethod yX0_scheduleOrder, Cond.selects RX0 yX0_scheduleOrder yX0_scheduleOrder, Cond.initialized RX0, Cond.code yX0_scheduleOrder cX0_scheduleOrder 3 (some .int), Cond.fieldLink RX0 29 "Flowforge" "order" "[I", Cond.methodLink RX0 156 yX0_scheduleJob, Cond.instanceMethod yX0_scheduleJob, Cond.selects RX0 yX0_scheduleJob yX0_scheduleJob, Cond.code yX0_scheduleJob cX0_scheduleJob 7 none, Cond.methodLink RX0 167 Lib.Math.max.name, Cond.static Lib.Math.max.name, Cond.initialized "java/lang/Math", Cond.code Lib.Math.max.name Lib.Math.max.code 2 (some .int), Cond.fieldLink RX0 20 "Flowforge" "begins" "[I", Cond.methodLink RX0 170 yX0_beginWithoutWaiting, Cond.instanceMethod yX0_beginWithoutWaiting, Cond.selects RX0 yX0_beginWithoutWaiting yX0_beginWithoutWaiting, Cond.code yX0_beginWithoutWaiting cX0_beginWithoutWaiting 6 (some .int), Cond.methodLink RX0 173 yX0_freeFrom, Cond.instanceMethod yX0_freeFrom]
def wsX0_totalTime_r2 : List Cond := [Cond.selects RX0 yX0_freeFrom yX0_freeFrom, Cond.code yX0_freeFrom cX0_freeFrom 4 (some .int), Cond.methodLink RX0 66 yX0_cell, Cond.static yX0_cell, Cond.code yX0_cell cX0_cell 2 (some .int), Cond.methodLink RX0 114 yX0_timeOf, Cond.instanceMethod yX0_timeOf, Cond.selects RX0 yX0_timeOf yX0_timeOf, Cond.code yX0_timeOf cX0_timeOf 3 (some .int), Cond.fieldLink RX0 16 "Flowforge" "times" "[I", Cond.methodLink RX0 160 yX0_lastEnd, Cond.instanceMethod yX0_lastEnd, Cond.selects RX0 yX0_lastEnd yX0_lastEnd, Cond.code yX0_lastEnd cX0_lastEnd 2 (some .int)]
def wsX0_totalTime : List Cond := .code yX0_totalTime cX0_totalTime 3 (some .int) :: ((wsX0_totalTime_r1 ++ wsX0_totalTime_r2) ++ wsX00)
def wsX0_head_r1 : List Cond := [Cond.fieldLink RX0 23 "Flowforge" "ends" "[I", Cond.methodLink RX0 79 yX0_requirePlace, Cond.instanceMethod yX0_requirePlace, Cond.selects RX0 yX0_requirePlace yX0_requirePlace, Cond.initialized RX0, Cond.code yX0_requirePlace cX0_requirePlace 2 none, Cond.classLink RX0 131 "java/lang/IndexOutOfBoundsException", Cond.initialized "java/lang/IndexOutOfBoundsException", Cond.fieldLink RX0 7 "Flowforge" "jobCount" "I", Cond.methodLink RX0 74 yX0_requireMachine, Cond.instanceMethod yX0_requireMachine, Cond.selects RX0 yX0_requireMachine yX0_requireMachine, Cond.code yX0_requireMachine cX0_requireMachine 2 none, Cond.fieldLink RX0 13 "Flowforge" "machineCount" "I", Cond.methodLink RX0 99 yX0_scheduleOrder, Cond.instanceMethod yX0_scheduleOrder, Cond.selects RX0 yX0_scheduleOrder yX0_scheduleOrder, Cond.code yX0_scheduleOrder cX0_scheduleOrder 3 (some .int), Cond.fieldLink RX0 29 "Flowforge" "order" "[I", Cond.methodLink RX0 156 yX0_scheduleJob, Cond.instanceMethod yX0_scheduleJob, Cond.selects RX0 yX0_scheduleJob yX0_scheduleJob, Cond.code yX0_scheduleJob cX0_scheduleJob 7 none, Cond.methodLink RX0 167 Lib.Math.max.name]
def wsX0_head_r2 : List Cond := [Cond.static Lib.Math.max.name, Cond.initialized "java/lang/Math", Cond.code Lib.Math.max.name Lib.Math.max.code 2 (some .int), Cond.fieldLink RX0 20 "Flowforge" "begins" "[I", Cond.methodLink RX0 170 yX0_beginWithoutWaiting, Cond.instanceMethod yX0_beginWithoutWaiting, Cond.selects RX0 yX0_beginWithoutWaiting yX0_beginWithoutWaiting, Cond.code yX0_beginWithoutWaiting cX0_beginWithoutWaiting 6 (some .int), Cond.methodLink RX0 173 yX0_freeFrom, Cond.instanceMethod yX0_freeFrom, Cond.selects RX0 yX0_freeFrom yX0_freeFrom, Cond.code yX0_freeFrom cX0_freeFrom 4 (some .int), Cond.methodLink RX0 66 yX0_cell, Cond.static yX0_cell, Cond.code yX0_cell cX0_cell 2 (some .int), Cond.methodLink RX0 114 yX0_timeOf, Cond.instanceMethod yX0_timeOf, Cond.selects RX0 yX0_timeOf yX0_timeOf, Cond.code yX0_timeOf cX0_timeOf 3 (some .int), Cond.fieldLink RX0 16 "Flowforge" "times" "[I", Cond.methodLink RX0 160 yX0_lastEnd, Cond.instanceMethod yX0_lastEnd, Cond.selects RX0 yX0_lastEnd yX0_lastEnd, Cond.code yX0_lastEnd cX0_lastEnd 2 (some .int)]
def wsX0_head : List Cond := .code yX0_head cX0_head 3 (some .int) :: ((wsX0_head_r1 ++ wsX0_head_r2) ++ wsX00 ++ (vx_atS RX0 135 "java/lang/IndexOutOfBoundsException" ["java/lang/RuntimeException", "java/lang/Exception"]).filter goodWord)
def wsX0_fillTails : List Cond := .code yX0_fillTails cX0_fillTails 4 none :: ([.fieldLink RX0 7 "Flowforge" "jobCount" "I", .fieldLink RX0 13 "Flowforge" "machineCount" "I", .fieldLink RX0 26 "Flowforge" "tails" "[I", .methodLink RX0 167 Lib.Math.max.name, .static Lib.Math.max.name, .initialized "java/lang/Math", .code Lib.Math.max.name Lib.Math.max.code 2 (some .int), .fieldLink RX0 29 "Flowforge" "order" "[I", .methodLink RX0 66 yX0_cell, .static yX0_cell, .initialized RX0, .code yX0_cell cX0_cell 2 (some .int), .methodLink RX0 114 yX0_timeOf, .instanceMethod yX0_timeOf, .selects RX0 yX0_timeOf yX0_timeOf, .code yX0_timeOf cX0_timeOf 3 (some .int), .fieldLink RX0 16 "Flowforge" "times" "[I"] ++ wsX00)
def wsX0_tail_r1 : List Cond := [Cond.fieldLink RX0 26 "Flowforge" "tails" "[I", Cond.methodLink RX0 79 yX0_requirePlace, Cond.instanceMethod yX0_requirePlace, Cond.selects RX0 yX0_requirePlace yX0_requirePlace, Cond.initialized RX0, Cond.code yX0_requirePlace cX0_requirePlace 2 none, Cond.classLink RX0 131 "java/lang/IndexOutOfBoundsException", Cond.initialized "java/lang/IndexOutOfBoundsException", Cond.fieldLink RX0 7 "Flowforge" "jobCount" "I", Cond.methodLink RX0 74 yX0_requireMachine, Cond.instanceMethod yX0_requireMachine, Cond.selects RX0 yX0_requireMachine yX0_requireMachine, Cond.code yX0_requireMachine cX0_requireMachine 2 none, Cond.fieldLink RX0 13 "Flowforge" "machineCount" "I", Cond.methodLink RX0 111 yX0_fillTails, Cond.instanceMethod yX0_fillTails, Cond.selects RX0 yX0_fillTails yX0_fillTails, Cond.code yX0_fillTails cX0_fillTails 4 none, Cond.methodLink RX0 167 Lib.Math.max.name, Cond.static Lib.Math.max.name, Cond.initialized "java/lang/Math", Cond.code Lib.Math.max.name Lib.Math.max.code 2 (some .int), Cond.fieldLink RX0 29 "Flowforge" "order" "[I", Cond.methodLink RX0 66 yX0_cell]
def wsX0_tail_r2 : List Cond := [Cond.static yX0_cell, Cond.code yX0_cell cX0_cell 2 (some .int), Cond.methodLink RX0 114 yX0_timeOf, Cond.instanceMethod yX0_timeOf, Cond.selects RX0 yX0_timeOf yX0_timeOf, Cond.code yX0_timeOf cX0_timeOf 3 (some .int), Cond.fieldLink RX0 16 "Flowforge" "times" "[I"]
def wsX0_tail : List Cond := .code yX0_tail cX0_tail 3 (some .int) :: ((wsX0_tail_r1 ++ wsX0_tail_r2) ++ wsX00 ++ (vx_atS RX0 135 "java/lang/IndexOutOfBoundsException" ["java/lang/RuntimeException", "java/lang/Exception"]).filter goodWord)
def wsX0_isCritical_r1 : List Cond := [Cond.fieldLink RX0 23 "Flowforge" "ends" "[I", Cond.fieldLink RX0 26 "Flowforge" "tails" "[I", Cond.fieldLink RX0 29 "Flowforge" "order" "[I", Cond.methodLink RX0 79 yX0_requirePlace, Cond.instanceMethod yX0_requirePlace, Cond.selects RX0 yX0_requirePlace yX0_requirePlace, Cond.initialized RX0, Cond.code yX0_requirePlace cX0_requirePlace 2 none, Cond.classLink RX0 131 "java/lang/IndexOutOfBoundsException", Cond.initialized "java/lang/IndexOutOfBoundsException", Cond.fieldLink RX0 7 "Flowforge" "jobCount" "I", Cond.methodLink RX0 74 yX0_requireMachine, Cond.instanceMethod yX0_requireMachine, Cond.selects RX0 yX0_requireMachine yX0_requireMachine, Cond.code yX0_requireMachine cX0_requireMachine 2 none, Cond.fieldLink RX0 13 "Flowforge" "machineCount" "I", Cond.methodLink RX0 99 yX0_scheduleOrder, Cond.instanceMethod yX0_scheduleOrder, Cond.selects RX0 yX0_scheduleOrder yX0_scheduleOrder, Cond.code yX0_scheduleOrder cX0_scheduleOrder 3 (some .int), Cond.methodLink RX0 156 yX0_scheduleJob, Cond.instanceMethod yX0_scheduleJob, Cond.selects RX0 yX0_scheduleJob yX0_scheduleJob, Cond.code yX0_scheduleJob cX0_scheduleJob 7 none]
def wsX0_isCritical_r2 : List Cond := [Cond.methodLink RX0 167 Lib.Math.max.name, Cond.static Lib.Math.max.name, Cond.initialized "java/lang/Math", Cond.code Lib.Math.max.name Lib.Math.max.code 2 (some .int), Cond.fieldLink RX0 20 "Flowforge" "begins" "[I", Cond.methodLink RX0 170 yX0_beginWithoutWaiting, Cond.instanceMethod yX0_beginWithoutWaiting, Cond.selects RX0 yX0_beginWithoutWaiting yX0_beginWithoutWaiting, Cond.code yX0_beginWithoutWaiting cX0_beginWithoutWaiting 6 (some .int), Cond.methodLink RX0 173 yX0_freeFrom, Cond.instanceMethod yX0_freeFrom, Cond.selects RX0 yX0_freeFrom yX0_freeFrom, Cond.code yX0_freeFrom cX0_freeFrom 4 (some .int), Cond.methodLink RX0 66 yX0_cell, Cond.static yX0_cell, Cond.code yX0_cell cX0_cell 2 (some .int), Cond.methodLink RX0 114 yX0_timeOf, Cond.instanceMethod yX0_timeOf, Cond.selects RX0 yX0_timeOf yX0_timeOf, Cond.code yX0_timeOf cX0_timeOf 3 (some .int), Cond.fieldLink RX0 16 "Flowforge" "times" "[I", Cond.methodLink RX0 160 yX0_lastEnd, Cond.instanceMethod yX0_lastEnd, Cond.selects RX0 yX0_lastEnd yX0_lastEnd]
def wsX0_isCritical_r3 : List Cond := [Cond.code yX0_lastEnd cX0_lastEnd 2 (some .int), Cond.methodLink RX0 111 yX0_fillTails, Cond.instanceMethod yX0_fillTails, Cond.selects RX0 yX0_fillTails yX0_fillTails, Cond.code yX0_fillTails cX0_fillTails 4 none]
def wsX0_isCritical : List Cond := .code yX0_isCritical cX0_isCritical 5 (some .boolean) :: ((wsX0_isCritical_r1 ++ (wsX0_isCritical_r2 ++ wsX0_isCritical_r3)) ++ wsX00 ++ (vx_atS RX0 135 "java/lang/IndexOutOfBoundsException" ["java/lang/RuntimeException", "java/lang/Exception"]).filter goodWord)
def wsX0_loadOf : List Cond := .code yX0_loadOf cX0_loadOf 4 (some .int) :: ([.fieldLink RX0 7 "Flowforge" "jobCount" "I", .methodLink RX0 114 yX0_timeOf, .instanceMethod yX0_timeOf, .selects RX0 yX0_timeOf yX0_timeOf, .initialized RX0, .code yX0_timeOf cX0_timeOf 3 (some .int), .fieldLink RX0 16 "Flowforge" "times" "[I", .methodLink RX0 66 yX0_cell, .static yX0_cell, .code yX0_cell cX0_cell 2 (some .int)] ++ wsX00)
def wsX0_idle_r1 : List Cond := [Cond.fieldLink RX0 7 "Flowforge" "jobCount" "I", Cond.fieldLink RX0 23 "Flowforge" "ends" "[I", Cond.fieldLink RX0 20 "Flowforge" "begins" "[I", Cond.methodLink RX0 108 yX0_requireVariant, Cond.static yX0_requireVariant, Cond.initialized RX0, Cond.code yX0_requireVariant cX0_requireVariant 1 none, Cond.classLink RX0 61 "java/lang/IllegalArgumentException", Cond.initialized "java/lang/IllegalArgumentException", Cond.methodLink RX0 74 yX0_requireMachine, Cond.instanceMethod yX0_requireMachine, Cond.selects RX0 yX0_requireMachine yX0_requireMachine, Cond.code yX0_requireMachine cX0_requireMachine 2 none, Cond.classLink RX0 131 "java/lang/IndexOutOfBoundsException", Cond.initialized "java/lang/IndexOutOfBoundsException", Cond.fieldLink RX0 13 "Flowforge" "machineCount" "I", Cond.methodLink RX0 99 yX0_scheduleOrder, Cond.instanceMethod yX0_scheduleOrder, Cond.selects RX0 yX0_scheduleOrder yX0_scheduleOrder, Cond.code yX0_scheduleOrder cX0_scheduleOrder 3 (some .int), Cond.fieldLink RX0 29 "Flowforge" "order" "[I", Cond.methodLink RX0 156 yX0_scheduleJob, Cond.instanceMethod yX0_scheduleJob, Cond.selects RX0 yX0_scheduleJob yX0_scheduleJob]
def wsX0_idle_r2 : List Cond := [Cond.code yX0_scheduleJob cX0_scheduleJob 7 none, Cond.methodLink RX0 167 Lib.Math.max.name, Cond.static Lib.Math.max.name, Cond.initialized "java/lang/Math", Cond.code Lib.Math.max.name Lib.Math.max.code 2 (some .int), Cond.methodLink RX0 170 yX0_beginWithoutWaiting, Cond.instanceMethod yX0_beginWithoutWaiting, Cond.selects RX0 yX0_beginWithoutWaiting yX0_beginWithoutWaiting, Cond.code yX0_beginWithoutWaiting cX0_beginWithoutWaiting 6 (some .int), Cond.methodLink RX0 173 yX0_freeFrom, Cond.instanceMethod yX0_freeFrom, Cond.selects RX0 yX0_freeFrom yX0_freeFrom, Cond.code yX0_freeFrom cX0_freeFrom 4 (some .int), Cond.methodLink RX0 66 yX0_cell, Cond.static yX0_cell, Cond.code yX0_cell cX0_cell 2 (some .int), Cond.methodLink RX0 114 yX0_timeOf, Cond.instanceMethod yX0_timeOf, Cond.selects RX0 yX0_timeOf yX0_timeOf, Cond.code yX0_timeOf cX0_timeOf 3 (some .int), Cond.fieldLink RX0 16 "Flowforge" "times" "[I", Cond.methodLink RX0 160 yX0_lastEnd, Cond.instanceMethod yX0_lastEnd, Cond.selects RX0 yX0_lastEnd yX0_lastEnd]
def wsX0_idle_r3 : List Cond := [Cond.code yX0_lastEnd cX0_lastEnd 2 (some .int), Cond.methodLink RX0 117 yX0_loadOf, Cond.instanceMethod yX0_loadOf, Cond.selects RX0 yX0_loadOf yX0_loadOf, Cond.code yX0_loadOf cX0_loadOf 4 (some .int)]
def wsX0_idle : List Cond := .code yX0_idle cX0_idle 3 (some .int) :: ((wsX0_idle_r1 ++ (wsX0_idle_r2 ++ wsX0_idle_r3)) ++ wsX00 ++ (vx_atS RX0 65 "java/lang/IllegalArgumentException" ["java/lang/RuntimeException", "java/lang/Exception"]).filter goodWord ++ (vx_atS RX0 135 "java/lang/IndexOutOfBoundsException" ["java/lang/RuntimeException", "java/lang/Exception"]).filter goodWord)
def wsX0_leastSum : List Cond := .code yX0_leastSum cX0_leastSum 5 (some .int) :: ([.fieldLink RX0 7 "Flowforge" "jobCount" "I", .methodLink RX0 145 Lib.Math.min.name, .static Lib.Math.min.name, .initialized "java/lang/Math", .code Lib.Math.min.name Lib.Math.min.code 2 (some .int), .methodLink RX0 142 yX0_sumOf, .instanceMethod yX0_sumOf, .selects RX0 yX0_sumOf yX0_sumOf, .initialized RX0, .code yX0_sumOf cX0_sumOf 6 (some .int), .methodLink RX0 114 yX0_timeOf, .instanceMethod yX0_timeOf, .selects RX0 yX0_timeOf yX0_timeOf, .code yX0_timeOf cX0_timeOf 3 (some .int), .fieldLink RX0 16 "Flowforge" "times" "[I", .methodLink RX0 66 yX0_cell, .static yX0_cell, .code yX0_cell cX0_cell 2 (some .int)] ++ wsX00)
def wsX0_machineBound_r1 : List Cond := [Cond.fieldLink RX0 13 "Flowforge" "machineCount" "I", Cond.methodLink RX0 74 yX0_requireMachine, Cond.instanceMethod yX0_requireMachine, Cond.selects RX0 yX0_requireMachine yX0_requireMachine, Cond.initialized RX0, Cond.code yX0_requireMachine cX0_requireMachine 2 none, Cond.classLink RX0 131 "java/lang/IndexOutOfBoundsException", Cond.initialized "java/lang/IndexOutOfBoundsException", Cond.methodLink RX0 117 yX0_loadOf, Cond.instanceMethod yX0_loadOf, Cond.selects RX0 yX0_loadOf yX0_loadOf, Cond.code yX0_loadOf cX0_loadOf 4 (some .int), Cond.fieldLink RX0 7 "Flowforge" "jobCount" "I", Cond.methodLink RX0 114 yX0_timeOf, Cond.instanceMethod yX0_timeOf, Cond.selects RX0 yX0_timeOf yX0_timeOf, Cond.code yX0_timeOf cX0_timeOf 3 (some .int), Cond.fieldLink RX0 16 "Flowforge" "times" "[I", Cond.methodLink RX0 66 yX0_cell, Cond.static yX0_cell, Cond.code yX0_cell cX0_cell 2 (some .int), Cond.methodLink RX0 120 yX0_leastSum, Cond.instanceMethod yX0_leastSum, Cond.selects RX0 yX0_leastSum yX0_leastSum]
def wsX0_machineBound_r2 : List Cond := [Cond.code yX0_leastSum cX0_leastSum 5 (some .int), Cond.methodLink RX0 145 Lib.Math.min.name, Cond.static Lib.Math.min.name, Cond.initialized "java/lang/Math", Cond.code Lib.Math.min.name Lib.Math.min.code 2 (some .int), Cond.methodLink RX0 142 yX0_sumOf, Cond.instanceMethod yX0_sumOf, Cond.selects RX0 yX0_sumOf yX0_sumOf, Cond.code yX0_sumOf cX0_sumOf 6 (some .int)]
def wsX0_machineBound : List Cond := .code yX0_machineBound cX0_machineBound 2 (some .int) :: ((wsX0_machineBound_r1 ++ wsX0_machineBound_r2) ++ wsX00 ++ (vx_atS RX0 135 "java/lang/IndexOutOfBoundsException" ["java/lang/RuntimeException", "java/lang/Exception"]).filter goodWord)
def wsX0_leastOfPair : List Cond := .code yX0_leastOfPair cX0_leastOfPair 6 (some .int) :: ([.fieldLink RX0 32 "Flowforge" "trial" "[I", .fieldLink RX0 7 "Flowforge" "jobCount" "I", .methodLink RX0 167 Lib.Math.max.name, .static Lib.Math.max.name, .initialized "java/lang/Math", .code Lib.Math.max.name Lib.Math.max.code 2 (some .int), .methodLink RX0 96 yX0_fillByRule, .instanceMethod yX0_fillByRule, .selects RX0 yX0_fillByRule yX0_fillByRule, .initialized RX0, .code yX0_fillByRule cX0_fillByRule 6 none, .methodLink RX0 163 yX0_goesBefore, .instanceMethod yX0_goesBefore, .selects RX0 yX0_goesBefore yX0_goesBefore, .code yX0_goesBefore cX0_goesBefore 7 (some .boolean), .methodLink RX0 114 yX0_timeOf, .instanceMethod yX0_timeOf, .selects RX0 yX0_timeOf yX0_timeOf, .code yX0_timeOf cX0_timeOf 3 (some .int), .fieldLink RX0 16 "Flowforge" "times" "[I", .methodLink RX0 66 yX0_cell, .static yX0_cell, .code yX0_cell cX0_cell 2 (some .int)] ++ wsX00)
def wsX0_pairBound_r1 : List Cond := [Cond.classLink RX0 61 "java/lang/IllegalArgumentException", Cond.initialized "java/lang/IllegalArgumentException", Cond.fieldLink RX0 13 "Flowforge" "machineCount" "I", Cond.methodLink RX0 74 yX0_requireMachine, Cond.instanceMethod yX0_requireMachine, Cond.selects RX0 yX0_requireMachine yX0_requireMachine, Cond.initialized RX0, Cond.code yX0_requireMachine cX0_requireMachine 2 none, Cond.classLink RX0 131 "java/lang/IndexOutOfBoundsException", Cond.initialized "java/lang/IndexOutOfBoundsException", Cond.methodLink RX0 125 yX0_leastOfPair, Cond.instanceMethod yX0_leastOfPair, Cond.selects RX0 yX0_leastOfPair yX0_leastOfPair, Cond.code yX0_leastOfPair cX0_leastOfPair 6 (some .int), Cond.fieldLink RX0 32 "Flowforge" "trial" "[I", Cond.fieldLink RX0 7 "Flowforge" "jobCount" "I", Cond.methodLink RX0 167 Lib.Math.max.name, Cond.static Lib.Math.max.name, Cond.initialized "java/lang/Math", Cond.code Lib.Math.max.name Lib.Math.max.code 2 (some .int), Cond.methodLink RX0 96 yX0_fillByRule, Cond.instanceMethod yX0_fillByRule, Cond.selects RX0 yX0_fillByRule yX0_fillByRule, Cond.code yX0_fillByRule cX0_fillByRule 6 none]
def wsX0_pairBound_r2 : List Cond := [Cond.methodLink RX0 163 yX0_goesBefore, Cond.instanceMethod yX0_goesBefore, Cond.selects RX0 yX0_goesBefore yX0_goesBefore, Cond.code yX0_goesBefore cX0_goesBefore 7 (some .boolean), Cond.methodLink RX0 114 yX0_timeOf, Cond.instanceMethod yX0_timeOf, Cond.selects RX0 yX0_timeOf yX0_timeOf, Cond.code yX0_timeOf cX0_timeOf 3 (some .int), Cond.fieldLink RX0 16 "Flowforge" "times" "[I", Cond.methodLink RX0 66 yX0_cell, Cond.static yX0_cell, Cond.code yX0_cell cX0_cell 2 (some .int), Cond.methodLink RX0 120 yX0_leastSum, Cond.instanceMethod yX0_leastSum, Cond.selects RX0 yX0_leastSum yX0_leastSum, Cond.code yX0_leastSum cX0_leastSum 5 (some .int), Cond.methodLink RX0 145 Lib.Math.min.name, Cond.static Lib.Math.min.name, Cond.code Lib.Math.min.name Lib.Math.min.code 2 (some .int), Cond.methodLink RX0 142 yX0_sumOf, Cond.instanceMethod yX0_sumOf, Cond.selects RX0 yX0_sumOf yX0_sumOf, Cond.code yX0_sumOf cX0_sumOf 6 (some .int)]
def wsX0_pairBound : List Cond := .code yX0_pairBound cX0_pairBound 3 (some .int) :: ((wsX0_pairBound_r1 ++ wsX0_pairBound_r2) ++ wsX00 ++ (vx_atS RX0 65 "java/lang/IllegalArgumentException" ["java/lang/RuntimeException", "java/lang/Exception"]).filter goodWord ++ (vx_atS RX0 135 "java/lang/IndexOutOfBoundsException" ["java/lang/RuntimeException", "java/lang/Exception"]).filter goodWord)
def wsX0_countTrial : List Cond := .code yX0_countTrial cX0_countTrial 3 none :: ([.fieldLink RX0 45 "Flowforge" "leastCounts" "[I", .fieldLink RX0 42 "Flowforge" "leastMakespans" "[I", .fieldLink RX0 32 "Flowforge" "trial" "[I", .fieldLink RX0 48 "Flowforge" "bestJobs" "[I", .fieldLink RX0 7 "Flowforge" "jobCount" "I", .methodLink RX0 150 arraycopyName, .native arraycopyName, .static arraycopyName, .initialized "java/lang/System"] ++ wsX00)
def wsX0_swapInTrial : List Cond := .code yX0_swapInTrial cX0_swapInTrial 4 none :: ([.fieldLink RX0 32 "Flowforge" "trial" "[I"] ++ wsX00)
def wsX0_stepTrial : List Cond := .code yX0_stepTrial cX0_stepTrial 5 (some .int) :: ([.fieldLink RX0 7 "Flowforge" "jobCount" "I", .fieldLink RX0 32 "Flowforge" "trial" "[I", .methodLink RX0 184 yX0_swapInTrial, .instanceMethod yX0_swapInTrial, .selects RX0 yX0_swapInTrial yX0_swapInTrial, .initialized RX0, .code yX0_swapInTrial cX0_swapInTrial 4 none] ++ wsX00)
def wsX0_findBestOrder_r1 : List Cond := [Cond.fieldLink RX0 38 "Flowforge" "solved" "[Z", Cond.fieldLink RX0 45 "Flowforge" "leastCounts" "[I", Cond.fieldLink RX0 7 "Flowforge" "jobCount" "I", Cond.fieldLink RX0 32 "Flowforge" "trial" "[I", Cond.methodLink RX0 156 yX0_scheduleJob, Cond.instanceMethod yX0_scheduleJob, Cond.selects RX0 yX0_scheduleJob yX0_scheduleJob, Cond.initialized RX0, Cond.code yX0_scheduleJob cX0_scheduleJob 7 none, Cond.fieldLink RX0 13 "Flowforge" "machineCount" "I", Cond.methodLink RX0 167 Lib.Math.max.name, Cond.static Lib.Math.max.name, Cond.initialized "java/lang/Math", Cond.code Lib.Math.max.name Lib.Math.max.code 2 (some .int), Cond.fieldLink RX0 20 "Flowforge" "begins" "[I", Cond.fieldLink RX0 23 "Flowforge" "ends" "[I", Cond.methodLink RX0 170 yX0_beginWithoutWaiting, Cond.instanceMethod yX0_beginWithoutWaiting, Cond.selects RX0 yX0_beginWithoutWaiting yX0_beginWithoutWaiting, Cond.code yX0_beginWithoutWaiting cX0_beginWithoutWaiting 6 (some .int), Cond.methodLink RX0 173 yX0_freeFrom, Cond.instanceMethod yX0_freeFrom, Cond.selects RX0 yX0_freeFrom yX0_freeFrom, Cond.code yX0_freeFrom cX0_freeFrom 4 (some .int)]
def wsX0_findBestOrder_r2 : List Cond := [Cond.methodLink RX0 66 yX0_cell, Cond.static yX0_cell, Cond.code yX0_cell cX0_cell 2 (some .int), Cond.methodLink RX0 114 yX0_timeOf, Cond.instanceMethod yX0_timeOf, Cond.selects RX0 yX0_timeOf yX0_timeOf, Cond.code yX0_timeOf cX0_timeOf 3 (some .int), Cond.fieldLink RX0 16 "Flowforge" "times" "[I", Cond.methodLink RX0 160 yX0_lastEnd, Cond.instanceMethod yX0_lastEnd, Cond.selects RX0 yX0_lastEnd yX0_lastEnd, Cond.code yX0_lastEnd cX0_lastEnd 2 (some .int), Cond.methodLink RX0 176 yX0_countTrial, Cond.instanceMethod yX0_countTrial, Cond.selects RX0 yX0_countTrial yX0_countTrial, Cond.code yX0_countTrial cX0_countTrial 3 none, Cond.fieldLink RX0 42 "Flowforge" "leastMakespans" "[I", Cond.fieldLink RX0 48 "Flowforge" "bestJobs" "[I", Cond.methodLink RX0 150 arraycopyName, Cond.native arraycopyName, Cond.static arraycopyName, Cond.initialized "java/lang/System", Cond.methodLink RX0 180 yX0_stepTrial, Cond.instanceMethod yX0_stepTrial]
def wsX0_findBestOrder_r3 : List Cond := [Cond.selects RX0 yX0_stepTrial yX0_stepTrial, Cond.code yX0_stepTrial cX0_stepTrial 5 (some .int), Cond.methodLink RX0 184 yX0_swapInTrial, Cond.instanceMethod yX0_swapInTrial, Cond.selects RX0 yX0_swapInTrial yX0_swapInTrial, Cond.code yX0_swapInTrial cX0_swapInTrial 4 none]
def wsX0_findBestOrder : List Cond := .code yX0_findBestOrder cX0_findBestOrder 5 none :: ((wsX0_findBestOrder_r1 ++ (wsX0_findBestOrder_r2 ++ wsX0_findBestOrder_r3)) ++ wsX00)
def wsX0_best_r1 : List Cond := [Cond.fieldLink RX0 42 "Flowforge" "leastMakespans" "[I", Cond.methodLink RX0 108 yX0_requireVariant, Cond.static yX0_requireVariant, Cond.initialized RX0, Cond.code yX0_requireVariant cX0_requireVariant 1 none, Cond.classLink RX0 61 "java/lang/IllegalArgumentException", Cond.initialized "java/lang/IllegalArgumentException", Cond.methodLink RX0 128 yX0_findBestOrder, Cond.instanceMethod yX0_findBestOrder, Cond.selects RX0 yX0_findBestOrder yX0_findBestOrder, Cond.code yX0_findBestOrder cX0_findBestOrder 5 none, Cond.fieldLink RX0 38 "Flowforge" "solved" "[Z", Cond.fieldLink RX0 45 "Flowforge" "leastCounts" "[I", Cond.fieldLink RX0 7 "Flowforge" "jobCount" "I", Cond.fieldLink RX0 32 "Flowforge" "trial" "[I", Cond.methodLink RX0 156 yX0_scheduleJob, Cond.instanceMethod yX0_scheduleJob, Cond.selects RX0 yX0_scheduleJob yX0_scheduleJob, Cond.code yX0_scheduleJob cX0_scheduleJob 7 none, Cond.fieldLink RX0 13 "Flowforge" "machineCount" "I", Cond.methodLink RX0 167 Lib.Math.max.name, Cond.static Lib.Math.max.name, Cond.initialized "java/lang/Math", Cond.code Lib.Math.max.name Lib.Math.max.code 2 (some .int)]
def wsX0_best_r2 : List Cond := [Cond.fieldLink RX0 20 "Flowforge" "begins" "[I", Cond.fieldLink RX0 23 "Flowforge" "ends" "[I", Cond.methodLink RX0 170 yX0_beginWithoutWaiting, Cond.instanceMethod yX0_beginWithoutWaiting, Cond.selects RX0 yX0_beginWithoutWaiting yX0_beginWithoutWaiting, Cond.code yX0_beginWithoutWaiting cX0_beginWithoutWaiting 6 (some .int), Cond.methodLink RX0 173 yX0_freeFrom, Cond.instanceMethod yX0_freeFrom, Cond.selects RX0 yX0_freeFrom yX0_freeFrom, Cond.code yX0_freeFrom cX0_freeFrom 4 (some .int), Cond.methodLink RX0 66 yX0_cell, Cond.static yX0_cell, Cond.code yX0_cell cX0_cell 2 (some .int), Cond.methodLink RX0 114 yX0_timeOf, Cond.instanceMethod yX0_timeOf, Cond.selects RX0 yX0_timeOf yX0_timeOf, Cond.code yX0_timeOf cX0_timeOf 3 (some .int), Cond.fieldLink RX0 16 "Flowforge" "times" "[I", Cond.methodLink RX0 160 yX0_lastEnd, Cond.instanceMethod yX0_lastEnd, Cond.selects RX0 yX0_lastEnd yX0_lastEnd, Cond.code yX0_lastEnd cX0_lastEnd 2 (some .int), Cond.methodLink RX0 176 yX0_countTrial, Cond.instanceMethod yX0_countTrial]
def wsX0_best_r3 : List Cond := [Cond.selects RX0 yX0_countTrial yX0_countTrial, Cond.code yX0_countTrial cX0_countTrial 3 none, Cond.fieldLink RX0 48 "Flowforge" "bestJobs" "[I", Cond.methodLink RX0 150 arraycopyName, Cond.native arraycopyName, Cond.static arraycopyName, Cond.initialized "java/lang/System", Cond.methodLink RX0 180 yX0_stepTrial, Cond.instanceMethod yX0_stepTrial, Cond.selects RX0 yX0_stepTrial yX0_stepTrial, Cond.code yX0_stepTrial cX0_stepTrial 5 (some .int), Cond.methodLink RX0 184 yX0_swapInTrial, Cond.instanceMethod yX0_swapInTrial, Cond.selects RX0 yX0_swapInTrial yX0_swapInTrial, Cond.code yX0_swapInTrial cX0_swapInTrial 4 none]
def wsX0_best : List Cond := .code yX0_best cX0_best 2 (some .int) :: ((wsX0_best_r1 ++ (wsX0_best_r2 ++ wsX0_best_r3)) ++ wsX00 ++ (vx_atS RX0 65 "java/lang/IllegalArgumentException" ["java/lang/RuntimeException", "java/lang/Exception"]).filter goodWord)
def wsX0_bestAt_r1 : List Cond := [Cond.fieldLink RX0 48 "Flowforge" "bestJobs" "[I", Cond.methodLink RX0 108 yX0_requireVariant, Cond.static yX0_requireVariant, Cond.initialized RX0, Cond.code yX0_requireVariant cX0_requireVariant 1 none, Cond.classLink RX0 61 "java/lang/IllegalArgumentException", Cond.initialized "java/lang/IllegalArgumentException", Cond.methodLink RX0 79 yX0_requirePlace, Cond.instanceMethod yX0_requirePlace, Cond.selects RX0 yX0_requirePlace yX0_requirePlace, Cond.code yX0_requirePlace cX0_requirePlace 2 none, Cond.classLink RX0 131 "java/lang/IndexOutOfBoundsException", Cond.initialized "java/lang/IndexOutOfBoundsException", Cond.fieldLink RX0 7 "Flowforge" "jobCount" "I", Cond.methodLink RX0 128 yX0_findBestOrder, Cond.instanceMethod yX0_findBestOrder, Cond.selects RX0 yX0_findBestOrder yX0_findBestOrder, Cond.code yX0_findBestOrder cX0_findBestOrder 5 none, Cond.fieldLink RX0 38 "Flowforge" "solved" "[Z", Cond.fieldLink RX0 45 "Flowforge" "leastCounts" "[I", Cond.fieldLink RX0 32 "Flowforge" "trial" "[I", Cond.methodLink RX0 156 yX0_scheduleJob, Cond.instanceMethod yX0_scheduleJob, Cond.selects RX0 yX0_scheduleJob yX0_scheduleJob]
def wsX0_bestAt_r2 : List Cond := [Cond.code yX0_scheduleJob cX0_scheduleJob 7 none, Cond.fieldLink RX0 13 "Flowforge" "machineCount" "I", Cond.methodLink RX0 167 Lib.Math.max.name, Cond.static Lib.Math.max.name, Cond.initialized "java/lang/Math", Cond.code Lib.Math.max.name Lib.Math.max.code 2 (some .int), Cond.fieldLink RX0 20 "Flowforge" "begins" "[I", Cond.fieldLink RX0 23 "Flowforge" "ends" "[I", Cond.methodLink RX0 170 yX0_beginWithoutWaiting, Cond.instanceMethod yX0_beginWithoutWaiting, Cond.selects RX0 yX0_beginWithoutWaiting yX0_beginWithoutWaiting, Cond.code yX0_beginWithoutWaiting cX0_beginWithoutWaiting 6 (some .int), Cond.methodLink RX0 173 yX0_freeFrom, Cond.instanceMethod yX0_freeFrom, Cond.selects RX0 yX0_freeFrom yX0_freeFrom, Cond.code yX0_freeFrom cX0_freeFrom 4 (some .int), Cond.methodLink RX0 66 yX0_cell, Cond.static yX0_cell, Cond.code yX0_cell cX0_cell 2 (some .int), Cond.methodLink RX0 114 yX0_timeOf, Cond.instanceMethod yX0_timeOf, Cond.selects RX0 yX0_timeOf yX0_timeOf, Cond.code yX0_timeOf cX0_timeOf 3 (some .int), Cond.fieldLink RX0 16 "Flowforge" "times" "[I"]
def wsX0_bestAt_r3 : List Cond := [Cond.methodLink RX0 160 yX0_lastEnd, Cond.instanceMethod yX0_lastEnd, Cond.selects RX0 yX0_lastEnd yX0_lastEnd, Cond.code yX0_lastEnd cX0_lastEnd 2 (some .int), Cond.methodLink RX0 176 yX0_countTrial, Cond.instanceMethod yX0_countTrial, Cond.selects RX0 yX0_countTrial yX0_countTrial, Cond.code yX0_countTrial cX0_countTrial 3 none, Cond.fieldLink RX0 42 "Flowforge" "leastMakespans" "[I", Cond.methodLink RX0 150 arraycopyName, Cond.native arraycopyName, Cond.static arraycopyName, Cond.initialized "java/lang/System", Cond.methodLink RX0 180 yX0_stepTrial, Cond.instanceMethod yX0_stepTrial, Cond.selects RX0 yX0_stepTrial yX0_stepTrial, Cond.code yX0_stepTrial cX0_stepTrial 5 (some .int), Cond.methodLink RX0 184 yX0_swapInTrial, Cond.instanceMethod yX0_swapInTrial, Cond.selects RX0 yX0_swapInTrial yX0_swapInTrial, Cond.code yX0_swapInTrial cX0_swapInTrial 4 none]
def wsX0_bestAt : List Cond := .code yX0_bestAt cX0_bestAt 3 (some .int) :: ((wsX0_bestAt_r1 ++ (wsX0_bestAt_r2 ++ wsX0_bestAt_r3)) ++ wsX00 ++ (vx_atS RX0 65 "java/lang/IllegalArgumentException" ["java/lang/RuntimeException", "java/lang/Exception"]).filter goodWord ++ (vx_atS RX0 135 "java/lang/IndexOutOfBoundsException" ["java/lang/RuntimeException", "java/lang/Exception"]).filter goodWord)
def wsX0_bestOrders_r1 : List Cond := [Cond.fieldLink RX0 45 "Flowforge" "leastCounts" "[I", Cond.methodLink RX0 108 yX0_requireVariant, Cond.static yX0_requireVariant, Cond.initialized RX0, Cond.code yX0_requireVariant cX0_requireVariant 1 none, Cond.classLink RX0 61 "java/lang/IllegalArgumentException", Cond.initialized "java/lang/IllegalArgumentException", Cond.methodLink RX0 128 yX0_findBestOrder, Cond.instanceMethod yX0_findBestOrder, Cond.selects RX0 yX0_findBestOrder yX0_findBestOrder, Cond.code yX0_findBestOrder cX0_findBestOrder 5 none, Cond.fieldLink RX0 38 "Flowforge" "solved" "[Z", Cond.fieldLink RX0 7 "Flowforge" "jobCount" "I", Cond.fieldLink RX0 32 "Flowforge" "trial" "[I", Cond.methodLink RX0 156 yX0_scheduleJob, Cond.instanceMethod yX0_scheduleJob, Cond.selects RX0 yX0_scheduleJob yX0_scheduleJob, Cond.code yX0_scheduleJob cX0_scheduleJob 7 none, Cond.fieldLink RX0 13 "Flowforge" "machineCount" "I", Cond.methodLink RX0 167 Lib.Math.max.name, Cond.static Lib.Math.max.name, Cond.initialized "java/lang/Math", Cond.code Lib.Math.max.name Lib.Math.max.code 2 (some .int), Cond.fieldLink RX0 20 "Flowforge" "begins" "[I"]
def wsX0_bestOrders_r2 : List Cond := [Cond.fieldLink RX0 23 "Flowforge" "ends" "[I", Cond.methodLink RX0 170 yX0_beginWithoutWaiting, Cond.instanceMethod yX0_beginWithoutWaiting, Cond.selects RX0 yX0_beginWithoutWaiting yX0_beginWithoutWaiting, Cond.code yX0_beginWithoutWaiting cX0_beginWithoutWaiting 6 (some .int), Cond.methodLink RX0 173 yX0_freeFrom, Cond.instanceMethod yX0_freeFrom, Cond.selects RX0 yX0_freeFrom yX0_freeFrom, Cond.code yX0_freeFrom cX0_freeFrom 4 (some .int), Cond.methodLink RX0 66 yX0_cell, Cond.static yX0_cell, Cond.code yX0_cell cX0_cell 2 (some .int), Cond.methodLink RX0 114 yX0_timeOf, Cond.instanceMethod yX0_timeOf, Cond.selects RX0 yX0_timeOf yX0_timeOf, Cond.code yX0_timeOf cX0_timeOf 3 (some .int), Cond.fieldLink RX0 16 "Flowforge" "times" "[I", Cond.methodLink RX0 160 yX0_lastEnd, Cond.instanceMethod yX0_lastEnd, Cond.selects RX0 yX0_lastEnd yX0_lastEnd, Cond.code yX0_lastEnd cX0_lastEnd 2 (some .int), Cond.methodLink RX0 176 yX0_countTrial, Cond.instanceMethod yX0_countTrial, Cond.selects RX0 yX0_countTrial yX0_countTrial]
def wsX0_bestOrders_r3 : List Cond := [Cond.code yX0_countTrial cX0_countTrial 3 none, Cond.fieldLink RX0 42 "Flowforge" "leastMakespans" "[I", Cond.fieldLink RX0 48 "Flowforge" "bestJobs" "[I", Cond.methodLink RX0 150 arraycopyName, Cond.native arraycopyName, Cond.static arraycopyName, Cond.initialized "java/lang/System", Cond.methodLink RX0 180 yX0_stepTrial, Cond.instanceMethod yX0_stepTrial, Cond.selects RX0 yX0_stepTrial yX0_stepTrial, Cond.code yX0_stepTrial cX0_stepTrial 5 (some .int), Cond.methodLink RX0 184 yX0_swapInTrial, Cond.instanceMethod yX0_swapInTrial, Cond.selects RX0 yX0_swapInTrial yX0_swapInTrial, Cond.code yX0_swapInTrial cX0_swapInTrial 4 none]
def wsX0_bestOrders : List Cond := .code yX0_bestOrders cX0_bestOrders 2 (some .int) :: ((wsX0_bestOrders_r1 ++ (wsX0_bestOrders_r2 ++ wsX0_bestOrders_r3)) ++ wsX00 ++ (vx_atS RX0 65 "java/lang/IllegalArgumentException" ["java/lang/RuntimeException", "java/lang/Exception"]).filter goodWord)
def wsX0_gap_r1 : List Cond := [Cond.fieldLink RX0 42 "Flowforge" "leastMakespans" "[I", Cond.methodLink RX0 99 yX0_scheduleOrder, Cond.instanceMethod yX0_scheduleOrder, Cond.selects RX0 yX0_scheduleOrder yX0_scheduleOrder, Cond.initialized RX0, Cond.code yX0_scheduleOrder cX0_scheduleOrder 3 (some .int), Cond.fieldLink RX0 7 "Flowforge" "jobCount" "I", Cond.fieldLink RX0 29 "Flowforge" "order" "[I", Cond.methodLink RX0 156 yX0_scheduleJob, Cond.instanceMethod yX0_scheduleJob, Cond.selects RX0 yX0_scheduleJob yX0_scheduleJob, Cond.code yX0_scheduleJob cX0_scheduleJob 7 none, Cond.fieldLink RX0 13 "Flowforge" "machineCount" "I", Cond.methodLink RX0 167 Lib.Math.max.name, Cond.static Lib.Math.max.name, Cond.initialized "java/lang/Math", Cond.code Lib.Math.max.name Lib.Math.max.code 2 (some .int), Cond.fieldLink RX0 20 "Flowforge" "begins" "[I", Cond.fieldLink RX0 23 "Flowforge" "ends" "[I", Cond.methodLink RX0 170 yX0_beginWithoutWaiting, Cond.instanceMethod yX0_beginWithoutWaiting, Cond.selects RX0 yX0_beginWithoutWaiting yX0_beginWithoutWaiting, Cond.code yX0_beginWithoutWaiting cX0_beginWithoutWaiting 6 (some .int), Cond.methodLink RX0 173 yX0_freeFrom]
def wsX0_gap_r2 : List Cond := [Cond.instanceMethod yX0_freeFrom, Cond.selects RX0 yX0_freeFrom yX0_freeFrom, Cond.code yX0_freeFrom cX0_freeFrom 4 (some .int), Cond.methodLink RX0 66 yX0_cell, Cond.static yX0_cell, Cond.code yX0_cell cX0_cell 2 (some .int), Cond.methodLink RX0 114 yX0_timeOf, Cond.instanceMethod yX0_timeOf, Cond.selects RX0 yX0_timeOf yX0_timeOf, Cond.code yX0_timeOf cX0_timeOf 3 (some .int), Cond.fieldLink RX0 16 "Flowforge" "times" "[I", Cond.methodLink RX0 160 yX0_lastEnd, Cond.instanceMethod yX0_lastEnd, Cond.selects RX0 yX0_lastEnd yX0_lastEnd, Cond.code yX0_lastEnd cX0_lastEnd 2 (some .int), Cond.methodLink RX0 128 yX0_findBestOrder, Cond.instanceMethod yX0_findBestOrder, Cond.selects RX0 yX0_findBestOrder yX0_findBestOrder, Cond.code yX0_findBestOrder cX0_findBestOrder 5 none, Cond.fieldLink RX0 38 "Flowforge" "solved" "[Z", Cond.fieldLink RX0 45 "Flowforge" "leastCounts" "[I", Cond.fieldLink RX0 32 "Flowforge" "trial" "[I", Cond.methodLink RX0 176 yX0_countTrial, Cond.instanceMethod yX0_countTrial]
def wsX0_gap_r3 : List Cond := [Cond.selects RX0 yX0_countTrial yX0_countTrial, Cond.code yX0_countTrial cX0_countTrial 3 none, Cond.fieldLink RX0 48 "Flowforge" "bestJobs" "[I", Cond.methodLink RX0 150 arraycopyName, Cond.native arraycopyName, Cond.static arraycopyName, Cond.initialized "java/lang/System", Cond.methodLink RX0 180 yX0_stepTrial, Cond.instanceMethod yX0_stepTrial, Cond.selects RX0 yX0_stepTrial yX0_stepTrial, Cond.code yX0_stepTrial cX0_stepTrial 5 (some .int), Cond.methodLink RX0 184 yX0_swapInTrial, Cond.instanceMethod yX0_swapInTrial, Cond.selects RX0 yX0_swapInTrial yX0_swapInTrial, Cond.code yX0_swapInTrial cX0_swapInTrial 4 none]
def wsX0_gap : List Cond := .code yX0_gap cX0_gap 3 (some .double) :: ((wsX0_gap_r1 ++ (wsX0_gap_r2 ++ wsX0_gap_r3)) ++ wsX00)
def wsX1_init : List Cond := .code yX1_init cX1_init 1 none :: ([.methodLink RX1 1 objectInit, .instanceMethod objectInit, .code objectInit ⟨#[0xb1]⟩ 1 none, .fieldLink RX1 7 "FlowforgeModel" "wide" "I", .arrayClass .int, .fieldLink RX1 13 "FlowforgeModel" "times" "[I", .fieldLink RX1 17 "FlowforgeModel" "order" "[I", .fieldLink RX1 20 "FlowforgeModel" "starts" "[I", .fieldLink RX1 23 "FlowforgeModel" "tails" "[I", .fieldLink RX1 26 "FlowforgeModel" "trial" "[I", .fieldLink RX1 29 "FlowforgeModel" "firstBest" "[I", .fieldLink RX1 32 "FlowforgeModel" "thrown" "I"] ++ wsX10)
def wsX1_thrown : List Cond := .code yX1_thrown cX1_thrown 1 (some .int) :: ([.fieldLink RX1 32 "FlowforgeModel" "thrown" "I"] ++ wsX10)
def wsX1_fails : List Cond := .code yX1_fails cX1_fails 2 (some .int) :: ([.fieldLink RX1 32 "FlowforgeModel" "thrown" "I"] ++ wsX10)
def wsX1_in : List Cond := .code yX1_in cX1_in 3 (some .boolean) :: ([])
def wsX1_isOf : List Cond := .code yX1_isOf cX1_isOf 3 (some .boolean) :: ([.fieldLink RX1 35 "FlowforgeModel" "many" "I", .fieldLink RX1 7 "FlowforgeModel" "wide" "I", .methodLink RX1 38 yX1_in, .static yX1_in, .initialized RX1, .code yX1_in cX1_in 3 (some .boolean)] ++ wsX10)
def wsX1_timeOf : List Cond := .code yX1_timeOf cX1_timeOf 3 (some .int) :: ([.fieldLink RX1 13 "FlowforgeModel" "times" "[I"] ++ wsX10)
def wsX1_addJob : List Cond := .code yX1_addJob cX1_addJob 1 (some .int) :: ([.fieldLink RX1 35 "FlowforgeModel" "many" "I", .fieldLink RX1 32 "FlowforgeModel" "thrown" "I", .fieldLink RX1 17 "FlowforgeModel" "order" "[I"] ++ wsX10)
def wsX1_setMachines : List Cond := .code yX1_setMachines cX1_setMachines 4 (some .int) :: ([.fieldLink RX1 32 "FlowforgeModel" "thrown" "I", .fieldLink RX1 7 "FlowforgeModel" "wide" "I", .fieldLink RX1 13 "FlowforgeModel" "times" "[I", .methodLink RX1 38 yX1_in, .static yX1_in, .initialized RX1, .code yX1_in cX1_in 3 (some .boolean)] ++ wsX10)
def wsX1_setTime : List Cond := .code yX1_setTime cX1_setTime 5 (some .int) :: ([.fieldLink RX1 32 "FlowforgeModel" "thrown" "I", .fieldLink RX1 13 "FlowforgeModel" "times" "[I", .methodLink RX1 42 yX1_isOf, .instanceMethod yX1_isOf, .selects RX1 yX1_isOf yX1_isOf, .initialized RX1, .code yX1_isOf cX1_isOf 3 (some .boolean), .fieldLink RX1 35 "FlowforgeModel" "many" "I", .fieldLink RX1 7 "FlowforgeModel" "wide" "I", .methodLink RX1 38 yX1_in, .static yX1_in, .code yX1_in cX1_in 3 (some .boolean), .methodLink RX1 46 yX1_timeOf, .instanceMethod yX1_timeOf, .selects RX1 yX1_timeOf yX1_timeOf, .code yX1_timeOf cX1_timeOf 3 (some .int)] ++ wsX10)
def wsX1_time : List Cond := .code yX1_time cX1_time 3 (some .int) :: ([.fieldLink RX1 32 "FlowforgeModel" "thrown" "I", .methodLink RX1 42 yX1_isOf, .instanceMethod yX1_isOf, .selects RX1 yX1_isOf yX1_isOf, .initialized RX1, .code yX1_isOf cX1_isOf 3 (some .boolean), .fieldLink RX1 35 "FlowforgeModel" "many" "I", .fieldLink RX1 7 "FlowforgeModel" "wide" "I", .methodLink RX1 38 yX1_in, .static yX1_in, .code yX1_in cX1_in 3 (some .boolean), .methodLink RX1 46 yX1_timeOf, .instanceMethod yX1_timeOf, .selects RX1 yX1_timeOf yX1_timeOf, .code yX1_timeOf cX1_timeOf 3 (some .int), .fieldLink RX1 13 "FlowforgeModel" "times" "[I", .methodLink RX1 50 yX1_fails, .instanceMethod yX1_fails, .selects RX1 yX1_fails yX1_fails, .code yX1_fails cX1_fails 2 (some .int)] ++ wsX10)
def wsX1_jobs : List Cond := .code yX1_jobs cX1_jobs 1 (some .int) :: ([.fieldLink RX1 32 "FlowforgeModel" "thrown" "I", .fieldLink RX1 35 "FlowforgeModel" "many" "I"] ++ wsX10)
def wsX1_machines : List Cond := .code yX1_machines cX1_machines 1 (some .int) :: ([.fieldLink RX1 32 "FlowforgeModel" "thrown" "I", .fieldLink RX1 7 "FlowforgeModel" "wide" "I"] ++ wsX10)
def wsX1_startOf : List Cond := .code yX1_startOf cX1_startOf 3 (some .int) :: ([.fieldLink RX1 20 "FlowforgeModel" "starts" "[I"] ++ wsX10)
def wsX1_endOf : List Cond := .code yX1_endOf cX1_endOf 4 (some .int) :: ([.methodLink RX1 54 yX1_startOf, .instanceMethod yX1_startOf, .selects RX1 yX1_startOf yX1_startOf, .initialized RX1, .code yX1_startOf cX1_startOf 3 (some .int), .fieldLink RX1 20 "FlowforgeModel" "starts" "[I", .methodLink RX1 46 yX1_timeOf, .instanceMethod yX1_timeOf, .selects RX1 yX1_timeOf yX1_timeOf, .code yX1_timeOf cX1_timeOf 3 (some .int), .fieldLink RX1 13 "FlowforgeModel" "times" "[I"] ++ wsX10)
def wsX1_freeAt : List Cond := .code yX1_freeAt cX1_freeAt 5 (some .int) :: ([.fieldLink RX1 7 "FlowforgeModel" "wide" "I", .methodLink RX1 54 yX1_startOf, .instanceMethod yX1_startOf, .selects RX1 yX1_startOf yX1_startOf, .initialized RX1, .code yX1_startOf cX1_startOf 3 (some .int), .fieldLink RX1 20 "FlowforgeModel" "starts" "[I", .methodLink RX1 57 yX1_endOf, .instanceMethod yX1_endOf, .selects RX1 yX1_endOf yX1_endOf, .code yX1_endOf cX1_endOf 4 (some .int), .methodLink RX1 46 yX1_timeOf, .instanceMethod yX1_timeOf, .selects RX1 yX1_timeOf yX1_timeOf, .code yX1_timeOf cX1_timeOf 3 (some .int), .fieldLink RX1 13 "FlowforgeModel" "times" "[I"] ++ wsX10)
def wsX1_pullsTogether : List Cond := .code yX1_pullsTogether cX1_pullsTogether 4 none :: ([.fieldLink RX1 7 "FlowforgeModel" "wide" "I", .fieldLink RX1 20 "FlowforgeModel" "starts" "[I", .methodLink RX1 54 yX1_startOf, .instanceMethod yX1_startOf, .selects RX1 yX1_startOf yX1_startOf, .initialized RX1, .code yX1_startOf cX1_startOf 3 (some .int), .methodLink RX1 46 yX1_timeOf, .instanceMethod yX1_timeOf, .selects RX1 yX1_timeOf yX1_timeOf, .code yX1_timeOf cX1_timeOf 3 (some .int), .fieldLink RX1 13 "FlowforgeModel" "times" "[I"] ++ wsX10)
def wsX1_lays : List Cond := .code yX1_lays cX1_lays 8 (some .int) :: ([.fieldLink RX1 7 "FlowforgeModel" "wide" "I", .fieldLink RX1 20 "FlowforgeModel" "starts" "[I", .methodLink RX1 61 yX1_freeAt, .instanceMethod yX1_freeAt, .selects RX1 yX1_freeAt yX1_freeAt, .initialized RX1, .code yX1_freeAt cX1_freeAt 5 (some .int), .methodLink RX1 54 yX1_startOf, .instanceMethod yX1_startOf, .selects RX1 yX1_startOf yX1_startOf, .code yX1_startOf cX1_startOf 3 (some .int), .methodLink RX1 57 yX1_endOf, .instanceMethod yX1_endOf, .selects RX1 yX1_endOf yX1_endOf, .code yX1_endOf cX1_endOf 4 (some .int), .methodLink RX1 46 yX1_timeOf, .instanceMethod yX1_timeOf, .selects RX1 yX1_timeOf yX1_timeOf, .code yX1_timeOf cX1_timeOf 3 (some .int), .fieldLink RX1 13 "FlowforgeModel" "times" "[I", .methodLink RX1 65 yX1_pullsTogether, .instanceMethod yX1_pullsTogether, .selects RX1 yX1_pullsTogether yX1_pullsTogether, .code yX1_pullsTogether cX1_pullsTogether 4 none] ++ wsX10)
def wsX1_plain_r1 : List Cond := [Cond.fieldLink RX1 17 "FlowforgeModel" "order" "[I", Cond.fieldLink RX1 35 "FlowforgeModel" "many" "I", Cond.methodLink RX1 69 yX1_lays, Cond.instanceMethod yX1_lays, Cond.selects RX1 yX1_lays yX1_lays, Cond.initialized RX1, Cond.code yX1_lays cX1_lays 8 (some .int), Cond.fieldLink RX1 7 "FlowforgeModel" "wide" "I", Cond.fieldLink RX1 20 "FlowforgeModel" "starts" "[I", Cond.methodLink RX1 61 yX1_freeAt, Cond.instanceMethod yX1_freeAt, Cond.selects RX1 yX1_freeAt yX1_freeAt, Cond.code yX1_freeAt cX1_freeAt 5 (some .int), Cond.methodLink RX1 54 yX1_startOf, Cond.instanceMethod yX1_startOf, Cond.selects RX1 yX1_startOf yX1_startOf, Cond.code yX1_startOf cX1_startOf 3 (some .int), Cond.methodLink RX1 57 yX1_endOf, Cond.instanceMethod yX1_endOf, Cond.selects RX1 yX1_endOf yX1_endOf, Cond.code yX1_endOf cX1_endOf 4 (some .int), Cond.methodLink RX1 46 yX1_timeOf, Cond.instanceMethod yX1_timeOf, Cond.selects RX1 yX1_timeOf yX1_timeOf]
def wsX1_plain_r2 : List Cond := [Cond.code yX1_timeOf cX1_timeOf 3 (some .int), Cond.fieldLink RX1 13 "FlowforgeModel" "times" "[I", Cond.methodLink RX1 65 yX1_pullsTogether, Cond.instanceMethod yX1_pullsTogether, Cond.selects RX1 yX1_pullsTogether yX1_pullsTogether, Cond.code yX1_pullsTogether cX1_pullsTogether 4 none]
def wsX1_plain : List Cond := .code yX1_plain cX1_plain 1 (some .int) :: ((wsX1_plain_r1 ++ wsX1_plain_r2) ++ wsX10)
def wsX1_placeOf : List Cond := .code yX1_placeOf cX1_placeOf 3 (some .int) :: ([.fieldLink RX1 17 "FlowforgeModel" "order" "[I"] ++ wsX10)
def wsX1_triesMove : List Cond := .code yX1_triesMove cX1_triesMove 4 none :: ([.fieldLink RX1 35 "FlowforgeModel" "many" "I", .fieldLink RX1 26 "FlowforgeModel" "trial" "[I", .fieldLink RX1 17 "FlowforgeModel" "order" "[I"] ++ wsX10)
def wsX1_takesTrial : List Cond := .code yX1_takesTrial cX1_takesTrial 2 none :: ([.fieldLink RX1 35 "FlowforgeModel" "many" "I", .fieldLink RX1 17 "FlowforgeModel" "order" "[I", .fieldLink RX1 26 "FlowforgeModel" "trial" "[I"] ++ wsX10)
def wsX1_jobAt : List Cond := .code yX1_jobAt cX1_jobAt 2 (some .int) :: ([.fieldLink RX1 32 "FlowforgeModel" "thrown" "I", .fieldLink RX1 35 "FlowforgeModel" "many" "I", .fieldLink RX1 17 "FlowforgeModel" "order" "[I", .methodLink RX1 38 yX1_in, .static yX1_in, .initialized RX1, .code yX1_in cX1_in 3 (some .boolean), .methodLink RX1 50 yX1_fails, .instanceMethod yX1_fails, .selects RX1 yX1_fails yX1_fails, .code yX1_fails cX1_fails 2 (some .int)] ++ wsX10)
def wsX1_canMove : List Cond := .code yX1_canMove cX1_canMove 3 (some .boolean) :: ([.fieldLink RX1 35 "FlowforgeModel" "many" "I", .methodLink RX1 38 yX1_in, .static yX1_in, .initialized RX1, .code yX1_in cX1_in 3 (some .boolean)] ++ wsX10)
def wsX1_move : List Cond := .code yX1_move cX1_move 4 (some .int) :: ([.fieldLink RX1 32 "FlowforgeModel" "thrown" "I", .methodLink RX1 73 yX1_canMove, .instanceMethod yX1_canMove, .selects RX1 yX1_canMove yX1_canMove, .initialized RX1, .code yX1_canMove cX1_canMove 3 (some .boolean), .fieldLink RX1 35 "FlowforgeModel" "many" "I", .methodLink RX1 38 yX1_in, .static yX1_in, .code yX1_in cX1_in 3 (some .boolean), .methodLink RX1 76 yX1_placeOf, .instanceMethod yX1_placeOf, .selects RX1 yX1_placeOf yX1_placeOf, .code yX1_placeOf cX1_placeOf 3 (some .int), .fieldLink RX1 17 "FlowforgeModel" "order" "[I", .methodLink RX1 79 yX1_triesMove, .instanceMethod yX1_triesMove, .selects RX1 yX1_triesMove yX1_triesMove, .code yX1_triesMove cX1_triesMove 4 none, .fieldLink RX1 26 "FlowforgeModel" "trial" "[I", .methodLink RX1 83 yX1_takesTrial, .instanceMethod yX1_takesTrial, .selects RX1 yX1_takesTrial yX1_takesTrial, .code yX1_takesTrial cX1_takesTrial 2 none] ++ wsX10)
def wsX1_makespanIfMoved_r1 : List Cond := [Cond.fieldLink RX1 32 "FlowforgeModel" "thrown" "I", Cond.fieldLink RX1 26 "FlowforgeModel" "trial" "[I", Cond.fieldLink RX1 35 "FlowforgeModel" "many" "I", Cond.methodLink RX1 73 yX1_canMove, Cond.instanceMethod yX1_canMove, Cond.selects RX1 yX1_canMove yX1_canMove, Cond.initialized RX1, Cond.code yX1_canMove cX1_canMove 3 (some .boolean), Cond.methodLink RX1 38 yX1_in, Cond.static yX1_in, Cond.code yX1_in cX1_in 3 (some .boolean), Cond.methodLink RX1 76 yX1_placeOf, Cond.instanceMethod yX1_placeOf, Cond.selects RX1 yX1_placeOf yX1_placeOf, Cond.code yX1_placeOf cX1_placeOf 3 (some .int), Cond.fieldLink RX1 17 "FlowforgeModel" "order" "[I", Cond.methodLink RX1 79 yX1_triesMove, Cond.instanceMethod yX1_triesMove, Cond.selects RX1 yX1_triesMove yX1_triesMove, Cond.code yX1_triesMove cX1_triesMove 4 none, Cond.methodLink RX1 69 yX1_lays, Cond.instanceMethod yX1_lays, Cond.selects RX1 yX1_lays yX1_lays, Cond.code yX1_lays cX1_lays 8 (some .int)]
def wsX1_makespanIfMoved_r2 : List Cond := [Cond.fieldLink RX1 7 "FlowforgeModel" "wide" "I", Cond.fieldLink RX1 20 "FlowforgeModel" "starts" "[I", Cond.methodLink RX1 61 yX1_freeAt, Cond.instanceMethod yX1_freeAt, Cond.selects RX1 yX1_freeAt yX1_freeAt, Cond.code yX1_freeAt cX1_freeAt 5 (some .int), Cond.methodLink RX1 54 yX1_startOf, Cond.instanceMethod yX1_startOf, Cond.selects RX1 yX1_startOf yX1_startOf, Cond.code yX1_startOf cX1_startOf 3 (some .int), Cond.methodLink RX1 57 yX1_endOf, Cond.instanceMethod yX1_endOf, Cond.selects RX1 yX1_endOf yX1_endOf, Cond.code yX1_endOf cX1_endOf 4 (some .int), Cond.methodLink RX1 46 yX1_timeOf, Cond.instanceMethod yX1_timeOf, Cond.selects RX1 yX1_timeOf yX1_timeOf, Cond.code yX1_timeOf cX1_timeOf 3 (some .int), Cond.fieldLink RX1 13 "FlowforgeModel" "times" "[I", Cond.methodLink RX1 65 yX1_pullsTogether, Cond.instanceMethod yX1_pullsTogether, Cond.selects RX1 yX1_pullsTogether yX1_pullsTogether, Cond.code yX1_pullsTogether cX1_pullsTogether 4 none]
def wsX1_makespanIfMoved : List Cond := .code yX1_makespanIfMoved cX1_makespanIfMoved 3 (some .int) :: ((wsX1_makespanIfMoved_r1 ++ wsX1_makespanIfMoved_r2) ++ wsX10)
def wsX1_isAhead : List Cond := .code yX1_isAhead cX1_isAhead 8 (some .boolean) :: ([.methodLink RX1 46 yX1_timeOf, .instanceMethod yX1_timeOf, .selects RX1 yX1_timeOf yX1_timeOf, .initialized RX1, .code yX1_timeOf cX1_timeOf 3 (some .int), .fieldLink RX1 13 "FlowforgeModel" "times" "[I"] ++ wsX10)
def wsX1_orderByRule_r1 : List Cond := [Cond.fieldLink RX1 7 "FlowforgeModel" "wide" "I", Cond.fieldLink RX1 32 "FlowforgeModel" "thrown" "I", Cond.fieldLink RX1 35 "FlowforgeModel" "many" "I", Cond.fieldLink RX1 17 "FlowforgeModel" "order" "[I", Cond.methodLink RX1 86 yX1_isAhead, Cond.instanceMethod yX1_isAhead, Cond.selects RX1 yX1_isAhead yX1_isAhead, Cond.initialized RX1, Cond.code yX1_isAhead cX1_isAhead 8 (some .boolean), Cond.methodLink RX1 46 yX1_timeOf, Cond.instanceMethod yX1_timeOf, Cond.selects RX1 yX1_timeOf yX1_timeOf, Cond.code yX1_timeOf cX1_timeOf 3 (some .int), Cond.fieldLink RX1 13 "FlowforgeModel" "times" "[I", Cond.methodLink RX1 89 yX1_plain, Cond.instanceMethod yX1_plain, Cond.selects RX1 yX1_plain yX1_plain, Cond.code yX1_plain cX1_plain 1 (some .int), Cond.methodLink RX1 69 yX1_lays, Cond.instanceMethod yX1_lays, Cond.selects RX1 yX1_lays yX1_lays, Cond.code yX1_lays cX1_lays 8 (some .int), Cond.fieldLink RX1 20 "FlowforgeModel" "starts" "[I", Cond.methodLink RX1 61 yX1_freeAt]
def wsX1_orderByRule_r2 : List Cond := [Cond.instanceMethod yX1_freeAt, Cond.selects RX1 yX1_freeAt yX1_freeAt, Cond.code yX1_freeAt cX1_freeAt 5 (some .int), Cond.methodLink RX1 54 yX1_startOf, Cond.instanceMethod yX1_startOf, Cond.selects RX1 yX1_startOf yX1_startOf, Cond.code yX1_startOf cX1_startOf 3 (some .int), Cond.methodLink RX1 57 yX1_endOf, Cond.instanceMethod yX1_endOf, Cond.selects RX1 yX1_endOf yX1_endOf, Cond.code yX1_endOf cX1_endOf 4 (some .int), Cond.methodLink RX1 65 yX1_pullsTogether, Cond.instanceMethod yX1_pullsTogether, Cond.selects RX1 yX1_pullsTogether yX1_pullsTogether, Cond.code yX1_pullsTogether cX1_pullsTogether 4 none]
def wsX1_orderByRule : List Cond := .code yX1_orderByRule cX1_orderByRule 4 (some .int) :: ((wsX1_orderByRule_r1 ++ wsX1_orderByRule_r2) ++ wsX10)
def wsX1_sumOf : List Cond := .code yX1_sumOf cX1_sumOf 6 (some .int) :: ([.methodLink RX1 46 yX1_timeOf, .instanceMethod yX1_timeOf, .selects RX1 yX1_timeOf yX1_timeOf, .initialized RX1, .code yX1_timeOf cX1_timeOf 3 (some .int), .fieldLink RX1 13 "FlowforgeModel" "times" "[I"] ++ wsX10)
def wsX1_bySum : List Cond := .code yX1_bySum cX1_bySum 7 (some .int) :: ([.fieldLink RX1 35 "FlowforgeModel" "many" "I", .fieldLink RX1 7 "FlowforgeModel" "wide" "I", .methodLink RX1 93 yX1_sumOf, .instanceMethod yX1_sumOf, .selects RX1 yX1_sumOf yX1_sumOf, .initialized RX1, .code yX1_sumOf cX1_sumOf 6 (some .int), .methodLink RX1 46 yX1_timeOf, .instanceMethod yX1_timeOf, .selects RX1 yX1_timeOf yX1_timeOf, .code yX1_timeOf cX1_timeOf 3 (some .int), .fieldLink RX1 13 "FlowforgeModel" "times" "[I"] ++ wsX10)
def wsX1_puts : List Cond := .code yX1_puts cX1_puts 5 none :: ([.fieldLink RX1 26 "FlowforgeModel" "trial" "[I"] ++ wsX10)
def wsX1_takesOut : List Cond := .code yX1_takesOut cX1_takesOut 4 none :: ([.fieldLink RX1 26 "FlowforgeModel" "trial" "[I"] ++ wsX10)
def wsX1_orderByInsertion_r1 : List Cond := [Cond.fieldLink RX1 32 "FlowforgeModel" "thrown" "I", Cond.fieldLink RX1 35 "FlowforgeModel" "many" "I", Cond.constant RX1 100 (1000000), Cond.fieldLink RX1 26 "FlowforgeModel" "trial" "[I", Cond.methodLink RX1 97 yX1_bySum, Cond.instanceMethod yX1_bySum, Cond.selects RX1 yX1_bySum yX1_bySum, Cond.initialized RX1, Cond.code yX1_bySum cX1_bySum 7 (some .int), Cond.fieldLink RX1 7 "FlowforgeModel" "wide" "I", Cond.methodLink RX1 93 yX1_sumOf, Cond.instanceMethod yX1_sumOf, Cond.selects RX1 yX1_sumOf yX1_sumOf, Cond.code yX1_sumOf cX1_sumOf 6 (some .int), Cond.methodLink RX1 46 yX1_timeOf, Cond.instanceMethod yX1_timeOf, Cond.selects RX1 yX1_timeOf yX1_timeOf, Cond.code yX1_timeOf cX1_timeOf 3 (some .int), Cond.fieldLink RX1 13 "FlowforgeModel" "times" "[I", Cond.methodLink RX1 101 yX1_puts, Cond.instanceMethod yX1_puts, Cond.selects RX1 yX1_puts yX1_puts, Cond.code yX1_puts cX1_puts 5 none, Cond.methodLink RX1 69 yX1_lays]
def wsX1_orderByInsertion_r2 : List Cond := [Cond.instanceMethod yX1_lays, Cond.selects RX1 yX1_lays yX1_lays, Cond.code yX1_lays cX1_lays 8 (some .int), Cond.fieldLink RX1 20 "FlowforgeModel" "starts" "[I", Cond.methodLink RX1 61 yX1_freeAt, Cond.instanceMethod yX1_freeAt, Cond.selects RX1 yX1_freeAt yX1_freeAt, Cond.code yX1_freeAt cX1_freeAt 5 (some .int), Cond.methodLink RX1 54 yX1_startOf, Cond.instanceMethod yX1_startOf, Cond.selects RX1 yX1_startOf yX1_startOf, Cond.code yX1_startOf cX1_startOf 3 (some .int), Cond.methodLink RX1 57 yX1_endOf, Cond.instanceMethod yX1_endOf, Cond.selects RX1 yX1_endOf yX1_endOf, Cond.code yX1_endOf cX1_endOf 4 (some .int), Cond.methodLink RX1 65 yX1_pullsTogether, Cond.instanceMethod yX1_pullsTogether, Cond.selects RX1 yX1_pullsTogether yX1_pullsTogether, Cond.code yX1_pullsTogether cX1_pullsTogether 4 none, Cond.methodLink RX1 105 yX1_takesOut, Cond.instanceMethod yX1_takesOut, Cond.selects RX1 yX1_takesOut yX1_takesOut, Cond.code yX1_takesOut cX1_takesOut 4 none]
def wsX1_orderByInsertion_r3 : List Cond := [Cond.methodLink RX1 83 yX1_takesTrial, Cond.instanceMethod yX1_takesTrial, Cond.selects RX1 yX1_takesTrial yX1_takesTrial, Cond.code yX1_takesTrial cX1_takesTrial 2 none, Cond.fieldLink RX1 17 "FlowforgeModel" "order" "[I", Cond.methodLink RX1 89 yX1_plain, Cond.instanceMethod yX1_plain, Cond.selects RX1 yX1_plain yX1_plain, Cond.code yX1_plain cX1_plain 1 (some .int)]
def wsX1_orderByInsertion : List Cond := .code yX1_orderByInsertion cX1_orderByInsertion 7 (some .int) :: ((wsX1_orderByInsertion_r1 ++ (wsX1_orderByInsertion_r2 ++ wsX1_orderByInsertion_r3)) ++ wsX10)
def wsX1_improve_r1 : List Cond := [Cond.fieldLink RX1 32 "FlowforgeModel" "thrown" "I", Cond.constant RX1 100 (1000000), Cond.fieldLink RX1 35 "FlowforgeModel" "many" "I", Cond.fieldLink RX1 26 "FlowforgeModel" "trial" "[I", Cond.methodLink RX1 89 yX1_plain, Cond.instanceMethod yX1_plain, Cond.selects RX1 yX1_plain yX1_plain, Cond.initialized RX1, Cond.code yX1_plain cX1_plain 1 (some .int), Cond.fieldLink RX1 17 "FlowforgeModel" "order" "[I", Cond.methodLink RX1 69 yX1_lays, Cond.instanceMethod yX1_lays, Cond.selects RX1 yX1_lays yX1_lays, Cond.code yX1_lays cX1_lays 8 (some .int), Cond.fieldLink RX1 7 "FlowforgeModel" "wide" "I", Cond.fieldLink RX1 20 "FlowforgeModel" "starts" "[I", Cond.methodLink RX1 61 yX1_freeAt, Cond.instanceMethod yX1_freeAt, Cond.selects RX1 yX1_freeAt yX1_freeAt, Cond.code yX1_freeAt cX1_freeAt 5 (some .int), Cond.methodLink RX1 54 yX1_startOf, Cond.instanceMethod yX1_startOf, Cond.selects RX1 yX1_startOf yX1_startOf, Cond.code yX1_startOf cX1_startOf 3 (some .int)]
def wsX1_improve_r2 : List Cond := [Cond.methodLink RX1 57 yX1_endOf, Cond.instanceMethod yX1_endOf, Cond.selects RX1 yX1_endOf yX1_endOf, Cond.code yX1_endOf cX1_endOf 4 (some .int), Cond.methodLink RX1 46 yX1_timeOf, Cond.instanceMethod yX1_timeOf, Cond.selects RX1 yX1_timeOf yX1_timeOf, Cond.code yX1_timeOf cX1_timeOf 3 (some .int), Cond.fieldLink RX1 13 "FlowforgeModel" "times" "[I", Cond.methodLink RX1 65 yX1_pullsTogether, Cond.instanceMethod yX1_pullsTogether, Cond.selects RX1 yX1_pullsTogether yX1_pullsTogether, Cond.code yX1_pullsTogether cX1_pullsTogether 4 none, Cond.methodLink RX1 79 yX1_triesMove, Cond.instanceMethod yX1_triesMove, Cond.selects RX1 yX1_triesMove yX1_triesMove, Cond.code yX1_triesMove cX1_triesMove 4 none, Cond.methodLink RX1 83 yX1_takesTrial, Cond.instanceMethod yX1_takesTrial, Cond.selects RX1 yX1_takesTrial yX1_takesTrial, Cond.code yX1_takesTrial cX1_takesTrial 2 none]
def wsX1_improve : List Cond := .code yX1_improve cX1_improve 8 (some .int) :: ((wsX1_improve_r1 ++ wsX1_improve_r2) ++ wsX10)
def wsX1_isVariant : List Cond := .code yX1_isVariant cX1_isVariant 1 (some .boolean) :: ([.methodLink RX1 38 yX1_in, .static yX1_in, .initialized RX1, .code yX1_in cX1_in 3 (some .boolean)])
def wsX1_makespan_r1 : List Cond := [Cond.fieldLink RX1 32 "FlowforgeModel" "thrown" "I", Cond.fieldLink RX1 17 "FlowforgeModel" "order" "[I", Cond.fieldLink RX1 35 "FlowforgeModel" "many" "I", Cond.methodLink RX1 108 yX1_isVariant, Cond.static yX1_isVariant, Cond.initialized RX1, Cond.code yX1_isVariant cX1_isVariant 1 (some .boolean), Cond.methodLink RX1 38 yX1_in, Cond.static yX1_in, Cond.code yX1_in cX1_in 3 (some .boolean), Cond.methodLink RX1 69 yX1_lays, Cond.instanceMethod yX1_lays, Cond.selects RX1 yX1_lays yX1_lays, Cond.code yX1_lays cX1_lays 8 (some .int), Cond.fieldLink RX1 7 "FlowforgeModel" "wide" "I", Cond.fieldLink RX1 20 "FlowforgeModel" "starts" "[I", Cond.methodLink RX1 61 yX1_freeAt, Cond.instanceMethod yX1_freeAt, Cond.selects RX1 yX1_freeAt yX1_freeAt, Cond.code yX1_freeAt cX1_freeAt 5 (some .int), Cond.methodLink RX1 54 yX1_startOf, Cond.instanceMethod yX1_startOf, Cond.selects RX1 yX1_startOf yX1_startOf, Cond.code yX1_startOf cX1_startOf 3 (some .int)]
def wsX1_makespan_r2 : List Cond := [Cond.methodLink RX1 57 yX1_endOf, Cond.instanceMethod yX1_endOf, Cond.selects RX1 yX1_endOf yX1_endOf, Cond.code yX1_endOf cX1_endOf 4 (some .int), Cond.methodLink RX1 46 yX1_timeOf, Cond.instanceMethod yX1_timeOf, Cond.selects RX1 yX1_timeOf yX1_timeOf, Cond.code yX1_timeOf cX1_timeOf 3 (some .int), Cond.fieldLink RX1 13 "FlowforgeModel" "times" "[I", Cond.methodLink RX1 65 yX1_pullsTogether, Cond.instanceMethod yX1_pullsTogether, Cond.selects RX1 yX1_pullsTogether yX1_pullsTogether, Cond.code yX1_pullsTogether cX1_pullsTogether 4 none]
def wsX1_makespan : List Cond := .code yX1_makespan cX1_makespan 2 (some .int) :: ((wsX1_makespan_r1 ++ wsX1_makespan_r2) ++ wsX10)
def wsX1_begin_r1 : List Cond := [Cond.fieldLink RX1 32 "FlowforgeModel" "thrown" "I", Cond.fieldLink RX1 17 "FlowforgeModel" "order" "[I", Cond.fieldLink RX1 35 "FlowforgeModel" "many" "I", Cond.methodLink RX1 108 yX1_isVariant, Cond.static yX1_isVariant, Cond.initialized RX1, Cond.code yX1_isVariant cX1_isVariant 1 (some .boolean), Cond.methodLink RX1 38 yX1_in, Cond.static yX1_in, Cond.code yX1_in cX1_in 3 (some .boolean), Cond.methodLink RX1 42 yX1_isOf, Cond.instanceMethod yX1_isOf, Cond.selects RX1 yX1_isOf yX1_isOf, Cond.code yX1_isOf cX1_isOf 3 (some .boolean), Cond.fieldLink RX1 7 "FlowforgeModel" "wide" "I", Cond.methodLink RX1 69 yX1_lays, Cond.instanceMethod yX1_lays, Cond.selects RX1 yX1_lays yX1_lays, Cond.code yX1_lays cX1_lays 8 (some .int), Cond.fieldLink RX1 20 "FlowforgeModel" "starts" "[I", Cond.methodLink RX1 61 yX1_freeAt, Cond.instanceMethod yX1_freeAt, Cond.selects RX1 yX1_freeAt yX1_freeAt, Cond.code yX1_freeAt cX1_freeAt 5 (some .int)]
def wsX1_begin_r2 : List Cond := [Cond.methodLink RX1 54 yX1_startOf, Cond.instanceMethod yX1_startOf, Cond.selects RX1 yX1_startOf yX1_startOf, Cond.code yX1_startOf cX1_startOf 3 (some .int), Cond.methodLink RX1 57 yX1_endOf, Cond.instanceMethod yX1_endOf, Cond.selects RX1 yX1_endOf yX1_endOf, Cond.code yX1_endOf cX1_endOf 4 (some .int), Cond.methodLink RX1 46 yX1_timeOf, Cond.instanceMethod yX1_timeOf, Cond.selects RX1 yX1_timeOf yX1_timeOf, Cond.code yX1_timeOf cX1_timeOf 3 (some .int), Cond.fieldLink RX1 13 "FlowforgeModel" "times" "[I", Cond.methodLink RX1 65 yX1_pullsTogether, Cond.instanceMethod yX1_pullsTogether, Cond.selects RX1 yX1_pullsTogether yX1_pullsTogether, Cond.code yX1_pullsTogether cX1_pullsTogether 4 none]
def wsX1_begin : List Cond := .code yX1_begin cX1_begin 4 (some .int) :: ((wsX1_begin_r1 ++ wsX1_begin_r2) ++ wsX10)
def wsX1_totalTime_r1 : List Cond := [Cond.fieldLink RX1 32 "FlowforgeModel" "thrown" "I", Cond.fieldLink RX1 35 "FlowforgeModel" "many" "I", Cond.fieldLink RX1 17 "FlowforgeModel" "order" "[I", Cond.fieldLink RX1 7 "FlowforgeModel" "wide" "I", Cond.methodLink RX1 89 yX1_plain, Cond.instanceMethod yX1_plain, Cond.selects RX1 yX1_plain yX1_plain, Cond.initialized RX1, Cond.code yX1_plain cX1_plain 1 (some .int), Cond.methodLink RX1 69 yX1_lays, Cond.instanceMethod yX1_lays, Cond.selects RX1 yX1_lays yX1_lays, Cond.code yX1_lays cX1_lays 8 (some .int), Cond.fieldLink RX1 20 "FlowforgeModel" "starts" "[I", Cond.methodLink RX1 61 yX1_freeAt, Cond.instanceMethod yX1_freeAt, Cond.selects RX1 yX1_freeAt yX1_freeAt, Cond.code yX1_freeAt cX1_freeAt 5 (some .int), Cond.methodLink RX1 54 yX1_startOf, Cond.instanceMethod yX1_startOf, Cond.selects RX1 yX1_startOf yX1_startOf, Cond.code yX1_startOf cX1_startOf 3 (some .int), Cond.methodLink RX1 57 yX1_endOf, Cond.instanceMethod yX1_endOf]
def wsX1_totalTime_r2 : List Cond := [Cond.selects RX1 yX1_endOf yX1_endOf, Cond.code yX1_endOf cX1_endOf 4 (some .int), Cond.methodLink RX1 46 yX1_timeOf, Cond.instanceMethod yX1_timeOf, Cond.selects RX1 yX1_timeOf yX1_timeOf, Cond.code yX1_timeOf cX1_timeOf 3 (some .int), Cond.fieldLink RX1 13 "FlowforgeModel" "times" "[I", Cond.methodLink RX1 65 yX1_pullsTogether, Cond.instanceMethod yX1_pullsTogether, Cond.selects RX1 yX1_pullsTogether yX1_pullsTogether, Cond.code yX1_pullsTogether cX1_pullsTogether 4 none]
def wsX1_totalTime : List Cond := .code yX1_totalTime cX1_totalTime 3 (some .int) :: ((wsX1_totalTime_r1 ++ wsX1_totalTime_r2) ++ wsX10)
def wsX1_laysTails : List Cond := .code yX1_laysTails cX1_laysTails 5 none :: ([.fieldLink RX1 35 "FlowforgeModel" "many" "I", .fieldLink RX1 7 "FlowforgeModel" "wide" "I", .fieldLink RX1 23 "FlowforgeModel" "tails" "[I", .fieldLink RX1 17 "FlowforgeModel" "order" "[I", .methodLink RX1 46 yX1_timeOf, .instanceMethod yX1_timeOf, .selects RX1 yX1_timeOf yX1_timeOf, .initialized RX1, .code yX1_timeOf cX1_timeOf 3 (some .int), .fieldLink RX1 13 "FlowforgeModel" "times" "[I"] ++ wsX10)
def wsX1_head_r1 : List Cond := [Cond.fieldLink RX1 32 "FlowforgeModel" "thrown" "I", Cond.fieldLink RX1 17 "FlowforgeModel" "order" "[I", Cond.methodLink RX1 42 yX1_isOf, Cond.instanceMethod yX1_isOf, Cond.selects RX1 yX1_isOf yX1_isOf, Cond.initialized RX1, Cond.code yX1_isOf cX1_isOf 3 (some .boolean), Cond.fieldLink RX1 35 "FlowforgeModel" "many" "I", Cond.fieldLink RX1 7 "FlowforgeModel" "wide" "I", Cond.methodLink RX1 38 yX1_in, Cond.static yX1_in, Cond.code yX1_in cX1_in 3 (some .boolean), Cond.methodLink RX1 89 yX1_plain, Cond.instanceMethod yX1_plain, Cond.selects RX1 yX1_plain yX1_plain, Cond.code yX1_plain cX1_plain 1 (some .int), Cond.methodLink RX1 69 yX1_lays, Cond.instanceMethod yX1_lays, Cond.selects RX1 yX1_lays yX1_lays, Cond.code yX1_lays cX1_lays 8 (some .int), Cond.fieldLink RX1 20 "FlowforgeModel" "starts" "[I", Cond.methodLink RX1 61 yX1_freeAt, Cond.instanceMethod yX1_freeAt, Cond.selects RX1 yX1_freeAt yX1_freeAt]
def wsX1_head_r2 : List Cond := [Cond.code yX1_freeAt cX1_freeAt 5 (some .int), Cond.methodLink RX1 54 yX1_startOf, Cond.instanceMethod yX1_startOf, Cond.selects RX1 yX1_startOf yX1_startOf, Cond.code yX1_startOf cX1_startOf 3 (some .int), Cond.methodLink RX1 57 yX1_endOf, Cond.instanceMethod yX1_endOf, Cond.selects RX1 yX1_endOf yX1_endOf, Cond.code yX1_endOf cX1_endOf 4 (some .int), Cond.methodLink RX1 46 yX1_timeOf, Cond.instanceMethod yX1_timeOf, Cond.selects RX1 yX1_timeOf yX1_timeOf, Cond.code yX1_timeOf cX1_timeOf 3 (some .int), Cond.fieldLink RX1 13 "FlowforgeModel" "times" "[I", Cond.methodLink RX1 65 yX1_pullsTogether, Cond.instanceMethod yX1_pullsTogether, Cond.selects RX1 yX1_pullsTogether yX1_pullsTogether, Cond.code yX1_pullsTogether cX1_pullsTogether 4 none]
def wsX1_head : List Cond := .code yX1_head cX1_head 3 (some .int) :: ((wsX1_head_r1 ++ wsX1_head_r2) ++ wsX10)
def wsX1_tail : List Cond := .code yX1_tail cX1_tail 3 (some .int) :: ([.fieldLink RX1 32 "FlowforgeModel" "thrown" "I", .fieldLink RX1 23 "FlowforgeModel" "tails" "[I", .methodLink RX1 42 yX1_isOf, .instanceMethod yX1_isOf, .selects RX1 yX1_isOf yX1_isOf, .initialized RX1, .code yX1_isOf cX1_isOf 3 (some .boolean), .fieldLink RX1 35 "FlowforgeModel" "many" "I", .fieldLink RX1 7 "FlowforgeModel" "wide" "I", .methodLink RX1 38 yX1_in, .static yX1_in, .code yX1_in cX1_in 3 (some .boolean), .methodLink RX1 112 yX1_laysTails, .instanceMethod yX1_laysTails, .selects RX1 yX1_laysTails yX1_laysTails, .code yX1_laysTails cX1_laysTails 5 none, .fieldLink RX1 17 "FlowforgeModel" "order" "[I", .methodLink RX1 46 yX1_timeOf, .instanceMethod yX1_timeOf, .selects RX1 yX1_timeOf yX1_timeOf, .code yX1_timeOf cX1_timeOf 3 (some .int), .fieldLink RX1 13 "FlowforgeModel" "times" "[I"] ++ wsX10)
def wsX1_isCritical_r1 : List Cond := [Cond.fieldLink RX1 32 "FlowforgeModel" "thrown" "I", Cond.fieldLink RX1 23 "FlowforgeModel" "tails" "[I", Cond.methodLink RX1 42 yX1_isOf, Cond.instanceMethod yX1_isOf, Cond.selects RX1 yX1_isOf yX1_isOf, Cond.initialized RX1, Cond.code yX1_isOf cX1_isOf 3 (some .boolean), Cond.fieldLink RX1 35 "FlowforgeModel" "many" "I", Cond.fieldLink RX1 7 "FlowforgeModel" "wide" "I", Cond.methodLink RX1 38 yX1_in, Cond.static yX1_in, Cond.code yX1_in cX1_in 3 (some .boolean), Cond.methodLink RX1 89 yX1_plain, Cond.instanceMethod yX1_plain, Cond.selects RX1 yX1_plain yX1_plain, Cond.code yX1_plain cX1_plain 1 (some .int), Cond.fieldLink RX1 17 "FlowforgeModel" "order" "[I", Cond.methodLink RX1 69 yX1_lays, Cond.instanceMethod yX1_lays, Cond.selects RX1 yX1_lays yX1_lays, Cond.code yX1_lays cX1_lays 8 (some .int), Cond.fieldLink RX1 20 "FlowforgeModel" "starts" "[I", Cond.methodLink RX1 61 yX1_freeAt, Cond.instanceMethod yX1_freeAt]
def wsX1_isCritical_r2 : List Cond := [Cond.selects RX1 yX1_freeAt yX1_freeAt, Cond.code yX1_freeAt cX1_freeAt 5 (some .int), Cond.methodLink RX1 54 yX1_startOf, Cond.instanceMethod yX1_startOf, Cond.selects RX1 yX1_startOf yX1_startOf, Cond.code yX1_startOf cX1_startOf 3 (some .int), Cond.methodLink RX1 57 yX1_endOf, Cond.instanceMethod yX1_endOf, Cond.selects RX1 yX1_endOf yX1_endOf, Cond.code yX1_endOf cX1_endOf 4 (some .int), Cond.methodLink RX1 46 yX1_timeOf, Cond.instanceMethod yX1_timeOf, Cond.selects RX1 yX1_timeOf yX1_timeOf, Cond.code yX1_timeOf cX1_timeOf 3 (some .int), Cond.fieldLink RX1 13 "FlowforgeModel" "times" "[I", Cond.methodLink RX1 65 yX1_pullsTogether, Cond.instanceMethod yX1_pullsTogether, Cond.selects RX1 yX1_pullsTogether yX1_pullsTogether, Cond.code yX1_pullsTogether cX1_pullsTogether 4 none, Cond.methodLink RX1 112 yX1_laysTails, Cond.instanceMethod yX1_laysTails, Cond.selects RX1 yX1_laysTails yX1_laysTails, Cond.code yX1_laysTails cX1_laysTails 5 none]
def wsX1_isCritical : List Cond := .code yX1_isCritical cX1_isCritical 4 (some .boolean) :: ((wsX1_isCritical_r1 ++ wsX1_isCritical_r2) ++ wsX10)
def wsX1_idle_r1 : List Cond := [Cond.fieldLink RX1 7 "FlowforgeModel" "wide" "I", Cond.fieldLink RX1 32 "FlowforgeModel" "thrown" "I", Cond.fieldLink RX1 35 "FlowforgeModel" "many" "I", Cond.fieldLink RX1 17 "FlowforgeModel" "order" "[I", Cond.methodLink RX1 108 yX1_isVariant, Cond.static yX1_isVariant, Cond.initialized RX1, Cond.code yX1_isVariant cX1_isVariant 1 (some .boolean), Cond.methodLink RX1 38 yX1_in, Cond.static yX1_in, Cond.code yX1_in cX1_in 3 (some .boolean), Cond.methodLink RX1 69 yX1_lays, Cond.instanceMethod yX1_lays, Cond.selects RX1 yX1_lays yX1_lays, Cond.code yX1_lays cX1_lays 8 (some .int), Cond.fieldLink RX1 20 "FlowforgeModel" "starts" "[I", Cond.methodLink RX1 61 yX1_freeAt, Cond.instanceMethod yX1_freeAt, Cond.selects RX1 yX1_freeAt yX1_freeAt, Cond.code yX1_freeAt cX1_freeAt 5 (some .int), Cond.methodLink RX1 54 yX1_startOf, Cond.instanceMethod yX1_startOf, Cond.selects RX1 yX1_startOf yX1_startOf, Cond.code yX1_startOf cX1_startOf 3 (some .int)]
def wsX1_idle_r2 : List Cond := [Cond.methodLink RX1 57 yX1_endOf, Cond.instanceMethod yX1_endOf, Cond.selects RX1 yX1_endOf yX1_endOf, Cond.code yX1_endOf cX1_endOf 4 (some .int), Cond.methodLink RX1 46 yX1_timeOf, Cond.instanceMethod yX1_timeOf, Cond.selects RX1 yX1_timeOf yX1_timeOf, Cond.code yX1_timeOf cX1_timeOf 3 (some .int), Cond.fieldLink RX1 13 "FlowforgeModel" "times" "[I", Cond.methodLink RX1 65 yX1_pullsTogether, Cond.instanceMethod yX1_pullsTogether, Cond.selects RX1 yX1_pullsTogether yX1_pullsTogether, Cond.code yX1_pullsTogether cX1_pullsTogether 4 none]
def wsX1_idle : List Cond := .code yX1_idle cX1_idle 5 (some .int) :: ((wsX1_idle_r1 ++ wsX1_idle_r2) ++ wsX10)
def wsX1_leastSum : List Cond := .code yX1_leastSum cX1_leastSum 5 (some .int) :: ([.constant RX1 100 (1000000), .fieldLink RX1 35 "FlowforgeModel" "many" "I", .methodLink RX1 93 yX1_sumOf, .instanceMethod yX1_sumOf, .selects RX1 yX1_sumOf yX1_sumOf, .initialized RX1, .code yX1_sumOf cX1_sumOf 6 (some .int), .methodLink RX1 46 yX1_timeOf, .instanceMethod yX1_timeOf, .selects RX1 yX1_timeOf yX1_timeOf, .code yX1_timeOf cX1_timeOf 3 (some .int), .fieldLink RX1 13 "FlowforgeModel" "times" "[I"] ++ wsX10)
def wsX1_machineBound : List Cond := .code yX1_machineBound cX1_machineBound 4 (some .int) :: ([.fieldLink RX1 7 "FlowforgeModel" "wide" "I", .fieldLink RX1 32 "FlowforgeModel" "thrown" "I", .fieldLink RX1 35 "FlowforgeModel" "many" "I", .methodLink RX1 38 yX1_in, .static yX1_in, .initialized RX1, .code yX1_in cX1_in 3 (some .boolean), .methodLink RX1 115 yX1_leastSum, .instanceMethod yX1_leastSum, .selects RX1 yX1_leastSum yX1_leastSum, .code yX1_leastSum cX1_leastSum 5 (some .int), .constant RX1 100 (1000000), .methodLink RX1 93 yX1_sumOf, .instanceMethod yX1_sumOf, .selects RX1 yX1_sumOf yX1_sumOf, .code yX1_sumOf cX1_sumOf 6 (some .int), .methodLink RX1 46 yX1_timeOf, .instanceMethod yX1_timeOf, .selects RX1 yX1_timeOf yX1_timeOf, .code yX1_timeOf cX1_timeOf 3 (some .int), .fieldLink RX1 13 "FlowforgeModel" "times" "[I"] ++ wsX10)
def wsX1_startsTrial : List Cond := .code yX1_startsTrial cX1_startsTrial 2 none :: ([.fieldLink RX1 35 "FlowforgeModel" "many" "I", .fieldLink RX1 26 "FlowforgeModel" "trial" "[I"] ++ wsX10)
def wsX1_swaps : List Cond := .code yX1_swaps cX1_swaps 4 none :: ([.fieldLink RX1 26 "FlowforgeModel" "trial" "[I"] ++ wsX10)
def wsX1_goesOn : List Cond := .code yX1_goesOn cX1_goesOn 5 (some .boolean) :: ([.fieldLink RX1 35 "FlowforgeModel" "many" "I", .fieldLink RX1 26 "FlowforgeModel" "trial" "[I", .methodLink RX1 118 yX1_swaps, .instanceMethod yX1_swaps, .selects RX1 yX1_swaps yX1_swaps, .initialized RX1, .code yX1_swaps cX1_swaps 4 none] ++ wsX10)
def wsX1_onTwo : List Cond := .code yX1_onTwo cX1_onTwo 6 (some .int) :: ([.fieldLink RX1 35 "FlowforgeModel" "many" "I", .fieldLink RX1 26 "FlowforgeModel" "trial" "[I", .methodLink RX1 46 yX1_timeOf, .instanceMethod yX1_timeOf, .selects RX1 yX1_timeOf yX1_timeOf, .initialized RX1, .code yX1_timeOf cX1_timeOf 3 (some .int), .fieldLink RX1 13 "FlowforgeModel" "times" "[I"] ++ wsX10)
def wsX1_pairBound_r1 : List Cond := [Cond.fieldLink RX1 7 "FlowforgeModel" "wide" "I", Cond.fieldLink RX1 32 "FlowforgeModel" "thrown" "I", Cond.fieldLink RX1 35 "FlowforgeModel" "many" "I", Cond.constant RX1 100 (1000000), Cond.methodLink RX1 38 yX1_in, Cond.static yX1_in, Cond.initialized RX1, Cond.code yX1_in cX1_in 3 (some .boolean), Cond.methodLink RX1 121 yX1_startsTrial, Cond.instanceMethod yX1_startsTrial, Cond.selects RX1 yX1_startsTrial yX1_startsTrial, Cond.code yX1_startsTrial cX1_startsTrial 2 none, Cond.fieldLink RX1 26 "FlowforgeModel" "trial" "[I", Cond.methodLink RX1 124 yX1_onTwo, Cond.instanceMethod yX1_onTwo, Cond.selects RX1 yX1_onTwo yX1_onTwo, Cond.code yX1_onTwo cX1_onTwo 6 (some .int), Cond.methodLink RX1 46 yX1_timeOf, Cond.instanceMethod yX1_timeOf, Cond.selects RX1 yX1_timeOf yX1_timeOf, Cond.code yX1_timeOf cX1_timeOf 3 (some .int), Cond.fieldLink RX1 13 "FlowforgeModel" "times" "[I", Cond.methodLink RX1 127 yX1_goesOn, Cond.instanceMethod yX1_goesOn]
def wsX1_pairBound_r2 : List Cond := [Cond.selects RX1 yX1_goesOn yX1_goesOn, Cond.code yX1_goesOn cX1_goesOn 5 (some .boolean), Cond.methodLink RX1 118 yX1_swaps, Cond.instanceMethod yX1_swaps, Cond.selects RX1 yX1_swaps yX1_swaps, Cond.code yX1_swaps cX1_swaps 4 none, Cond.methodLink RX1 115 yX1_leastSum, Cond.instanceMethod yX1_leastSum, Cond.selects RX1 yX1_leastSum yX1_leastSum, Cond.code yX1_leastSum cX1_leastSum 5 (some .int), Cond.methodLink RX1 93 yX1_sumOf, Cond.instanceMethod yX1_sumOf, Cond.selects RX1 yX1_sumOf yX1_sumOf, Cond.code yX1_sumOf cX1_sumOf 6 (some .int)]
def wsX1_pairBound : List Cond := .code yX1_pairBound cX1_pairBound 5 (some .int) :: ((wsX1_pairBound_r1 ++ wsX1_pairBound_r2) ++ wsX10)
def wsX1_searches_r1 : List Cond := [Cond.constant RX1 100 (1000000), Cond.fieldLink RX1 131 "FlowforgeModel" "bestMany" "I", Cond.fieldLink RX1 26 "FlowforgeModel" "trial" "[I", Cond.fieldLink RX1 35 "FlowforgeModel" "many" "I", Cond.fieldLink RX1 29 "FlowforgeModel" "firstBest" "[I", Cond.methodLink RX1 121 yX1_startsTrial, Cond.instanceMethod yX1_startsTrial, Cond.selects RX1 yX1_startsTrial yX1_startsTrial, Cond.initialized RX1, Cond.code yX1_startsTrial cX1_startsTrial 2 none, Cond.methodLink RX1 69 yX1_lays, Cond.instanceMethod yX1_lays, Cond.selects RX1 yX1_lays yX1_lays, Cond.code yX1_lays cX1_lays 8 (some .int), Cond.fieldLink RX1 7 "FlowforgeModel" "wide" "I", Cond.fieldLink RX1 20 "FlowforgeModel" "starts" "[I", Cond.methodLink RX1 61 yX1_freeAt, Cond.instanceMethod yX1_freeAt, Cond.selects RX1 yX1_freeAt yX1_freeAt, Cond.code yX1_freeAt cX1_freeAt 5 (some .int), Cond.methodLink RX1 54 yX1_startOf, Cond.instanceMethod yX1_startOf, Cond.selects RX1 yX1_startOf yX1_startOf, Cond.code yX1_startOf cX1_startOf 3 (some .int)]
def wsX1_searches_r2 : List Cond := [Cond.methodLink RX1 57 yX1_endOf, Cond.instanceMethod yX1_endOf, Cond.selects RX1 yX1_endOf yX1_endOf, Cond.code yX1_endOf cX1_endOf 4 (some .int), Cond.methodLink RX1 46 yX1_timeOf, Cond.instanceMethod yX1_timeOf, Cond.selects RX1 yX1_timeOf yX1_timeOf, Cond.code yX1_timeOf cX1_timeOf 3 (some .int), Cond.fieldLink RX1 13 "FlowforgeModel" "times" "[I", Cond.methodLink RX1 65 yX1_pullsTogether, Cond.instanceMethod yX1_pullsTogether, Cond.selects RX1 yX1_pullsTogether yX1_pullsTogether, Cond.code yX1_pullsTogether cX1_pullsTogether 4 none, Cond.methodLink RX1 127 yX1_goesOn, Cond.instanceMethod yX1_goesOn, Cond.selects RX1 yX1_goesOn yX1_goesOn, Cond.code yX1_goesOn cX1_goesOn 5 (some .boolean), Cond.methodLink RX1 118 yX1_swaps, Cond.instanceMethod yX1_swaps, Cond.selects RX1 yX1_swaps yX1_swaps, Cond.code yX1_swaps cX1_swaps 4 none]
def wsX1_searches : List Cond := .code yX1_searches cX1_searches 6 (some .int) :: ((wsX1_searches_r1 ++ wsX1_searches_r2) ++ wsX10)
def wsX1_best_r1 : List Cond := [Cond.fieldLink RX1 32 "FlowforgeModel" "thrown" "I", Cond.methodLink RX1 108 yX1_isVariant, Cond.static yX1_isVariant, Cond.initialized RX1, Cond.code yX1_isVariant cX1_isVariant 1 (some .boolean), Cond.methodLink RX1 38 yX1_in, Cond.static yX1_in, Cond.code yX1_in cX1_in 3 (some .boolean), Cond.methodLink RX1 134 yX1_searches, Cond.instanceMethod yX1_searches, Cond.selects RX1 yX1_searches yX1_searches, Cond.code yX1_searches cX1_searches 6 (some .int), Cond.constant RX1 100 (1000000), Cond.fieldLink RX1 131 "FlowforgeModel" "bestMany" "I", Cond.fieldLink RX1 26 "FlowforgeModel" "trial" "[I", Cond.fieldLink RX1 35 "FlowforgeModel" "many" "I", Cond.fieldLink RX1 29 "FlowforgeModel" "firstBest" "[I", Cond.methodLink RX1 121 yX1_startsTrial, Cond.instanceMethod yX1_startsTrial, Cond.selects RX1 yX1_startsTrial yX1_startsTrial, Cond.code yX1_startsTrial cX1_startsTrial 2 none, Cond.methodLink RX1 69 yX1_lays, Cond.instanceMethod yX1_lays, Cond.selects RX1 yX1_lays yX1_lays]
def wsX1_best_r2 : List Cond := [Cond.code yX1_lays cX1_lays 8 (some .int), Cond.fieldLink RX1 7 "FlowforgeModel" "wide" "I", Cond.fieldLink RX1 20 "FlowforgeModel" "starts" "[I", Cond.methodLink RX1 61 yX1_freeAt, Cond.instanceMethod yX1_freeAt, Cond.selects RX1 yX1_freeAt yX1_freeAt, Cond.code yX1_freeAt cX1_freeAt 5 (some .int), Cond.methodLink RX1 54 yX1_startOf, Cond.instanceMethod yX1_startOf, Cond.selects RX1 yX1_startOf yX1_startOf, Cond.code yX1_startOf cX1_startOf 3 (some .int), Cond.methodLink RX1 57 yX1_endOf, Cond.instanceMethod yX1_endOf, Cond.selects RX1 yX1_endOf yX1_endOf, Cond.code yX1_endOf cX1_endOf 4 (some .int), Cond.methodLink RX1 46 yX1_timeOf, Cond.instanceMethod yX1_timeOf, Cond.selects RX1 yX1_timeOf yX1_timeOf, Cond.code yX1_timeOf cX1_timeOf 3 (some .int), Cond.fieldLink RX1 13 "FlowforgeModel" "times" "[I", Cond.methodLink RX1 65 yX1_pullsTogether, Cond.instanceMethod yX1_pullsTogether, Cond.selects RX1 yX1_pullsTogether yX1_pullsTogether, Cond.code yX1_pullsTogether cX1_pullsTogether 4 none]
def wsX1_best_r3 : List Cond := [Cond.methodLink RX1 127 yX1_goesOn, Cond.instanceMethod yX1_goesOn, Cond.selects RX1 yX1_goesOn yX1_goesOn, Cond.code yX1_goesOn cX1_goesOn 5 (some .boolean), Cond.methodLink RX1 118 yX1_swaps, Cond.instanceMethod yX1_swaps, Cond.selects RX1 yX1_swaps yX1_swaps, Cond.code yX1_swaps cX1_swaps 4 none]
def wsX1_best : List Cond := .code yX1_best cX1_best 2 (some .int) :: ((wsX1_best_r1 ++ (wsX1_best_r2 ++ wsX1_best_r3)) ++ wsX10)
def wsX1_bestAt_r1 : List Cond := [Cond.fieldLink RX1 35 "FlowforgeModel" "many" "I", Cond.fieldLink RX1 32 "FlowforgeModel" "thrown" "I", Cond.fieldLink RX1 29 "FlowforgeModel" "firstBest" "[I", Cond.methodLink RX1 108 yX1_isVariant, Cond.static yX1_isVariant, Cond.initialized RX1, Cond.code yX1_isVariant cX1_isVariant 1 (some .boolean), Cond.methodLink RX1 38 yX1_in, Cond.static yX1_in, Cond.code yX1_in cX1_in 3 (some .boolean), Cond.methodLink RX1 134 yX1_searches, Cond.instanceMethod yX1_searches, Cond.selects RX1 yX1_searches yX1_searches, Cond.code yX1_searches cX1_searches 6 (some .int), Cond.constant RX1 100 (1000000), Cond.fieldLink RX1 131 "FlowforgeModel" "bestMany" "I", Cond.fieldLink RX1 26 "FlowforgeModel" "trial" "[I", Cond.methodLink RX1 121 yX1_startsTrial, Cond.instanceMethod yX1_startsTrial, Cond.selects RX1 yX1_startsTrial yX1_startsTrial, Cond.code yX1_startsTrial cX1_startsTrial 2 none, Cond.methodLink RX1 69 yX1_lays, Cond.instanceMethod yX1_lays, Cond.selects RX1 yX1_lays yX1_lays]
def wsX1_bestAt_r2 : List Cond := [Cond.code yX1_lays cX1_lays 8 (some .int), Cond.fieldLink RX1 7 "FlowforgeModel" "wide" "I", Cond.fieldLink RX1 20 "FlowforgeModel" "starts" "[I", Cond.methodLink RX1 61 yX1_freeAt, Cond.instanceMethod yX1_freeAt, Cond.selects RX1 yX1_freeAt yX1_freeAt, Cond.code yX1_freeAt cX1_freeAt 5 (some .int), Cond.methodLink RX1 54 yX1_startOf, Cond.instanceMethod yX1_startOf, Cond.selects RX1 yX1_startOf yX1_startOf, Cond.code yX1_startOf cX1_startOf 3 (some .int), Cond.methodLink RX1 57 yX1_endOf, Cond.instanceMethod yX1_endOf, Cond.selects RX1 yX1_endOf yX1_endOf, Cond.code yX1_endOf cX1_endOf 4 (some .int), Cond.methodLink RX1 46 yX1_timeOf, Cond.instanceMethod yX1_timeOf, Cond.selects RX1 yX1_timeOf yX1_timeOf, Cond.code yX1_timeOf cX1_timeOf 3 (some .int), Cond.fieldLink RX1 13 "FlowforgeModel" "times" "[I", Cond.methodLink RX1 65 yX1_pullsTogether, Cond.instanceMethod yX1_pullsTogether, Cond.selects RX1 yX1_pullsTogether yX1_pullsTogether, Cond.code yX1_pullsTogether cX1_pullsTogether 4 none]
def wsX1_bestAt_r3 : List Cond := [Cond.methodLink RX1 127 yX1_goesOn, Cond.instanceMethod yX1_goesOn, Cond.selects RX1 yX1_goesOn yX1_goesOn, Cond.code yX1_goesOn cX1_goesOn 5 (some .boolean), Cond.methodLink RX1 118 yX1_swaps, Cond.instanceMethod yX1_swaps, Cond.selects RX1 yX1_swaps yX1_swaps, Cond.code yX1_swaps cX1_swaps 4 none]
def wsX1_bestAt : List Cond := .code yX1_bestAt cX1_bestAt 3 (some .int) :: ((wsX1_bestAt_r1 ++ (wsX1_bestAt_r2 ++ wsX1_bestAt_r3)) ++ wsX10)
def wsX1_bestOrders_r1 : List Cond := [Cond.fieldLink RX1 32 "FlowforgeModel" "thrown" "I", Cond.fieldLink RX1 131 "FlowforgeModel" "bestMany" "I", Cond.methodLink RX1 108 yX1_isVariant, Cond.static yX1_isVariant, Cond.initialized RX1, Cond.code yX1_isVariant cX1_isVariant 1 (some .boolean), Cond.methodLink RX1 38 yX1_in, Cond.static yX1_in, Cond.code yX1_in cX1_in 3 (some .boolean), Cond.methodLink RX1 134 yX1_searches, Cond.instanceMethod yX1_searches, Cond.selects RX1 yX1_searches yX1_searches, Cond.code yX1_searches cX1_searches 6 (some .int), Cond.constant RX1 100 (1000000), Cond.fieldLink RX1 26 "FlowforgeModel" "trial" "[I", Cond.fieldLink RX1 35 "FlowforgeModel" "many" "I", Cond.fieldLink RX1 29 "FlowforgeModel" "firstBest" "[I", Cond.methodLink RX1 121 yX1_startsTrial, Cond.instanceMethod yX1_startsTrial, Cond.selects RX1 yX1_startsTrial yX1_startsTrial, Cond.code yX1_startsTrial cX1_startsTrial 2 none, Cond.methodLink RX1 69 yX1_lays, Cond.instanceMethod yX1_lays, Cond.selects RX1 yX1_lays yX1_lays]
def wsX1_bestOrders_r2 : List Cond := [Cond.code yX1_lays cX1_lays 8 (some .int), Cond.fieldLink RX1 7 "FlowforgeModel" "wide" "I", Cond.fieldLink RX1 20 "FlowforgeModel" "starts" "[I", Cond.methodLink RX1 61 yX1_freeAt, Cond.instanceMethod yX1_freeAt, Cond.selects RX1 yX1_freeAt yX1_freeAt, Cond.code yX1_freeAt cX1_freeAt 5 (some .int), Cond.methodLink RX1 54 yX1_startOf, Cond.instanceMethod yX1_startOf, Cond.selects RX1 yX1_startOf yX1_startOf, Cond.code yX1_startOf cX1_startOf 3 (some .int), Cond.methodLink RX1 57 yX1_endOf, Cond.instanceMethod yX1_endOf, Cond.selects RX1 yX1_endOf yX1_endOf, Cond.code yX1_endOf cX1_endOf 4 (some .int), Cond.methodLink RX1 46 yX1_timeOf, Cond.instanceMethod yX1_timeOf, Cond.selects RX1 yX1_timeOf yX1_timeOf, Cond.code yX1_timeOf cX1_timeOf 3 (some .int), Cond.fieldLink RX1 13 "FlowforgeModel" "times" "[I", Cond.methodLink RX1 65 yX1_pullsTogether, Cond.instanceMethod yX1_pullsTogether, Cond.selects RX1 yX1_pullsTogether yX1_pullsTogether, Cond.code yX1_pullsTogether cX1_pullsTogether 4 none]
def wsX1_bestOrders_r3 : List Cond := [Cond.methodLink RX1 127 yX1_goesOn, Cond.instanceMethod yX1_goesOn, Cond.selects RX1 yX1_goesOn yX1_goesOn, Cond.code yX1_goesOn cX1_goesOn 5 (some .boolean), Cond.methodLink RX1 118 yX1_swaps, Cond.instanceMethod yX1_swaps, Cond.selects RX1 yX1_swaps yX1_swaps, Cond.code yX1_swaps cX1_swaps 4 none]
def wsX1_bestOrders : List Cond := .code yX1_bestOrders cX1_bestOrders 2 (some .int) :: ((wsX1_bestOrders_r1 ++ (wsX1_bestOrders_r2 ++ wsX1_bestOrders_r3)) ++ wsX10)
def wsX1_gap_r1 : List Cond := [Cond.fieldLink RX1 32 "FlowforgeModel" "thrown" "I", Cond.methodLink RX1 134 yX1_searches, Cond.instanceMethod yX1_searches, Cond.selects RX1 yX1_searches yX1_searches, Cond.initialized RX1, Cond.code yX1_searches cX1_searches 6 (some .int), Cond.constant RX1 100 (1000000), Cond.fieldLink RX1 131 "FlowforgeModel" "bestMany" "I", Cond.fieldLink RX1 26 "FlowforgeModel" "trial" "[I", Cond.fieldLink RX1 35 "FlowforgeModel" "many" "I", Cond.fieldLink RX1 29 "FlowforgeModel" "firstBest" "[I", Cond.methodLink RX1 121 yX1_startsTrial, Cond.instanceMethod yX1_startsTrial, Cond.selects RX1 yX1_startsTrial yX1_startsTrial, Cond.code yX1_startsTrial cX1_startsTrial 2 none, Cond.methodLink RX1 69 yX1_lays, Cond.instanceMethod yX1_lays, Cond.selects RX1 yX1_lays yX1_lays, Cond.code yX1_lays cX1_lays 8 (some .int), Cond.fieldLink RX1 7 "FlowforgeModel" "wide" "I", Cond.fieldLink RX1 20 "FlowforgeModel" "starts" "[I", Cond.methodLink RX1 61 yX1_freeAt, Cond.instanceMethod yX1_freeAt, Cond.selects RX1 yX1_freeAt yX1_freeAt]
def wsX1_gap_r2 : List Cond := [Cond.code yX1_freeAt cX1_freeAt 5 (some .int), Cond.methodLink RX1 54 yX1_startOf, Cond.instanceMethod yX1_startOf, Cond.selects RX1 yX1_startOf yX1_startOf, Cond.code yX1_startOf cX1_startOf 3 (some .int), Cond.methodLink RX1 57 yX1_endOf, Cond.instanceMethod yX1_endOf, Cond.selects RX1 yX1_endOf yX1_endOf, Cond.code yX1_endOf cX1_endOf 4 (some .int), Cond.methodLink RX1 46 yX1_timeOf, Cond.instanceMethod yX1_timeOf, Cond.selects RX1 yX1_timeOf yX1_timeOf, Cond.code yX1_timeOf cX1_timeOf 3 (some .int), Cond.fieldLink RX1 13 "FlowforgeModel" "times" "[I", Cond.methodLink RX1 65 yX1_pullsTogether, Cond.instanceMethod yX1_pullsTogether, Cond.selects RX1 yX1_pullsTogether yX1_pullsTogether, Cond.code yX1_pullsTogether cX1_pullsTogether 4 none, Cond.methodLink RX1 127 yX1_goesOn, Cond.instanceMethod yX1_goesOn, Cond.selects RX1 yX1_goesOn yX1_goesOn, Cond.code yX1_goesOn cX1_goesOn 5 (some .boolean), Cond.methodLink RX1 118 yX1_swaps, Cond.instanceMethod yX1_swaps]
def wsX1_gap_r3 : List Cond := [Cond.selects RX1 yX1_swaps yX1_swaps, Cond.code yX1_swaps cX1_swaps 4 none, Cond.methodLink RX1 89 yX1_plain, Cond.instanceMethod yX1_plain, Cond.selects RX1 yX1_plain yX1_plain, Cond.code yX1_plain cX1_plain 1 (some .int), Cond.fieldLink RX1 17 "FlowforgeModel" "order" "[I"]
def wsX1_gap : List Cond := .code yX1_gap cX1_gap 3 (some .double) :: ((wsX1_gap_r1 ++ (wsX1_gap_r2 ++ wsX1_gap_r3)) ++ wsX10)
def wsJ9_max_7cf53 : List Cond := .code yJ9_max_7cf53 cJ9_max_7cf53 2 (some .int) :: ([])
def wsJ9_min_7cf53 : List Cond := .code yJ9_min_7cf53 cJ9_min_7cf53 2 (some .int) :: ([])
def wsL_addJob : List Cond := .codeWith yL_addJob cL_addJob 3 (some .int) [(0, 8, 11, 13)] :: ([.classLink RL 13 "java/lang/IllegalStateException", .methodLink RL 7 yX0_addJob, .instanceMethod yX0_addJob, .selects RX0 yX0_addJob yX0_addJob, .initialized RX0, .code yX0_addJob cX0_addJob 2 (some .int), .classLink RX0 51 "java/lang/IllegalStateException", .initialized "java/lang/IllegalStateException", .fieldLink RX0 7 "Flowforge" "jobCount" "I", .fieldLink RX0 29 "Flowforge" "order" "[I", .methodLink RX0 58 yX0_forgetBestOrders, .instanceMethod yX0_forgetBestOrders, .selects RX0 yX0_forgetBestOrders yX0_forgetBestOrders, .code yX0_forgetBestOrders cX0_forgetBestOrders 2 none, .fieldLink RX0 38 "Flowforge" "solved" "[Z"] ++ wsX00 ++ (vx_atS RX0 55 "java/lang/IllegalStateException" ["java/lang/RuntimeException", "java/lang/Exception"]).filter goodWord)
def wsL_setMachines : List Cond := .codeWith yL_setMachines cL_setMachines 4 (some .int) [(0, 9, 12, 19)] :: ([.classLink RL 19 "java/lang/IllegalArgumentException", .methodLink RL 15 yX0_setMachines, .instanceMethod yX0_setMachines, .selects RX0 yX0_setMachines yX0_setMachines, .initialized RX0, .code yX0_setMachines cX0_setMachines 5 (some .int), .classLink RX0 61 "java/lang/IllegalArgumentException", .initialized "java/lang/IllegalArgumentException", .fieldLink RX0 13 "Flowforge" "machineCount" "I", .fieldLink RX0 7 "Flowforge" "jobCount" "I", .fieldLink RX0 16 "Flowforge" "times" "[I", .methodLink RX0 66 yX0_cell, .static yX0_cell, .code yX0_cell cX0_cell 2 (some .int), .methodLink RX0 58 yX0_forgetBestOrders, .instanceMethod yX0_forgetBestOrders, .selects RX0 yX0_forgetBestOrders yX0_forgetBestOrders, .code yX0_forgetBestOrders cX0_forgetBestOrders 2 none, .fieldLink RX0 38 "Flowforge" "solved" "[Z"] ++ wsX00 ++ (vx_atS RX0 65 "java/lang/IllegalArgumentException" ["java/lang/RuntimeException", "java/lang/Exception"]).filter goodWord)
def wsL_setTime_r1 : List Cond := [Cond.classLink RL 25 "java/lang/IndexOutOfBoundsException", Cond.classLink RL 19 "java/lang/IllegalArgumentException", Cond.methodLink RL 21 yX0_setTime, Cond.instanceMethod yX0_setTime, Cond.selects RX0 yX0_setTime yX0_setTime, Cond.initialized RX0, Cond.code yX0_setTime cX0_setTime 5 (some .int), Cond.classLink RX0 61 "java/lang/IllegalArgumentException", Cond.initialized "java/lang/IllegalArgumentException", Cond.fieldLink RX0 16 "Flowforge" "times" "[I", Cond.methodLink RX0 70 yX0_requireJob, Cond.instanceMethod yX0_requireJob, Cond.selects RX0 yX0_requireJob yX0_requireJob, Cond.code yX0_requireJob cX0_requireJob 2 none, Cond.classLink RX0 131 "java/lang/IndexOutOfBoundsException", Cond.initialized "java/lang/IndexOutOfBoundsException", Cond.fieldLink RX0 7 "Flowforge" "jobCount" "I", Cond.methodLink RX0 74 yX0_requireMachine, Cond.instanceMethod yX0_requireMachine, Cond.selects RX0 yX0_requireMachine yX0_requireMachine, Cond.code yX0_requireMachine cX0_requireMachine 2 none, Cond.fieldLink RX0 13 "Flowforge" "machineCount" "I", Cond.methodLink RX0 66 yX0_cell, Cond.static yX0_cell]
def wsL_setTime_r2 : List Cond := [Cond.code yX0_cell cX0_cell 2 (some .int), Cond.methodLink RX0 58 yX0_forgetBestOrders, Cond.instanceMethod yX0_forgetBestOrders, Cond.selects RX0 yX0_forgetBestOrders yX0_forgetBestOrders, Cond.code yX0_forgetBestOrders cX0_forgetBestOrders 2 none, Cond.fieldLink RX0 38 "Flowforge" "solved" "[Z"]
def wsL_setTime : List Cond := .codeWith yL_setTime cL_setTime 6 (some .int) [(0, 12, 15, 25), (0, 12, 19, 19)] :: ((wsL_setTime_r1 ++ wsL_setTime_r2) ++ wsX00 ++ (vx_atS RX0 65 "java/lang/IllegalArgumentException" ["java/lang/RuntimeException", "java/lang/Exception"]).filter goodWord ++ (vx_atS RX0 135 "java/lang/IndexOutOfBoundsException" ["java/lang/RuntimeException", "java/lang/Exception"]).filter goodWord)
def wsL_time : List Cond := .codeWith yL_time cL_time 5 (some .int) [(0, 10, 13, 25)] :: ([.classLink RL 25 "java/lang/IndexOutOfBoundsException", .methodLink RL 27 yX0_time, .instanceMethod yX0_time, .selects RX0 yX0_time yX0_time, .initialized RX0, .code yX0_time cX0_time 3 (some .int), .fieldLink RX0 16 "Flowforge" "times" "[I", .methodLink RX0 70 yX0_requireJob, .instanceMethod yX0_requireJob, .selects RX0 yX0_requireJob yX0_requireJob, .code yX0_requireJob cX0_requireJob 2 none, .classLink RX0 131 "java/lang/IndexOutOfBoundsException", .initialized "java/lang/IndexOutOfBoundsException", .fieldLink RX0 7 "Flowforge" "jobCount" "I", .methodLink RX0 74 yX0_requireMachine, .instanceMethod yX0_requireMachine, .selects RX0 yX0_requireMachine yX0_requireMachine, .code yX0_requireMachine cX0_requireMachine 2 none, .fieldLink RX0 13 "Flowforge" "machineCount" "I", .methodLink RX0 66 yX0_cell, .static yX0_cell, .code yX0_cell cX0_cell 2 (some .int)] ++ wsX00 ++ (vx_atS RX0 135 "java/lang/IndexOutOfBoundsException" ["java/lang/RuntimeException", "java/lang/Exception"]).filter goodWord)
def wsL_jobAt : List Cond := .codeWith yL_jobAt cL_jobAt 4 (some .int) [(0, 9, 12, 25)] :: ([.classLink RL 25 "java/lang/IndexOutOfBoundsException", .methodLink RL 31 yX0_jobAt, .instanceMethod yX0_jobAt, .selects RX0 yX0_jobAt yX0_jobAt, .initialized RX0, .code yX0_jobAt cX0_jobAt 2 (some .int), .fieldLink RX0 29 "Flowforge" "order" "[I", .methodLink RX0 79 yX0_requirePlace, .instanceMethod yX0_requirePlace, .selects RX0 yX0_requirePlace yX0_requirePlace, .code yX0_requirePlace cX0_requirePlace 2 none, .classLink RX0 131 "java/lang/IndexOutOfBoundsException", .initialized "java/lang/IndexOutOfBoundsException", .fieldLink RX0 7 "Flowforge" "jobCount" "I"] ++ wsX00 ++ (vx_atS RX0 135 "java/lang/IndexOutOfBoundsException" ["java/lang/RuntimeException", "java/lang/Exception"]).filter goodWord)
def wsL_move_r1 : List Cond := [Cond.classLink RL 25 "java/lang/IndexOutOfBoundsException", Cond.methodLink RL 34 yX0_move, Cond.instanceMethod yX0_move, Cond.selects RX0 yX0_move yX0_move, Cond.initialized RX0, Cond.code yX0_move cX0_move 4 (some .int), Cond.fieldLink RX0 29 "Flowforge" "order" "[I", Cond.methodLink RX0 70 yX0_requireJob, Cond.instanceMethod yX0_requireJob, Cond.selects RX0 yX0_requireJob yX0_requireJob, Cond.code yX0_requireJob cX0_requireJob 2 none, Cond.classLink RX0 131 "java/lang/IndexOutOfBoundsException", Cond.initialized "java/lang/IndexOutOfBoundsException", Cond.fieldLink RX0 7 "Flowforge" "jobCount" "I", Cond.methodLink RX0 79 yX0_requirePlace, Cond.instanceMethod yX0_requirePlace, Cond.selects RX0 yX0_requirePlace yX0_requirePlace, Cond.code yX0_requirePlace cX0_requirePlace 2 none, Cond.methodLink RX0 82 yX0_placeOf, Cond.instanceMethod yX0_placeOf, Cond.selects RX0 yX0_placeOf yX0_placeOf, Cond.code yX0_placeOf cX0_placeOf 3 (some .int), Cond.methodLink RX0 86 yX0_shift, Cond.static yX0_shift]
def wsL_move_r2 : List Cond := [Cond.code yX0_shift cX0_shift 5 none]
def wsL_move : List Cond := .codeWith yL_move cL_move 5 (some .int) [(0, 10, 13, 25)] :: ((wsL_move_r1 ++ wsL_move_r2) ++ wsX00 ++ (vx_atS RX0 135 "java/lang/IndexOutOfBoundsException" ["java/lang/RuntimeException", "java/lang/Exception"]).filter goodWord)
def wsL_makespanIfMoved_r1 : List Cond := [Cond.classLink RL 25 "java/lang/IndexOutOfBoundsException", Cond.methodLink RL 37 yX0_makespanIfMoved, Cond.instanceMethod yX0_makespanIfMoved, Cond.selects RX0 yX0_makespanIfMoved yX0_makespanIfMoved, Cond.initialized RX0, Cond.code yX0_makespanIfMoved cX0_makespanIfMoved 3 (some .int), Cond.fieldLink RX0 7 "Flowforge" "jobCount" "I", Cond.methodLink RX0 70 yX0_requireJob, Cond.instanceMethod yX0_requireJob, Cond.selects RX0 yX0_requireJob yX0_requireJob, Cond.code yX0_requireJob cX0_requireJob 2 none, Cond.classLink RX0 131 "java/lang/IndexOutOfBoundsException", Cond.initialized "java/lang/IndexOutOfBoundsException", Cond.methodLink RX0 79 yX0_requirePlace, Cond.instanceMethod yX0_requirePlace, Cond.selects RX0 yX0_requirePlace yX0_requirePlace, Cond.code yX0_requirePlace cX0_requirePlace 2 none, Cond.methodLink RX0 82 yX0_placeOf, Cond.instanceMethod yX0_placeOf, Cond.selects RX0 yX0_placeOf yX0_placeOf, Cond.code yX0_placeOf cX0_placeOf 3 (some .int), Cond.fieldLink RX0 29 "Flowforge" "order" "[I", Cond.methodLink RX0 90 yX0_makespanIfShifted, Cond.instanceMethod yX0_makespanIfShifted]
def wsL_makespanIfMoved_r2 : List Cond := [Cond.selects RX0 yX0_makespanIfShifted yX0_makespanIfShifted, Cond.code yX0_makespanIfShifted cX0_makespanIfShifted 5 (some .int), Cond.fieldLink RX0 32 "Flowforge" "trial" "[I", Cond.methodLink RX0 150 arraycopyName, Cond.native arraycopyName, Cond.static arraycopyName, Cond.initialized "java/lang/System", Cond.methodLink RX0 86 yX0_shift, Cond.static yX0_shift, Cond.code yX0_shift cX0_shift 5 none, Cond.methodLink RX0 156 yX0_scheduleJob, Cond.instanceMethod yX0_scheduleJob, Cond.selects RX0 yX0_scheduleJob yX0_scheduleJob, Cond.code yX0_scheduleJob cX0_scheduleJob 7 none, Cond.fieldLink RX0 13 "Flowforge" "machineCount" "I", Cond.methodLink RX0 167 Lib.Math.max.name, Cond.static Lib.Math.max.name, Cond.initialized "java/lang/Math", Cond.code Lib.Math.max.name Lib.Math.max.code 2 (some .int), Cond.fieldLink RX0 20 "Flowforge" "begins" "[I", Cond.fieldLink RX0 23 "Flowforge" "ends" "[I", Cond.methodLink RX0 170 yX0_beginWithoutWaiting, Cond.instanceMethod yX0_beginWithoutWaiting, Cond.selects RX0 yX0_beginWithoutWaiting yX0_beginWithoutWaiting]
def wsL_makespanIfMoved_r3 : List Cond := [Cond.code yX0_beginWithoutWaiting cX0_beginWithoutWaiting 6 (some .int), Cond.methodLink RX0 173 yX0_freeFrom, Cond.instanceMethod yX0_freeFrom, Cond.selects RX0 yX0_freeFrom yX0_freeFrom, Cond.code yX0_freeFrom cX0_freeFrom 4 (some .int), Cond.methodLink RX0 66 yX0_cell, Cond.static yX0_cell, Cond.code yX0_cell cX0_cell 2 (some .int), Cond.methodLink RX0 114 yX0_timeOf, Cond.instanceMethod yX0_timeOf, Cond.selects RX0 yX0_timeOf yX0_timeOf, Cond.code yX0_timeOf cX0_timeOf 3 (some .int), Cond.fieldLink RX0 16 "Flowforge" "times" "[I", Cond.methodLink RX0 160 yX0_lastEnd, Cond.instanceMethod yX0_lastEnd, Cond.selects RX0 yX0_lastEnd yX0_lastEnd, Cond.code yX0_lastEnd cX0_lastEnd 2 (some .int)]
def wsL_makespanIfMoved : List Cond := .codeWith yL_makespanIfMoved cL_makespanIfMoved 5 (some .int) [(0, 10, 13, 25)] :: ((wsL_makespanIfMoved_r1 ++ (wsL_makespanIfMoved_r2 ++ wsL_makespanIfMoved_r3)) ++ wsX00 ++ (vx_atS RX0 135 "java/lang/IndexOutOfBoundsException" ["java/lang/RuntimeException", "java/lang/Exception"]).filter goodWord)
def wsL_orderByRule_r1 : List Cond := [Cond.classLink RL 13 "java/lang/IllegalStateException", Cond.methodLink RL 40 yX0_orderByRule, Cond.instanceMethod yX0_orderByRule, Cond.selects RX0 yX0_orderByRule yX0_orderByRule, Cond.initialized RX0, Cond.code yX0_orderByRule cX0_orderByRule 1 (some .int), Cond.classLink RX0 51 "java/lang/IllegalStateException", Cond.initialized "java/lang/IllegalStateException", Cond.fieldLink RX0 13 "Flowforge" "machineCount" "I", Cond.fieldLink RX0 29 "Flowforge" "order" "[I", Cond.methodLink RX0 96 yX0_fillByRule, Cond.instanceMethod yX0_fillByRule, Cond.selects RX0 yX0_fillByRule yX0_fillByRule, Cond.code yX0_fillByRule cX0_fillByRule 6 none, Cond.fieldLink RX0 7 "Flowforge" "jobCount" "I", Cond.methodLink RX0 163 yX0_goesBefore, Cond.instanceMethod yX0_goesBefore, Cond.selects RX0 yX0_goesBefore yX0_goesBefore, Cond.code yX0_goesBefore cX0_goesBefore 7 (some .boolean), Cond.methodLink RX0 114 yX0_timeOf, Cond.instanceMethod yX0_timeOf, Cond.selects RX0 yX0_timeOf yX0_timeOf, Cond.code yX0_timeOf cX0_timeOf 3 (some .int), Cond.fieldLink RX0 16 "Flowforge" "times" "[I"]
def wsL_orderByRule_r2 : List Cond := [Cond.methodLink RX0 66 yX0_cell, Cond.static yX0_cell, Cond.code yX0_cell cX0_cell 2 (some .int), Cond.methodLink RX0 99 yX0_scheduleOrder, Cond.instanceMethod yX0_scheduleOrder, Cond.selects RX0 yX0_scheduleOrder yX0_scheduleOrder, Cond.code yX0_scheduleOrder cX0_scheduleOrder 3 (some .int), Cond.methodLink RX0 156 yX0_scheduleJob, Cond.instanceMethod yX0_scheduleJob, Cond.selects RX0 yX0_scheduleJob yX0_scheduleJob, Cond.code yX0_scheduleJob cX0_scheduleJob 7 none, Cond.methodLink RX0 167 Lib.Math.max.name, Cond.static Lib.Math.max.name, Cond.initialized "java/lang/Math", Cond.code Lib.Math.max.name Lib.Math.max.code 2 (some .int), Cond.fieldLink RX0 20 "Flowforge" "begins" "[I", Cond.fieldLink RX0 23 "Flowforge" "ends" "[I", Cond.methodLink RX0 170 yX0_beginWithoutWaiting, Cond.instanceMethod yX0_beginWithoutWaiting, Cond.selects RX0 yX0_beginWithoutWaiting yX0_beginWithoutWaiting, Cond.code yX0_beginWithoutWaiting cX0_beginWithoutWaiting 6 (some .int), Cond.methodLink RX0 173 yX0_freeFrom, Cond.instanceMethod yX0_freeFrom, Cond.selects RX0 yX0_freeFrom yX0_freeFrom]
def wsL_orderByRule_r3 : List Cond := [Cond.code yX0_freeFrom cX0_freeFrom 4 (some .int), Cond.methodLink RX0 160 yX0_lastEnd, Cond.instanceMethod yX0_lastEnd, Cond.selects RX0 yX0_lastEnd yX0_lastEnd, Cond.code yX0_lastEnd cX0_lastEnd 2 (some .int)]
def wsL_orderByRule : List Cond := .codeWith yL_orderByRule cL_orderByRule 3 (some .int) [(0, 8, 11, 13)] :: ((wsL_orderByRule_r1 ++ (wsL_orderByRule_r2 ++ wsL_orderByRule_r3)) ++ wsX00 ++ (vx_atS RX0 55 "java/lang/IllegalStateException" ["java/lang/RuntimeException", "java/lang/Exception"]).filter goodWord)
def wsL_makespan_r1 : List Cond := [Cond.classLink RL 19 "java/lang/IllegalArgumentException", Cond.methodLink RL 43 yX0_makespan, Cond.instanceMethod yX0_makespan, Cond.selects RX0 yX0_makespan yX0_makespan, Cond.initialized RX0, Cond.code yX0_makespan cX0_makespan 2 (some .int), Cond.methodLink RX0 108 yX0_requireVariant, Cond.static yX0_requireVariant, Cond.code yX0_requireVariant cX0_requireVariant 1 none, Cond.classLink RX0 61 "java/lang/IllegalArgumentException", Cond.initialized "java/lang/IllegalArgumentException", Cond.methodLink RX0 99 yX0_scheduleOrder, Cond.instanceMethod yX0_scheduleOrder, Cond.selects RX0 yX0_scheduleOrder yX0_scheduleOrder, Cond.code yX0_scheduleOrder cX0_scheduleOrder 3 (some .int), Cond.fieldLink RX0 7 "Flowforge" "jobCount" "I", Cond.fieldLink RX0 29 "Flowforge" "order" "[I", Cond.methodLink RX0 156 yX0_scheduleJob, Cond.instanceMethod yX0_scheduleJob, Cond.selects RX0 yX0_scheduleJob yX0_scheduleJob, Cond.code yX0_scheduleJob cX0_scheduleJob 7 none, Cond.fieldLink RX0 13 "Flowforge" "machineCount" "I", Cond.methodLink RX0 167 Lib.Math.max.name, Cond.static Lib.Math.max.name]
def wsL_makespan_r2 : List Cond := [Cond.initialized "java/lang/Math", Cond.code Lib.Math.max.name Lib.Math.max.code 2 (some .int), Cond.fieldLink RX0 20 "Flowforge" "begins" "[I", Cond.fieldLink RX0 23 "Flowforge" "ends" "[I", Cond.methodLink RX0 170 yX0_beginWithoutWaiting, Cond.instanceMethod yX0_beginWithoutWaiting, Cond.selects RX0 yX0_beginWithoutWaiting yX0_beginWithoutWaiting, Cond.code yX0_beginWithoutWaiting cX0_beginWithoutWaiting 6 (some .int), Cond.methodLink RX0 173 yX0_freeFrom, Cond.instanceMethod yX0_freeFrom, Cond.selects RX0 yX0_freeFrom yX0_freeFrom, Cond.code yX0_freeFrom cX0_freeFrom 4 (some .int), Cond.methodLink RX0 66 yX0_cell, Cond.static yX0_cell, Cond.code yX0_cell cX0_cell 2 (some .int), Cond.methodLink RX0 114 yX0_timeOf, Cond.instanceMethod yX0_timeOf, Cond.selects RX0 yX0_timeOf yX0_timeOf, Cond.code yX0_timeOf cX0_timeOf 3 (some .int), Cond.fieldLink RX0 16 "Flowforge" "times" "[I", Cond.methodLink RX0 160 yX0_lastEnd, Cond.instanceMethod yX0_lastEnd, Cond.selects RX0 yX0_lastEnd yX0_lastEnd, Cond.code yX0_lastEnd cX0_lastEnd 2 (some .int)]
def wsL_makespan : List Cond := .codeWith yL_makespan cL_makespan 4 (some .int) [(0, 9, 12, 19)] :: ((wsL_makespan_r1 ++ wsL_makespan_r2) ++ wsX00 ++ (vx_atS RX0 65 "java/lang/IllegalArgumentException" ["java/lang/RuntimeException", "java/lang/Exception"]).filter goodWord)
def wsL_begin_r1 : List Cond := [Cond.classLink RL 19 "java/lang/IllegalArgumentException", Cond.classLink RL 25 "java/lang/IndexOutOfBoundsException", Cond.methodLink RL 46 yX0_begin, Cond.instanceMethod yX0_begin, Cond.selects RX0 yX0_begin yX0_begin, Cond.initialized RX0, Cond.code yX0_begin cX0_begin 4 (some .int), Cond.fieldLink RX0 20 "Flowforge" "begins" "[I", Cond.methodLink RX0 108 yX0_requireVariant, Cond.static yX0_requireVariant, Cond.code yX0_requireVariant cX0_requireVariant 1 none, Cond.classLink RX0 61 "java/lang/IllegalArgumentException", Cond.initialized "java/lang/IllegalArgumentException", Cond.methodLink RX0 79 yX0_requirePlace, Cond.instanceMethod yX0_requirePlace, Cond.selects RX0 yX0_requirePlace yX0_requirePlace, Cond.code yX0_requirePlace cX0_requirePlace 2 none, Cond.classLink RX0 131 "java/lang/IndexOutOfBoundsException", Cond.initialized "java/lang/IndexOutOfBoundsException", Cond.fieldLink RX0 7 "Flowforge" "jobCount" "I", Cond.methodLink RX0 74 yX0_requireMachine, Cond.instanceMethod yX0_requireMachine, Cond.selects RX0 yX0_requireMachine yX0_requireMachine, Cond.code yX0_requireMachine cX0_requireMachine 2 none]
def wsL_begin_r2 : List Cond := [Cond.fieldLink RX0 13 "Flowforge" "machineCount" "I", Cond.methodLink RX0 99 yX0_scheduleOrder, Cond.instanceMethod yX0_scheduleOrder, Cond.selects RX0 yX0_scheduleOrder yX0_scheduleOrder, Cond.code yX0_scheduleOrder cX0_scheduleOrder 3 (some .int), Cond.fieldLink RX0 29 "Flowforge" "order" "[I", Cond.methodLink RX0 156 yX0_scheduleJob, Cond.instanceMethod yX0_scheduleJob, Cond.selects RX0 yX0_scheduleJob yX0_scheduleJob, Cond.code yX0_scheduleJob cX0_scheduleJob 7 none, Cond.methodLink RX0 167 Lib.Math.max.name, Cond.static Lib.Math.max.name, Cond.initialized "java/lang/Math", Cond.code Lib.Math.max.name Lib.Math.max.code 2 (some .int), Cond.fieldLink RX0 23 "Flowforge" "ends" "[I", Cond.methodLink RX0 170 yX0_beginWithoutWaiting, Cond.instanceMethod yX0_beginWithoutWaiting, Cond.selects RX0 yX0_beginWithoutWaiting yX0_beginWithoutWaiting, Cond.code yX0_beginWithoutWaiting cX0_beginWithoutWaiting 6 (some .int), Cond.methodLink RX0 173 yX0_freeFrom, Cond.instanceMethod yX0_freeFrom, Cond.selects RX0 yX0_freeFrom yX0_freeFrom, Cond.code yX0_freeFrom cX0_freeFrom 4 (some .int), Cond.methodLink RX0 66 yX0_cell]
def wsL_begin_r3 : List Cond := [Cond.static yX0_cell, Cond.code yX0_cell cX0_cell 2 (some .int), Cond.methodLink RX0 114 yX0_timeOf, Cond.instanceMethod yX0_timeOf, Cond.selects RX0 yX0_timeOf yX0_timeOf, Cond.code yX0_timeOf cX0_timeOf 3 (some .int), Cond.fieldLink RX0 16 "Flowforge" "times" "[I", Cond.methodLink RX0 160 yX0_lastEnd, Cond.instanceMethod yX0_lastEnd, Cond.selects RX0 yX0_lastEnd yX0_lastEnd, Cond.code yX0_lastEnd cX0_lastEnd 2 (some .int)]
def wsL_begin : List Cond := .codeWith yL_begin cL_begin 6 (some .int) [(0, 12, 15, 19), (0, 12, 19, 25)] :: ((wsL_begin_r1 ++ (wsL_begin_r2 ++ wsL_begin_r3)) ++ wsX00 ++ (vx_atS RX0 65 "java/lang/IllegalArgumentException" ["java/lang/RuntimeException", "java/lang/Exception"]).filter goodWord ++ (vx_atS RX0 135 "java/lang/IndexOutOfBoundsException" ["java/lang/RuntimeException", "java/lang/Exception"]).filter goodWord)
def wsL_head_r1 : List Cond := [Cond.classLink RL 25 "java/lang/IndexOutOfBoundsException", Cond.methodLink RL 49 yX0_head, Cond.instanceMethod yX0_head, Cond.selects RX0 yX0_head yX0_head, Cond.initialized RX0, Cond.code yX0_head cX0_head 3 (some .int), Cond.fieldLink RX0 23 "Flowforge" "ends" "[I", Cond.methodLink RX0 79 yX0_requirePlace, Cond.instanceMethod yX0_requirePlace, Cond.selects RX0 yX0_requirePlace yX0_requirePlace, Cond.code yX0_requirePlace cX0_requirePlace 2 none, Cond.classLink RX0 131 "java/lang/IndexOutOfBoundsException", Cond.initialized "java/lang/IndexOutOfBoundsException", Cond.fieldLink RX0 7 "Flowforge" "jobCount" "I", Cond.methodLink RX0 74 yX0_requireMachine, Cond.instanceMethod yX0_requireMachine, Cond.selects RX0 yX0_requireMachine yX0_requireMachine, Cond.code yX0_requireMachine cX0_requireMachine 2 none, Cond.fieldLink RX0 13 "Flowforge" "machineCount" "I", Cond.methodLink RX0 99 yX0_scheduleOrder, Cond.instanceMethod yX0_scheduleOrder, Cond.selects RX0 yX0_scheduleOrder yX0_scheduleOrder, Cond.code yX0_scheduleOrder cX0_scheduleOrder 3 (some .int), Cond.fieldLink RX0 29 "Flowforge" "order" "[I"]
def wsL_head_r2 : List Cond := [Cond.methodLink RX0 156 yX0_scheduleJob, Cond.instanceMethod yX0_scheduleJob, Cond.selects RX0 yX0_scheduleJob yX0_scheduleJob, Cond.code yX0_scheduleJob cX0_scheduleJob 7 none, Cond.methodLink RX0 167 Lib.Math.max.name, Cond.static Lib.Math.max.name, Cond.initialized "java/lang/Math", Cond.code Lib.Math.max.name Lib.Math.max.code 2 (some .int), Cond.fieldLink RX0 20 "Flowforge" "begins" "[I", Cond.methodLink RX0 170 yX0_beginWithoutWaiting, Cond.instanceMethod yX0_beginWithoutWaiting, Cond.selects RX0 yX0_beginWithoutWaiting yX0_beginWithoutWaiting, Cond.code yX0_beginWithoutWaiting cX0_beginWithoutWaiting 6 (some .int), Cond.methodLink RX0 173 yX0_freeFrom, Cond.instanceMethod yX0_freeFrom, Cond.selects RX0 yX0_freeFrom yX0_freeFrom, Cond.code yX0_freeFrom cX0_freeFrom 4 (some .int), Cond.methodLink RX0 66 yX0_cell, Cond.static yX0_cell, Cond.code yX0_cell cX0_cell 2 (some .int), Cond.methodLink RX0 114 yX0_timeOf, Cond.instanceMethod yX0_timeOf, Cond.selects RX0 yX0_timeOf yX0_timeOf, Cond.code yX0_timeOf cX0_timeOf 3 (some .int)]
def wsL_head_r3 : List Cond := [Cond.fieldLink RX0 16 "Flowforge" "times" "[I", Cond.methodLink RX0 160 yX0_lastEnd, Cond.instanceMethod yX0_lastEnd, Cond.selects RX0 yX0_lastEnd yX0_lastEnd, Cond.code yX0_lastEnd cX0_lastEnd 2 (some .int)]
def wsL_head : List Cond := .codeWith yL_head cL_head 5 (some .int) [(0, 10, 13, 25)] :: ((wsL_head_r1 ++ (wsL_head_r2 ++ wsL_head_r3)) ++ wsX00 ++ (vx_atS RX0 135 "java/lang/IndexOutOfBoundsException" ["java/lang/RuntimeException", "java/lang/Exception"]).filter goodWord)
def wsL_tail_r1 : List Cond := [Cond.classLink RL 25 "java/lang/IndexOutOfBoundsException", Cond.methodLink RL 52 yX0_tail, Cond.instanceMethod yX0_tail, Cond.selects RX0 yX0_tail yX0_tail, Cond.initialized RX0, Cond.code yX0_tail cX0_tail 3 (some .int), Cond.fieldLink RX0 26 "Flowforge" "tails" "[I", Cond.methodLink RX0 79 yX0_requirePlace, Cond.instanceMethod yX0_requirePlace, Cond.selects RX0 yX0_requirePlace yX0_requirePlace, Cond.code yX0_requirePlace cX0_requirePlace 2 none, Cond.classLink RX0 131 "java/lang/IndexOutOfBoundsException", Cond.initialized "java/lang/IndexOutOfBoundsException", Cond.fieldLink RX0 7 "Flowforge" "jobCount" "I", Cond.methodLink RX0 74 yX0_requireMachine, Cond.instanceMethod yX0_requireMachine, Cond.selects RX0 yX0_requireMachine yX0_requireMachine, Cond.code yX0_requireMachine cX0_requireMachine 2 none, Cond.fieldLink RX0 13 "Flowforge" "machineCount" "I", Cond.methodLink RX0 111 yX0_fillTails, Cond.instanceMethod yX0_fillTails, Cond.selects RX0 yX0_fillTails yX0_fillTails, Cond.code yX0_fillTails cX0_fillTails 4 none, Cond.methodLink RX0 167 Lib.Math.max.name]
def wsL_tail_r2 : List Cond := [Cond.static Lib.Math.max.name, Cond.initialized "java/lang/Math", Cond.code Lib.Math.max.name Lib.Math.max.code 2 (some .int), Cond.fieldLink RX0 29 "Flowforge" "order" "[I", Cond.methodLink RX0 66 yX0_cell, Cond.static yX0_cell, Cond.code yX0_cell cX0_cell 2 (some .int), Cond.methodLink RX0 114 yX0_timeOf, Cond.instanceMethod yX0_timeOf, Cond.selects RX0 yX0_timeOf yX0_timeOf, Cond.code yX0_timeOf cX0_timeOf 3 (some .int), Cond.fieldLink RX0 16 "Flowforge" "times" "[I"]
def wsL_tail : List Cond := .codeWith yL_tail cL_tail 5 (some .int) [(0, 10, 13, 25)] :: ((wsL_tail_r1 ++ wsL_tail_r2) ++ wsX00 ++ (vx_atS RX0 135 "java/lang/IndexOutOfBoundsException" ["java/lang/RuntimeException", "java/lang/Exception"]).filter goodWord)
def wsL_isCritical_r1 : List Cond := [Cond.classLink RL 25 "java/lang/IndexOutOfBoundsException", Cond.methodLink RL 55 yX0_isCritical, Cond.instanceMethod yX0_isCritical, Cond.selects RX0 yX0_isCritical yX0_isCritical, Cond.initialized RX0, Cond.code yX0_isCritical cX0_isCritical 5 (some .boolean), Cond.fieldLink RX0 23 "Flowforge" "ends" "[I", Cond.fieldLink RX0 26 "Flowforge" "tails" "[I", Cond.fieldLink RX0 29 "Flowforge" "order" "[I", Cond.methodLink RX0 79 yX0_requirePlace, Cond.instanceMethod yX0_requirePlace, Cond.selects RX0 yX0_requirePlace yX0_requirePlace, Cond.code yX0_requirePlace cX0_requirePlace 2 none, Cond.classLink RX0 131 "java/lang/IndexOutOfBoundsException", Cond.initialized "java/lang/IndexOutOfBoundsException", Cond.fieldLink RX0 7 "Flowforge" "jobCount" "I", Cond.methodLink RX0 74 yX0_requireMachine, Cond.instanceMethod yX0_requireMachine, Cond.selects RX0 yX0_requireMachine yX0_requireMachine, Cond.code yX0_requireMachine cX0_requireMachine 2 none, Cond.fieldLink RX0 13 "Flowforge" "machineCount" "I", Cond.methodLink RX0 99 yX0_scheduleOrder, Cond.instanceMethod yX0_scheduleOrder, Cond.selects RX0 yX0_scheduleOrder yX0_scheduleOrder]
def wsL_isCritical_r2 : List Cond := [Cond.code yX0_scheduleOrder cX0_scheduleOrder 3 (some .int), Cond.methodLink RX0 156 yX0_scheduleJob, Cond.instanceMethod yX0_scheduleJob, Cond.selects RX0 yX0_scheduleJob yX0_scheduleJob, Cond.code yX0_scheduleJob cX0_scheduleJob 7 none, Cond.methodLink RX0 167 Lib.Math.max.name, Cond.static Lib.Math.max.name, Cond.initialized "java/lang/Math", Cond.code Lib.Math.max.name Lib.Math.max.code 2 (some .int), Cond.fieldLink RX0 20 "Flowforge" "begins" "[I", Cond.methodLink RX0 170 yX0_beginWithoutWaiting, Cond.instanceMethod yX0_beginWithoutWaiting, Cond.selects RX0 yX0_beginWithoutWaiting yX0_beginWithoutWaiting, Cond.code yX0_beginWithoutWaiting cX0_beginWithoutWaiting 6 (some .int), Cond.methodLink RX0 173 yX0_freeFrom, Cond.instanceMethod yX0_freeFrom, Cond.selects RX0 yX0_freeFrom yX0_freeFrom, Cond.code yX0_freeFrom cX0_freeFrom 4 (some .int), Cond.methodLink RX0 66 yX0_cell, Cond.static yX0_cell, Cond.code yX0_cell cX0_cell 2 (some .int), Cond.methodLink RX0 114 yX0_timeOf, Cond.instanceMethod yX0_timeOf, Cond.selects RX0 yX0_timeOf yX0_timeOf]
def wsL_isCritical_r3 : List Cond := [Cond.code yX0_timeOf cX0_timeOf 3 (some .int), Cond.fieldLink RX0 16 "Flowforge" "times" "[I", Cond.methodLink RX0 160 yX0_lastEnd, Cond.instanceMethod yX0_lastEnd, Cond.selects RX0 yX0_lastEnd yX0_lastEnd, Cond.code yX0_lastEnd cX0_lastEnd 2 (some .int), Cond.methodLink RX0 111 yX0_fillTails, Cond.instanceMethod yX0_fillTails, Cond.selects RX0 yX0_fillTails yX0_fillTails, Cond.code yX0_fillTails cX0_fillTails 4 none]
def wsL_isCritical : List Cond := .codeWith yL_isCritical cL_isCritical 5 (some .int) [(0, 17, 20, 25)] :: ((wsL_isCritical_r1 ++ (wsL_isCritical_r2 ++ wsL_isCritical_r3)) ++ wsX00 ++ (vx_atS RX0 135 "java/lang/IndexOutOfBoundsException" ["java/lang/RuntimeException", "java/lang/Exception"]).filter goodWord)
def wsL_idle_r1 : List Cond := [Cond.classLink RL 19 "java/lang/IllegalArgumentException", Cond.classLink RL 25 "java/lang/IndexOutOfBoundsException", Cond.methodLink RL 59 yX0_idle, Cond.instanceMethod yX0_idle, Cond.selects RX0 yX0_idle yX0_idle, Cond.initialized RX0, Cond.code yX0_idle cX0_idle 3 (some .int), Cond.fieldLink RX0 7 "Flowforge" "jobCount" "I", Cond.fieldLink RX0 23 "Flowforge" "ends" "[I", Cond.fieldLink RX0 20 "Flowforge" "begins" "[I", Cond.methodLink RX0 108 yX0_requireVariant, Cond.static yX0_requireVariant, Cond.code yX0_requireVariant cX0_requireVariant 1 none, Cond.classLink RX0 61 "java/lang/IllegalArgumentException", Cond.initialized "java/lang/IllegalArgumentException", Cond.methodLink RX0 74 yX0_requireMachine, Cond.instanceMethod yX0_requireMachine, Cond.selects RX0 yX0_requireMachine yX0_requireMachine, Cond.code yX0_requireMachine cX0_requireMachine 2 none, Cond.classLink RX0 131 "java/lang/IndexOutOfBoundsException", Cond.initialized "java/lang/IndexOutOfBoundsException", Cond.fieldLink RX0 13 "Flowforge" "machineCount" "I", Cond.methodLink RX0 99 yX0_scheduleOrder, Cond.instanceMethod yX0_scheduleOrder]
def wsL_idle_r2 : List Cond := [Cond.selects RX0 yX0_scheduleOrder yX0_scheduleOrder, Cond.code yX0_scheduleOrder cX0_scheduleOrder 3 (some .int), Cond.fieldLink RX0 29 "Flowforge" "order" "[I", Cond.methodLink RX0 156 yX0_scheduleJob, Cond.instanceMethod yX0_scheduleJob, Cond.selects RX0 yX0_scheduleJob yX0_scheduleJob, Cond.code yX0_scheduleJob cX0_scheduleJob 7 none, Cond.methodLink RX0 167 Lib.Math.max.name, Cond.static Lib.Math.max.name, Cond.initialized "java/lang/Math", Cond.code Lib.Math.max.name Lib.Math.max.code 2 (some .int), Cond.methodLink RX0 170 yX0_beginWithoutWaiting, Cond.instanceMethod yX0_beginWithoutWaiting, Cond.selects RX0 yX0_beginWithoutWaiting yX0_beginWithoutWaiting, Cond.code yX0_beginWithoutWaiting cX0_beginWithoutWaiting 6 (some .int), Cond.methodLink RX0 173 yX0_freeFrom, Cond.instanceMethod yX0_freeFrom, Cond.selects RX0 yX0_freeFrom yX0_freeFrom, Cond.code yX0_freeFrom cX0_freeFrom 4 (some .int), Cond.methodLink RX0 66 yX0_cell, Cond.static yX0_cell, Cond.code yX0_cell cX0_cell 2 (some .int), Cond.methodLink RX0 114 yX0_timeOf, Cond.instanceMethod yX0_timeOf]
def wsL_idle_r3 : List Cond := [Cond.selects RX0 yX0_timeOf yX0_timeOf, Cond.code yX0_timeOf cX0_timeOf 3 (some .int), Cond.fieldLink RX0 16 "Flowforge" "times" "[I", Cond.methodLink RX0 160 yX0_lastEnd, Cond.instanceMethod yX0_lastEnd, Cond.selects RX0 yX0_lastEnd yX0_lastEnd, Cond.code yX0_lastEnd cX0_lastEnd 2 (some .int), Cond.methodLink RX0 117 yX0_loadOf, Cond.instanceMethod yX0_loadOf, Cond.selects RX0 yX0_loadOf yX0_loadOf, Cond.code yX0_loadOf cX0_loadOf 4 (some .int)]
def wsL_idle : List Cond := .codeWith yL_idle cL_idle 5 (some .int) [(0, 10, 13, 19), (0, 10, 17, 25)] :: ((wsL_idle_r1 ++ (wsL_idle_r2 ++ wsL_idle_r3)) ++ wsX00 ++ (vx_atS RX0 65 "java/lang/IllegalArgumentException" ["java/lang/RuntimeException", "java/lang/Exception"]).filter goodWord ++ (vx_atS RX0 135 "java/lang/IndexOutOfBoundsException" ["java/lang/RuntimeException", "java/lang/Exception"]).filter goodWord)
def wsL_machineBound_r1 : List Cond := [Cond.classLink RL 25 "java/lang/IndexOutOfBoundsException", Cond.methodLink RL 62 yX0_machineBound, Cond.instanceMethod yX0_machineBound, Cond.selects RX0 yX0_machineBound yX0_machineBound, Cond.initialized RX0, Cond.code yX0_machineBound cX0_machineBound 2 (some .int), Cond.fieldLink RX0 13 "Flowforge" "machineCount" "I", Cond.methodLink RX0 74 yX0_requireMachine, Cond.instanceMethod yX0_requireMachine, Cond.selects RX0 yX0_requireMachine yX0_requireMachine, Cond.code yX0_requireMachine cX0_requireMachine 2 none, Cond.classLink RX0 131 "java/lang/IndexOutOfBoundsException", Cond.initialized "java/lang/IndexOutOfBoundsException", Cond.methodLink RX0 117 yX0_loadOf, Cond.instanceMethod yX0_loadOf, Cond.selects RX0 yX0_loadOf yX0_loadOf, Cond.code yX0_loadOf cX0_loadOf 4 (some .int), Cond.fieldLink RX0 7 "Flowforge" "jobCount" "I", Cond.methodLink RX0 114 yX0_timeOf, Cond.instanceMethod yX0_timeOf, Cond.selects RX0 yX0_timeOf yX0_timeOf, Cond.code yX0_timeOf cX0_timeOf 3 (some .int), Cond.fieldLink RX0 16 "Flowforge" "times" "[I", Cond.methodLink RX0 66 yX0_cell]
def wsL_machineBound_r2 : List Cond := [Cond.static yX0_cell, Cond.code yX0_cell cX0_cell 2 (some .int), Cond.methodLink RX0 120 yX0_leastSum, Cond.instanceMethod yX0_leastSum, Cond.selects RX0 yX0_leastSum yX0_leastSum, Cond.code yX0_leastSum cX0_leastSum 5 (some .int), Cond.methodLink RX0 145 Lib.Math.min.name, Cond.static Lib.Math.min.name, Cond.initialized "java/lang/Math", Cond.code Lib.Math.min.name Lib.Math.min.code 2 (some .int), Cond.methodLink RX0 142 yX0_sumOf, Cond.instanceMethod yX0_sumOf, Cond.selects RX0 yX0_sumOf yX0_sumOf, Cond.code yX0_sumOf cX0_sumOf 6 (some .int)]
def wsL_machineBound : List Cond := .codeWith yL_machineBound cL_machineBound 4 (some .int) [(0, 9, 12, 25)] :: ((wsL_machineBound_r1 ++ wsL_machineBound_r2) ++ wsX00 ++ (vx_atS RX0 135 "java/lang/IndexOutOfBoundsException" ["java/lang/RuntimeException", "java/lang/Exception"]).filter goodWord)
def wsL_pairBound_r1 : List Cond := [Cond.classLink RL 25 "java/lang/IndexOutOfBoundsException", Cond.classLink RL 19 "java/lang/IllegalArgumentException", Cond.methodLink RL 65 yX0_pairBound, Cond.instanceMethod yX0_pairBound, Cond.selects RX0 yX0_pairBound yX0_pairBound, Cond.initialized RX0, Cond.code yX0_pairBound cX0_pairBound 3 (some .int), Cond.classLink RX0 61 "java/lang/IllegalArgumentException", Cond.initialized "java/lang/IllegalArgumentException", Cond.fieldLink RX0 13 "Flowforge" "machineCount" "I", Cond.methodLink RX0 74 yX0_requireMachine, Cond.instanceMethod yX0_requireMachine, Cond.selects RX0 yX0_requireMachine yX0_requireMachine, Cond.code yX0_requireMachine cX0_requireMachine 2 none, Cond.classLink RX0 131 "java/lang/IndexOutOfBoundsException", Cond.initialized "java/lang/IndexOutOfBoundsException", Cond.methodLink RX0 125 yX0_leastOfPair, Cond.instanceMethod yX0_leastOfPair, Cond.selects RX0 yX0_leastOfPair yX0_leastOfPair, Cond.code yX0_leastOfPair cX0_leastOfPair 6 (some .int), Cond.fieldLink RX0 32 "Flowforge" "trial" "[I", Cond.fieldLink RX0 7 "Flowforge" "jobCount" "I", Cond.methodLink RX0 167 Lib.Math.max.name, Cond.static Lib.Math.max.name]
def wsL_pairBound_r2 : List Cond := [Cond.initialized "java/lang/Math", Cond.code Lib.Math.max.name Lib.Math.max.code 2 (some .int), Cond.methodLink RX0 96 yX0_fillByRule, Cond.instanceMethod yX0_fillByRule, Cond.selects RX0 yX0_fillByRule yX0_fillByRule, Cond.code yX0_fillByRule cX0_fillByRule 6 none, Cond.methodLink RX0 163 yX0_goesBefore, Cond.instanceMethod yX0_goesBefore, Cond.selects RX0 yX0_goesBefore yX0_goesBefore, Cond.code yX0_goesBefore cX0_goesBefore 7 (some .boolean), Cond.methodLink RX0 114 yX0_timeOf, Cond.instanceMethod yX0_timeOf, Cond.selects RX0 yX0_timeOf yX0_timeOf, Cond.code yX0_timeOf cX0_timeOf 3 (some .int), Cond.fieldLink RX0 16 "Flowforge" "times" "[I", Cond.methodLink RX0 66 yX0_cell, Cond.static yX0_cell, Cond.code yX0_cell cX0_cell 2 (some .int), Cond.methodLink RX0 120 yX0_leastSum, Cond.instanceMethod yX0_leastSum, Cond.selects RX0 yX0_leastSum yX0_leastSum, Cond.code yX0_leastSum cX0_leastSum 5 (some .int), Cond.methodLink RX0 145 Lib.Math.min.name, Cond.static Lib.Math.min.name]
def wsL_pairBound_r3 : List Cond := [Cond.code Lib.Math.min.name Lib.Math.min.code 2 (some .int), Cond.methodLink RX0 142 yX0_sumOf, Cond.instanceMethod yX0_sumOf, Cond.selects RX0 yX0_sumOf yX0_sumOf, Cond.code yX0_sumOf cX0_sumOf 6 (some .int)]
def wsL_pairBound : List Cond := .codeWith yL_pairBound cL_pairBound 5 (some .int) [(0, 10, 13, 25), (0, 10, 17, 19)] :: ((wsL_pairBound_r1 ++ (wsL_pairBound_r2 ++ wsL_pairBound_r3)) ++ wsX00 ++ (vx_atS RX0 65 "java/lang/IllegalArgumentException" ["java/lang/RuntimeException", "java/lang/Exception"]).filter goodWord ++ (vx_atS RX0 135 "java/lang/IndexOutOfBoundsException" ["java/lang/RuntimeException", "java/lang/Exception"]).filter goodWord)
def wsL_best_r1 : List Cond := [Cond.classLink RL 19 "java/lang/IllegalArgumentException", Cond.methodLink RL 68 yX0_best, Cond.instanceMethod yX0_best, Cond.selects RX0 yX0_best yX0_best, Cond.initialized RX0, Cond.code yX0_best cX0_best 2 (some .int), Cond.fieldLink RX0 42 "Flowforge" "leastMakespans" "[I", Cond.methodLink RX0 108 yX0_requireVariant, Cond.static yX0_requireVariant, Cond.code yX0_requireVariant cX0_requireVariant 1 none, Cond.classLink RX0 61 "java/lang/IllegalArgumentException", Cond.initialized "java/lang/IllegalArgumentException", Cond.methodLink RX0 128 yX0_findBestOrder, Cond.instanceMethod yX0_findBestOrder, Cond.selects RX0 yX0_findBestOrder yX0_findBestOrder, Cond.code yX0_findBestOrder cX0_findBestOrder 5 none, Cond.fieldLink RX0 38 "Flowforge" "solved" "[Z", Cond.fieldLink RX0 45 "Flowforge" "leastCounts" "[I", Cond.fieldLink RX0 7 "Flowforge" "jobCount" "I", Cond.fieldLink RX0 32 "Flowforge" "trial" "[I", Cond.methodLink RX0 156 yX0_scheduleJob, Cond.instanceMethod yX0_scheduleJob, Cond.selects RX0 yX0_scheduleJob yX0_scheduleJob, Cond.code yX0_scheduleJob cX0_scheduleJob 7 none]
def wsL_best_r2 : List Cond := [Cond.fieldLink RX0 13 "Flowforge" "machineCount" "I", Cond.methodLink RX0 167 Lib.Math.max.name, Cond.static Lib.Math.max.name, Cond.initialized "java/lang/Math", Cond.code Lib.Math.max.name Lib.Math.max.code 2 (some .int), Cond.fieldLink RX0 20 "Flowforge" "begins" "[I", Cond.fieldLink RX0 23 "Flowforge" "ends" "[I", Cond.methodLink RX0 170 yX0_beginWithoutWaiting, Cond.instanceMethod yX0_beginWithoutWaiting, Cond.selects RX0 yX0_beginWithoutWaiting yX0_beginWithoutWaiting, Cond.code yX0_beginWithoutWaiting cX0_beginWithoutWaiting 6 (some .int), Cond.methodLink RX0 173 yX0_freeFrom, Cond.instanceMethod yX0_freeFrom, Cond.selects RX0 yX0_freeFrom yX0_freeFrom, Cond.code yX0_freeFrom cX0_freeFrom 4 (some .int), Cond.methodLink RX0 66 yX0_cell, Cond.static yX0_cell, Cond.code yX0_cell cX0_cell 2 (some .int), Cond.methodLink RX0 114 yX0_timeOf, Cond.instanceMethod yX0_timeOf, Cond.selects RX0 yX0_timeOf yX0_timeOf, Cond.code yX0_timeOf cX0_timeOf 3 (some .int), Cond.fieldLink RX0 16 "Flowforge" "times" "[I", Cond.methodLink RX0 160 yX0_lastEnd]
def wsL_best_r3 : List Cond := [Cond.instanceMethod yX0_lastEnd, Cond.selects RX0 yX0_lastEnd yX0_lastEnd, Cond.code yX0_lastEnd cX0_lastEnd 2 (some .int), Cond.methodLink RX0 176 yX0_countTrial, Cond.instanceMethod yX0_countTrial, Cond.selects RX0 yX0_countTrial yX0_countTrial, Cond.code yX0_countTrial cX0_countTrial 3 none, Cond.fieldLink RX0 48 "Flowforge" "bestJobs" "[I", Cond.methodLink RX0 150 arraycopyName, Cond.native arraycopyName, Cond.static arraycopyName, Cond.initialized "java/lang/System", Cond.methodLink RX0 180 yX0_stepTrial, Cond.instanceMethod yX0_stepTrial, Cond.selects RX0 yX0_stepTrial yX0_stepTrial, Cond.code yX0_stepTrial cX0_stepTrial 5 (some .int), Cond.methodLink RX0 184 yX0_swapInTrial, Cond.instanceMethod yX0_swapInTrial, Cond.selects RX0 yX0_swapInTrial yX0_swapInTrial, Cond.code yX0_swapInTrial cX0_swapInTrial 4 none]
def wsL_best : List Cond := .codeWith yL_best cL_best 4 (some .int) [(0, 9, 12, 19)] :: ((wsL_best_r1 ++ (wsL_best_r2 ++ wsL_best_r3)) ++ wsX00 ++ (vx_atS RX0 65 "java/lang/IllegalArgumentException" ["java/lang/RuntimeException", "java/lang/Exception"]).filter goodWord)
def wsL_bestAt_r1 : List Cond := [Cond.classLink RL 19 "java/lang/IllegalArgumentException", Cond.classLink RL 25 "java/lang/IndexOutOfBoundsException", Cond.methodLink RL 71 yX0_bestAt, Cond.instanceMethod yX0_bestAt, Cond.selects RX0 yX0_bestAt yX0_bestAt, Cond.initialized RX0, Cond.code yX0_bestAt cX0_bestAt 3 (some .int), Cond.fieldLink RX0 48 "Flowforge" "bestJobs" "[I", Cond.methodLink RX0 108 yX0_requireVariant, Cond.static yX0_requireVariant, Cond.code yX0_requireVariant cX0_requireVariant 1 none, Cond.classLink RX0 61 "java/lang/IllegalArgumentException", Cond.initialized "java/lang/IllegalArgumentException", Cond.methodLink RX0 79 yX0_requirePlace, Cond.instanceMethod yX0_requirePlace, Cond.selects RX0 yX0_requirePlace yX0_requirePlace, Cond.code yX0_requirePlace cX0_requirePlace 2 none, Cond.classLink RX0 131 "java/lang/IndexOutOfBoundsException", Cond.initialized "java/lang/IndexOutOfBoundsException", Cond.fieldLink RX0 7 "Flowforge" "jobCount" "I", Cond.methodLink RX0 128 yX0_findBestOrder, Cond.instanceMethod yX0_findBestOrder, Cond.selects RX0 yX0_findBestOrder yX0_findBestOrder, Cond.code yX0_findBestOrder cX0_findBestOrder 5 none]
def wsL_bestAt_r2 : List Cond := [Cond.fieldLink RX0 38 "Flowforge" "solved" "[Z", Cond.fieldLink RX0 45 "Flowforge" "leastCounts" "[I", Cond.fieldLink RX0 32 "Flowforge" "trial" "[I", Cond.methodLink RX0 156 yX0_scheduleJob, Cond.instanceMethod yX0_scheduleJob, Cond.selects RX0 yX0_scheduleJob yX0_scheduleJob, Cond.code yX0_scheduleJob cX0_scheduleJob 7 none, Cond.fieldLink RX0 13 "Flowforge" "machineCount" "I", Cond.methodLink RX0 167 Lib.Math.max.name, Cond.static Lib.Math.max.name, Cond.initialized "java/lang/Math", Cond.code Lib.Math.max.name Lib.Math.max.code 2 (some .int), Cond.fieldLink RX0 20 "Flowforge" "begins" "[I", Cond.fieldLink RX0 23 "Flowforge" "ends" "[I", Cond.methodLink RX0 170 yX0_beginWithoutWaiting, Cond.instanceMethod yX0_beginWithoutWaiting, Cond.selects RX0 yX0_beginWithoutWaiting yX0_beginWithoutWaiting, Cond.code yX0_beginWithoutWaiting cX0_beginWithoutWaiting 6 (some .int), Cond.methodLink RX0 173 yX0_freeFrom, Cond.instanceMethod yX0_freeFrom, Cond.selects RX0 yX0_freeFrom yX0_freeFrom, Cond.code yX0_freeFrom cX0_freeFrom 4 (some .int), Cond.methodLink RX0 66 yX0_cell, Cond.static yX0_cell]
def wsL_bestAt_r3 : List Cond := [Cond.code yX0_cell cX0_cell 2 (some .int), Cond.methodLink RX0 114 yX0_timeOf, Cond.instanceMethod yX0_timeOf, Cond.selects RX0 yX0_timeOf yX0_timeOf, Cond.code yX0_timeOf cX0_timeOf 3 (some .int), Cond.fieldLink RX0 16 "Flowforge" "times" "[I", Cond.methodLink RX0 160 yX0_lastEnd, Cond.instanceMethod yX0_lastEnd, Cond.selects RX0 yX0_lastEnd yX0_lastEnd, Cond.code yX0_lastEnd cX0_lastEnd 2 (some .int), Cond.methodLink RX0 176 yX0_countTrial, Cond.instanceMethod yX0_countTrial, Cond.selects RX0 yX0_countTrial yX0_countTrial, Cond.code yX0_countTrial cX0_countTrial 3 none, Cond.fieldLink RX0 42 "Flowforge" "leastMakespans" "[I", Cond.methodLink RX0 150 arraycopyName, Cond.native arraycopyName, Cond.static arraycopyName, Cond.initialized "java/lang/System", Cond.methodLink RX0 180 yX0_stepTrial, Cond.instanceMethod yX0_stepTrial, Cond.selects RX0 yX0_stepTrial yX0_stepTrial, Cond.code yX0_stepTrial cX0_stepTrial 5 (some .int), Cond.methodLink RX0 184 yX0_swapInTrial]
def wsL_bestAt_r4 : List Cond := [Cond.instanceMethod yX0_swapInTrial, Cond.selects RX0 yX0_swapInTrial yX0_swapInTrial, Cond.code yX0_swapInTrial cX0_swapInTrial 4 none]
def wsL_bestAt : List Cond := .codeWith yL_bestAt cL_bestAt 5 (some .int) [(0, 10, 13, 19), (0, 10, 17, 25)] :: ((wsL_bestAt_r1 ++ (wsL_bestAt_r2 ++ (wsL_bestAt_r3 ++ wsL_bestAt_r4))) ++ wsX00 ++ (vx_atS RX0 65 "java/lang/IllegalArgumentException" ["java/lang/RuntimeException", "java/lang/Exception"]).filter goodWord ++ (vx_atS RX0 135 "java/lang/IndexOutOfBoundsException" ["java/lang/RuntimeException", "java/lang/Exception"]).filter goodWord)
def wsL_bestOrders_r1 : List Cond := [Cond.classLink RL 19 "java/lang/IllegalArgumentException", Cond.methodLink RL 74 yX0_bestOrders, Cond.instanceMethod yX0_bestOrders, Cond.selects RX0 yX0_bestOrders yX0_bestOrders, Cond.initialized RX0, Cond.code yX0_bestOrders cX0_bestOrders 2 (some .int), Cond.fieldLink RX0 45 "Flowforge" "leastCounts" "[I", Cond.methodLink RX0 108 yX0_requireVariant, Cond.static yX0_requireVariant, Cond.code yX0_requireVariant cX0_requireVariant 1 none, Cond.classLink RX0 61 "java/lang/IllegalArgumentException", Cond.initialized "java/lang/IllegalArgumentException", Cond.methodLink RX0 128 yX0_findBestOrder, Cond.instanceMethod yX0_findBestOrder, Cond.selects RX0 yX0_findBestOrder yX0_findBestOrder, Cond.code yX0_findBestOrder cX0_findBestOrder 5 none, Cond.fieldLink RX0 38 "Flowforge" "solved" "[Z", Cond.fieldLink RX0 7 "Flowforge" "jobCount" "I", Cond.fieldLink RX0 32 "Flowforge" "trial" "[I", Cond.methodLink RX0 156 yX0_scheduleJob, Cond.instanceMethod yX0_scheduleJob, Cond.selects RX0 yX0_scheduleJob yX0_scheduleJob, Cond.code yX0_scheduleJob cX0_scheduleJob 7 none, Cond.fieldLink RX0 13 "Flowforge" "machineCount" "I"]
def wsL_bestOrders_r2 : List Cond := [Cond.methodLink RX0 167 Lib.Math.max.name, Cond.static Lib.Math.max.name, Cond.initialized "java/lang/Math", Cond.code Lib.Math.max.name Lib.Math.max.code 2 (some .int), Cond.fieldLink RX0 20 "Flowforge" "begins" "[I", Cond.fieldLink RX0 23 "Flowforge" "ends" "[I", Cond.methodLink RX0 170 yX0_beginWithoutWaiting, Cond.instanceMethod yX0_beginWithoutWaiting, Cond.selects RX0 yX0_beginWithoutWaiting yX0_beginWithoutWaiting, Cond.code yX0_beginWithoutWaiting cX0_beginWithoutWaiting 6 (some .int), Cond.methodLink RX0 173 yX0_freeFrom, Cond.instanceMethod yX0_freeFrom, Cond.selects RX0 yX0_freeFrom yX0_freeFrom, Cond.code yX0_freeFrom cX0_freeFrom 4 (some .int), Cond.methodLink RX0 66 yX0_cell, Cond.static yX0_cell, Cond.code yX0_cell cX0_cell 2 (some .int), Cond.methodLink RX0 114 yX0_timeOf, Cond.instanceMethod yX0_timeOf, Cond.selects RX0 yX0_timeOf yX0_timeOf, Cond.code yX0_timeOf cX0_timeOf 3 (some .int), Cond.fieldLink RX0 16 "Flowforge" "times" "[I", Cond.methodLink RX0 160 yX0_lastEnd, Cond.instanceMethod yX0_lastEnd]
def wsL_bestOrders_r3 : List Cond := [Cond.selects RX0 yX0_lastEnd yX0_lastEnd, Cond.code yX0_lastEnd cX0_lastEnd 2 (some .int), Cond.methodLink RX0 176 yX0_countTrial, Cond.instanceMethod yX0_countTrial, Cond.selects RX0 yX0_countTrial yX0_countTrial, Cond.code yX0_countTrial cX0_countTrial 3 none, Cond.fieldLink RX0 42 "Flowforge" "leastMakespans" "[I", Cond.fieldLink RX0 48 "Flowforge" "bestJobs" "[I", Cond.methodLink RX0 150 arraycopyName, Cond.native arraycopyName, Cond.static arraycopyName, Cond.initialized "java/lang/System", Cond.methodLink RX0 180 yX0_stepTrial, Cond.instanceMethod yX0_stepTrial, Cond.selects RX0 yX0_stepTrial yX0_stepTrial, Cond.code yX0_stepTrial cX0_stepTrial 5 (some .int), Cond.methodLink RX0 184 yX0_swapInTrial, Cond.instanceMethod yX0_swapInTrial, Cond.selects RX0 yX0_swapInTrial yX0_swapInTrial, Cond.code yX0_swapInTrial cX0_swapInTrial 4 none]
def wsL_bestOrders : List Cond := .codeWith yL_bestOrders cL_bestOrders 4 (some .int) [(0, 9, 12, 19)] :: ((wsL_bestOrders_r1 ++ (wsL_bestOrders_r2 ++ wsL_bestOrders_r3)) ++ wsX00 ++ (vx_atS RX0 65 "java/lang/IllegalArgumentException" ["java/lang/RuntimeException", "java/lang/Exception"]).filter goodWord)
def wsL_law0_r1 : List Cond := [Cond.classLink RL 8 RX0, Cond.instantiable RX0 13, Cond.initialized RX0, Cond.classLink RL 78 RX1, Cond.instantiable RX1 10, Cond.initialized RX1, Cond.arrayClass .long, Cond.methodLink RL 77 yX0_init, Cond.instanceMethod yX0_init, Cond.code yX0_init cX0_init 1 none, Cond.methodLink RX0 1 objectInit, Cond.instanceMethod objectInit, Cond.code objectInit ⟨#[0xb1]⟩ 1 none, Cond.fieldLink RX0 7 "Flowforge" "jobCount" "I", Cond.fieldLink RX0 13 "Flowforge" "machineCount" "I", Cond.arrayClass .int, Cond.fieldLink RX0 16 "Flowforge" "times" "[I", Cond.fieldLink RX0 20 "Flowforge" "begins" "[I", Cond.fieldLink RX0 23 "Flowforge" "ends" "[I", Cond.fieldLink RX0 26 "Flowforge" "tails" "[I", Cond.fieldLink RX0 29 "Flowforge" "order" "[I", Cond.fieldLink RX0 32 "Flowforge" "trial" "[I", Cond.fieldLink RX0 35 "Flowforge" "queue" "[I", Cond.arrayClass .boolean]
def wsL_law0_r2 : List Cond := [Cond.fieldLink RX0 38 "Flowforge" "solved" "[Z", Cond.fieldLink RX0 42 "Flowforge" "leastMakespans" "[I", Cond.fieldLink RX0 45 "Flowforge" "leastCounts" "[I", Cond.fieldLink RX0 48 "Flowforge" "bestJobs" "[I", Cond.methodLink RL 80 yX1_init, Cond.instanceMethod yX1_init, Cond.code yX1_init cX1_init 1 none, Cond.methodLink RX1 1 objectInit, Cond.fieldLink RX1 7 "FlowforgeModel" "wide" "I", Cond.fieldLink RX1 13 "FlowforgeModel" "times" "[I", Cond.fieldLink RX1 17 "FlowforgeModel" "order" "[I", Cond.fieldLink RX1 20 "FlowforgeModel" "starts" "[I", Cond.fieldLink RX1 23 "FlowforgeModel" "tails" "[I", Cond.fieldLink RX1 26 "FlowforgeModel" "trial" "[I", Cond.fieldLink RX1 29 "FlowforgeModel" "firstBest" "[I", Cond.fieldLink RX1 32 "FlowforgeModel" "thrown" "I", Cond.methodLink RL 81 yL_addJob, Cond.static yL_addJob, Cond.initialized RL, Cond.codeWith yL_addJob cL_addJob 3 (some .int) [(0, 8, 11, 13)], Cond.classLink RL 13 "java/lang/IllegalStateException", Cond.methodLink RL 7 yX0_addJob, Cond.instanceMethod yX0_addJob, Cond.selects RX0 yX0_addJob yX0_addJob]
def wsL_law0_r3 : List Cond := [Cond.code yX0_addJob cX0_addJob 2 (some .int), Cond.classLink RX0 51 "java/lang/IllegalStateException", Cond.initialized "java/lang/IllegalStateException", Cond.methodLink RX0 58 yX0_forgetBestOrders, Cond.instanceMethod yX0_forgetBestOrders, Cond.selects RX0 yX0_forgetBestOrders yX0_forgetBestOrders, Cond.code yX0_forgetBestOrders cX0_forgetBestOrders 2 none, Cond.methodLink RL 86 yX1_addJob, Cond.instanceMethod yX1_addJob, Cond.selects RX1 yX1_addJob yX1_addJob, Cond.code yX1_addJob cX1_addJob 1 (some .int), Cond.fieldLink RX1 35 "FlowforgeModel" "many" "I", Cond.methodLink RL 87 yX1_thrown, Cond.instanceMethod yX1_thrown, Cond.selects RX1 yX1_thrown yX1_thrown, Cond.code yX1_thrown cX1_thrown 1 (some .int), Cond.methodLink RL 90 yL_setMachines, Cond.static yL_setMachines, Cond.codeWith yL_setMachines cL_setMachines 4 (some .int) [(0, 9, 12, 19)], Cond.classLink RL 19 "java/lang/IllegalArgumentException", Cond.methodLink RL 15 yX0_setMachines, Cond.instanceMethod yX0_setMachines, Cond.selects RX0 yX0_setMachines yX0_setMachines, Cond.code yX0_setMachines cX0_setMachines 5 (some .int)]
def wsL_law0_r4 : List Cond := [Cond.classLink RX0 61 "java/lang/IllegalArgumentException", Cond.initialized "java/lang/IllegalArgumentException", Cond.methodLink RX0 66 yX0_cell, Cond.static yX0_cell, Cond.code yX0_cell cX0_cell 2 (some .int), Cond.methodLink RL 93 yX1_setMachines, Cond.instanceMethod yX1_setMachines, Cond.selects RX1 yX1_setMachines yX1_setMachines, Cond.code yX1_setMachines cX1_setMachines 4 (some .int), Cond.methodLink RX1 38 yX1_in, Cond.static yX1_in, Cond.code yX1_in cX1_in 3 (some .boolean), Cond.methodLink RL 94 yL_setTime, Cond.static yL_setTime, Cond.codeWith yL_setTime cL_setTime 6 (some .int) [(0, 12, 15, 25), (0, 12, 19, 19)], Cond.classLink RL 25 "java/lang/IndexOutOfBoundsException", Cond.methodLink RL 21 yX0_setTime, Cond.instanceMethod yX0_setTime, Cond.selects RX0 yX0_setTime yX0_setTime, Cond.code yX0_setTime cX0_setTime 5 (some .int), Cond.methodLink RX0 70 yX0_requireJob, Cond.instanceMethod yX0_requireJob, Cond.selects RX0 yX0_requireJob yX0_requireJob, Cond.code yX0_requireJob cX0_requireJob 2 none]
def wsL_law0_r5 : List Cond := [Cond.classLink RX0 131 "java/lang/IndexOutOfBoundsException", Cond.initialized "java/lang/IndexOutOfBoundsException", Cond.methodLink RX0 74 yX0_requireMachine, Cond.instanceMethod yX0_requireMachine, Cond.selects RX0 yX0_requireMachine yX0_requireMachine, Cond.code yX0_requireMachine cX0_requireMachine 2 none, Cond.methodLink RL 97 yX1_setTime, Cond.instanceMethod yX1_setTime, Cond.selects RX1 yX1_setTime yX1_setTime, Cond.code yX1_setTime cX1_setTime 5 (some .int), Cond.methodLink RX1 42 yX1_isOf, Cond.instanceMethod yX1_isOf, Cond.selects RX1 yX1_isOf yX1_isOf, Cond.code yX1_isOf cX1_isOf 3 (some .boolean), Cond.methodLink RX1 46 yX1_timeOf, Cond.instanceMethod yX1_timeOf, Cond.selects RX1 yX1_timeOf yX1_timeOf, Cond.code yX1_timeOf cX1_timeOf 3 (some .int), Cond.methodLink RL 98 yL_time, Cond.static yL_time, Cond.codeWith yL_time cL_time 5 (some .int) [(0, 10, 13, 25)], Cond.methodLink RL 27 yX0_time, Cond.instanceMethod yX0_time, Cond.selects RX0 yX0_time yX0_time]
def wsL_law0_r6 : List Cond := [Cond.code yX0_time cX0_time 3 (some .int), Cond.methodLink RL 101 yX1_time, Cond.instanceMethod yX1_time, Cond.selects RX1 yX1_time yX1_time, Cond.code yX1_time cX1_time 3 (some .int), Cond.methodLink RX1 50 yX1_fails, Cond.instanceMethod yX1_fails, Cond.selects RX1 yX1_fails yX1_fails, Cond.code yX1_fails cX1_fails 2 (some .int), Cond.methodLink RL 102 yX0_jobs, Cond.instanceMethod yX0_jobs, Cond.selects RX0 yX0_jobs yX0_jobs, Cond.code yX0_jobs cX0_jobs 1 (some .int), Cond.methodLink RL 105 yX1_jobs, Cond.instanceMethod yX1_jobs, Cond.selects RX1 yX1_jobs yX1_jobs, Cond.code yX1_jobs cX1_jobs 1 (some .int), Cond.methodLink RL 106 yX0_machines, Cond.instanceMethod yX0_machines, Cond.selects RX0 yX0_machines yX0_machines, Cond.code yX0_machines cX0_machines 1 (some .int), Cond.methodLink RL 109 yX1_machines, Cond.instanceMethod yX1_machines, Cond.selects RX1 yX1_machines yX1_machines]
def wsL_law0_r7 : List Cond := [Cond.code yX1_machines cX1_machines 1 (some .int), Cond.methodLink RL 110 yL_jobAt, Cond.static yL_jobAt, Cond.codeWith yL_jobAt cL_jobAt 4 (some .int) [(0, 9, 12, 25)], Cond.methodLink RL 31 yX0_jobAt, Cond.instanceMethod yX0_jobAt, Cond.selects RX0 yX0_jobAt yX0_jobAt, Cond.code yX0_jobAt cX0_jobAt 2 (some .int), Cond.methodLink RX0 79 yX0_requirePlace, Cond.instanceMethod yX0_requirePlace, Cond.selects RX0 yX0_requirePlace yX0_requirePlace, Cond.code yX0_requirePlace cX0_requirePlace 2 none, Cond.methodLink RL 112 yX1_jobAt, Cond.instanceMethod yX1_jobAt, Cond.selects RX1 yX1_jobAt yX1_jobAt, Cond.code yX1_jobAt cX1_jobAt 2 (some .int), Cond.methodLink RL 113 yL_move, Cond.static yL_move, Cond.codeWith yL_move cL_move 5 (some .int) [(0, 10, 13, 25)], Cond.methodLink RL 34 yX0_move, Cond.instanceMethod yX0_move, Cond.selects RX0 yX0_move yX0_move, Cond.code yX0_move cX0_move 4 (some .int), Cond.methodLink RX0 82 yX0_placeOf]
def wsL_law0_r8 : List Cond := [Cond.instanceMethod yX0_placeOf, Cond.selects RX0 yX0_placeOf yX0_placeOf, Cond.code yX0_placeOf cX0_placeOf 3 (some .int), Cond.methodLink RX0 86 yX0_shift, Cond.static yX0_shift, Cond.code yX0_shift cX0_shift 5 none, Cond.methodLink RL 115 yX1_move, Cond.instanceMethod yX1_move, Cond.selects RX1 yX1_move yX1_move, Cond.code yX1_move cX1_move 4 (some .int), Cond.methodLink RX1 73 yX1_canMove, Cond.instanceMethod yX1_canMove, Cond.selects RX1 yX1_canMove yX1_canMove, Cond.code yX1_canMove cX1_canMove 3 (some .boolean), Cond.methodLink RX1 76 yX1_placeOf, Cond.instanceMethod yX1_placeOf, Cond.selects RX1 yX1_placeOf yX1_placeOf, Cond.code yX1_placeOf cX1_placeOf 3 (some .int), Cond.methodLink RX1 79 yX1_triesMove, Cond.instanceMethod yX1_triesMove, Cond.selects RX1 yX1_triesMove yX1_triesMove, Cond.code yX1_triesMove cX1_triesMove 4 none, Cond.methodLink RX1 83 yX1_takesTrial, Cond.instanceMethod yX1_takesTrial]
def wsL_law0_r9 : List Cond := [Cond.selects RX1 yX1_takesTrial yX1_takesTrial, Cond.code yX1_takesTrial cX1_takesTrial 2 none, Cond.methodLink RL 116 yL_makespanIfMoved, Cond.static yL_makespanIfMoved, Cond.codeWith yL_makespanIfMoved cL_makespanIfMoved 5 (some .int) [(0, 10, 13, 25)], Cond.methodLink RL 37 yX0_makespanIfMoved, Cond.instanceMethod yX0_makespanIfMoved, Cond.selects RX0 yX0_makespanIfMoved yX0_makespanIfMoved, Cond.code yX0_makespanIfMoved cX0_makespanIfMoved 3 (some .int), Cond.methodLink RX0 90 yX0_makespanIfShifted, Cond.instanceMethod yX0_makespanIfShifted, Cond.selects RX0 yX0_makespanIfShifted yX0_makespanIfShifted, Cond.code yX0_makespanIfShifted cX0_makespanIfShifted 5 (some .int), Cond.methodLink RX0 150 arraycopyName, Cond.native arraycopyName, Cond.static arraycopyName, Cond.initialized "java/lang/System", Cond.methodLink RX0 156 yX0_scheduleJob, Cond.instanceMethod yX0_scheduleJob, Cond.selects RX0 yX0_scheduleJob yX0_scheduleJob, Cond.code yX0_scheduleJob cX0_scheduleJob 7 none, Cond.methodLink RX0 167 Lib.Math.max.name, Cond.static Lib.Math.max.name, Cond.initialized "java/lang/Math"]
def wsL_law0_r10 : List Cond := [Cond.code Lib.Math.max.name Lib.Math.max.code 2 (some .int), Cond.methodLink RX0 170 yX0_beginWithoutWaiting, Cond.instanceMethod yX0_beginWithoutWaiting, Cond.selects RX0 yX0_beginWithoutWaiting yX0_beginWithoutWaiting, Cond.code yX0_beginWithoutWaiting cX0_beginWithoutWaiting 6 (some .int), Cond.methodLink RX0 173 yX0_freeFrom, Cond.instanceMethod yX0_freeFrom, Cond.selects RX0 yX0_freeFrom yX0_freeFrom, Cond.code yX0_freeFrom cX0_freeFrom 4 (some .int), Cond.methodLink RX0 114 yX0_timeOf, Cond.instanceMethod yX0_timeOf, Cond.selects RX0 yX0_timeOf yX0_timeOf, Cond.code yX0_timeOf cX0_timeOf 3 (some .int), Cond.methodLink RX0 160 yX0_lastEnd, Cond.instanceMethod yX0_lastEnd, Cond.selects RX0 yX0_lastEnd yX0_lastEnd, Cond.code yX0_lastEnd cX0_lastEnd 2 (some .int), Cond.methodLink RL 118 yX1_makespanIfMoved, Cond.instanceMethod yX1_makespanIfMoved, Cond.selects RX1 yX1_makespanIfMoved yX1_makespanIfMoved, Cond.code yX1_makespanIfMoved cX1_makespanIfMoved 3 (some .int), Cond.methodLink RX1 69 yX1_lays, Cond.instanceMethod yX1_lays, Cond.selects RX1 yX1_lays yX1_lays]
def wsL_law0_r11 : List Cond := [Cond.code yX1_lays cX1_lays 8 (some .int), Cond.methodLink RX1 61 yX1_freeAt, Cond.instanceMethod yX1_freeAt, Cond.selects RX1 yX1_freeAt yX1_freeAt, Cond.code yX1_freeAt cX1_freeAt 5 (some .int), Cond.methodLink RX1 54 yX1_startOf, Cond.instanceMethod yX1_startOf, Cond.selects RX1 yX1_startOf yX1_startOf, Cond.code yX1_startOf cX1_startOf 3 (some .int), Cond.methodLink RX1 57 yX1_endOf, Cond.instanceMethod yX1_endOf, Cond.selects RX1 yX1_endOf yX1_endOf, Cond.code yX1_endOf cX1_endOf 4 (some .int), Cond.methodLink RX1 65 yX1_pullsTogether, Cond.instanceMethod yX1_pullsTogether, Cond.selects RX1 yX1_pullsTogether yX1_pullsTogether, Cond.code yX1_pullsTogether cX1_pullsTogether 4 none, Cond.methodLink RL 119 yL_orderByRule, Cond.static yL_orderByRule, Cond.codeWith yL_orderByRule cL_orderByRule 3 (some .int) [(0, 8, 11, 13)], Cond.methodLink RL 40 yX0_orderByRule, Cond.instanceMethod yX0_orderByRule, Cond.selects RX0 yX0_orderByRule yX0_orderByRule, Cond.code yX0_orderByRule cX0_orderByRule 1 (some .int)]
def wsL_law0_r12 : List Cond := [Cond.methodLink RX0 96 yX0_fillByRule, Cond.instanceMethod yX0_fillByRule, Cond.selects RX0 yX0_fillByRule yX0_fillByRule, Cond.code yX0_fillByRule cX0_fillByRule 6 none, Cond.methodLink RX0 163 yX0_goesBefore, Cond.instanceMethod yX0_goesBefore, Cond.selects RX0 yX0_goesBefore yX0_goesBefore, Cond.code yX0_goesBefore cX0_goesBefore 7 (some .boolean), Cond.methodLink RX0 99 yX0_scheduleOrder, Cond.instanceMethod yX0_scheduleOrder, Cond.selects RX0 yX0_scheduleOrder yX0_scheduleOrder, Cond.code yX0_scheduleOrder cX0_scheduleOrder 3 (some .int), Cond.methodLink RL 121 yX1_orderByRule, Cond.instanceMethod yX1_orderByRule, Cond.selects RX1 yX1_orderByRule yX1_orderByRule, Cond.code yX1_orderByRule cX1_orderByRule 4 (some .int), Cond.methodLink RX1 86 yX1_isAhead, Cond.instanceMethod yX1_isAhead, Cond.selects RX1 yX1_isAhead yX1_isAhead, Cond.code yX1_isAhead cX1_isAhead 8 (some .boolean), Cond.methodLink RX1 89 yX1_plain, Cond.instanceMethod yX1_plain, Cond.selects RX1 yX1_plain yX1_plain, Cond.code yX1_plain cX1_plain 1 (some .int)]
def wsL_law0_r13 : List Cond := [Cond.methodLink RL 122 yX0_orderByInsertion, Cond.instanceMethod yX0_orderByInsertion, Cond.selects RX0 yX0_orderByInsertion yX0_orderByInsertion, Cond.code yX0_orderByInsertion cX0_orderByInsertion 2 (some .int), Cond.methodLink RX0 102 yX0_fillQueueBySum, Cond.instanceMethod yX0_fillQueueBySum, Cond.selects RX0 yX0_fillQueueBySum yX0_fillQueueBySum, Cond.code yX0_fillQueueBySum cX0_fillQueueBySum 4 none, Cond.methodLink RX0 142 yX0_sumOf, Cond.instanceMethod yX0_sumOf, Cond.selects RX0 yX0_sumOf yX0_sumOf, Cond.code yX0_sumOf cX0_sumOf 6 (some .int), Cond.methodLink RX0 105 yX0_placeForLast, Cond.instanceMethod yX0_placeForLast, Cond.selects RX0 yX0_placeForLast yX0_placeForLast, Cond.code yX0_placeForLast cX0_placeForLast 6 (some .int), Cond.methodLink RL 125 yX1_orderByInsertion, Cond.instanceMethod yX1_orderByInsertion, Cond.selects RX1 yX1_orderByInsertion yX1_orderByInsertion, Cond.code yX1_orderByInsertion cX1_orderByInsertion 7 (some .int), Cond.constant RX1 100 (1000000), Cond.methodLink RX1 97 yX1_bySum, Cond.instanceMethod yX1_bySum, Cond.selects RX1 yX1_bySum yX1_bySum]
def wsL_law0_r14 : List Cond := [Cond.code yX1_bySum cX1_bySum 7 (some .int), Cond.methodLink RX1 93 yX1_sumOf, Cond.instanceMethod yX1_sumOf, Cond.selects RX1 yX1_sumOf yX1_sumOf, Cond.code yX1_sumOf cX1_sumOf 6 (some .int), Cond.methodLink RX1 101 yX1_puts, Cond.instanceMethod yX1_puts, Cond.selects RX1 yX1_puts yX1_puts, Cond.code yX1_puts cX1_puts 5 none, Cond.methodLink RX1 105 yX1_takesOut, Cond.instanceMethod yX1_takesOut, Cond.selects RX1 yX1_takesOut yX1_takesOut, Cond.code yX1_takesOut cX1_takesOut 4 none, Cond.methodLink RL 126 yX0_improve, Cond.instanceMethod yX0_improve, Cond.selects RX0 yX0_improve yX0_improve, Cond.code yX0_improve cX0_improve 8 (some .int), Cond.methodLink RL 129 yX1_improve, Cond.instanceMethod yX1_improve, Cond.selects RX1 yX1_improve yX1_improve, Cond.code yX1_improve cX1_improve 8 (some .int), Cond.methodLink RL 130 yL_makespan, Cond.static yL_makespan, Cond.codeWith yL_makespan cL_makespan 4 (some .int) [(0, 9, 12, 19)]]
def wsL_law0_r15 : List Cond := [Cond.methodLink RL 43 yX0_makespan, Cond.instanceMethod yX0_makespan, Cond.selects RX0 yX0_makespan yX0_makespan, Cond.code yX0_makespan cX0_makespan 2 (some .int), Cond.methodLink RX0 108 yX0_requireVariant, Cond.static yX0_requireVariant, Cond.code yX0_requireVariant cX0_requireVariant 1 none, Cond.methodLink RL 132 yX1_makespan, Cond.instanceMethod yX1_makespan, Cond.selects RX1 yX1_makespan yX1_makespan, Cond.code yX1_makespan cX1_makespan 2 (some .int), Cond.methodLink RX1 108 yX1_isVariant, Cond.static yX1_isVariant, Cond.code yX1_isVariant cX1_isVariant 1 (some .boolean), Cond.methodLink RL 133 yL_begin, Cond.static yL_begin, Cond.codeWith yL_begin cL_begin 6 (some .int) [(0, 12, 15, 19), (0, 12, 19, 25)], Cond.methodLink RL 46 yX0_begin, Cond.instanceMethod yX0_begin, Cond.selects RX0 yX0_begin yX0_begin, Cond.code yX0_begin cX0_begin 4 (some .int), Cond.methodLink RL 135 yX1_begin, Cond.instanceMethod yX1_begin, Cond.selects RX1 yX1_begin yX1_begin]
def wsL_law0_r16 : List Cond := [Cond.code yX1_begin cX1_begin 4 (some .int), Cond.methodLink RL 136 yX0_totalTime, Cond.instanceMethod yX0_totalTime, Cond.selects RX0 yX0_totalTime yX0_totalTime, Cond.code yX0_totalTime cX0_totalTime 3 (some .int), Cond.methodLink RL 139 yX1_totalTime, Cond.instanceMethod yX1_totalTime, Cond.selects RX1 yX1_totalTime yX1_totalTime, Cond.code yX1_totalTime cX1_totalTime 3 (some .int), Cond.methodLink RL 140 yL_head, Cond.static yL_head, Cond.codeWith yL_head cL_head 5 (some .int) [(0, 10, 13, 25)], Cond.methodLink RL 49 yX0_head, Cond.instanceMethod yX0_head, Cond.selects RX0 yX0_head yX0_head, Cond.code yX0_head cX0_head 3 (some .int), Cond.methodLink RL 142 yX1_head, Cond.instanceMethod yX1_head, Cond.selects RX1 yX1_head yX1_head, Cond.code yX1_head cX1_head 3 (some .int), Cond.methodLink RL 143 yL_tail, Cond.static yL_tail, Cond.codeWith yL_tail cL_tail 5 (some .int) [(0, 10, 13, 25)], Cond.methodLink RL 52 yX0_tail]
def wsL_law0_r17 : List Cond := [Cond.instanceMethod yX0_tail, Cond.selects RX0 yX0_tail yX0_tail, Cond.code yX0_tail cX0_tail 3 (some .int), Cond.methodLink RX0 111 yX0_fillTails, Cond.instanceMethod yX0_fillTails, Cond.selects RX0 yX0_fillTails yX0_fillTails, Cond.code yX0_fillTails cX0_fillTails 4 none, Cond.methodLink RL 145 yX1_tail, Cond.instanceMethod yX1_tail, Cond.selects RX1 yX1_tail yX1_tail, Cond.code yX1_tail cX1_tail 3 (some .int), Cond.methodLink RX1 112 yX1_laysTails, Cond.instanceMethod yX1_laysTails, Cond.selects RX1 yX1_laysTails yX1_laysTails, Cond.code yX1_laysTails cX1_laysTails 5 none, Cond.methodLink RL 146 yL_isCritical, Cond.static yL_isCritical, Cond.codeWith yL_isCritical cL_isCritical 5 (some .int) [(0, 17, 20, 25)], Cond.methodLink RL 55 yX0_isCritical, Cond.instanceMethod yX0_isCritical, Cond.selects RX0 yX0_isCritical yX0_isCritical, Cond.code yX0_isCritical cX0_isCritical 5 (some .boolean), Cond.methodLink RL 148 yX1_isCritical, Cond.instanceMethod yX1_isCritical]
def wsL_law0_r18 : List Cond := [Cond.selects RX1 yX1_isCritical yX1_isCritical, Cond.code yX1_isCritical cX1_isCritical 4 (some .boolean), Cond.methodLink RL 149 yL_idle, Cond.static yL_idle, Cond.codeWith yL_idle cL_idle 5 (some .int) [(0, 10, 13, 19), (0, 10, 17, 25)], Cond.methodLink RL 59 yX0_idle, Cond.instanceMethod yX0_idle, Cond.selects RX0 yX0_idle yX0_idle, Cond.code yX0_idle cX0_idle 3 (some .int), Cond.methodLink RX0 117 yX0_loadOf, Cond.instanceMethod yX0_loadOf, Cond.selects RX0 yX0_loadOf yX0_loadOf, Cond.code yX0_loadOf cX0_loadOf 4 (some .int), Cond.methodLink RL 151 yX1_idle, Cond.instanceMethod yX1_idle, Cond.selects RX1 yX1_idle yX1_idle, Cond.code yX1_idle cX1_idle 5 (some .int), Cond.methodLink RL 152 yL_machineBound, Cond.static yL_machineBound, Cond.codeWith yL_machineBound cL_machineBound 4 (some .int) [(0, 9, 12, 25)], Cond.methodLink RL 62 yX0_machineBound, Cond.instanceMethod yX0_machineBound, Cond.selects RX0 yX0_machineBound yX0_machineBound, Cond.code yX0_machineBound cX0_machineBound 2 (some .int)]
def wsL_law0_r19 : List Cond := [Cond.methodLink RX0 120 yX0_leastSum, Cond.instanceMethod yX0_leastSum, Cond.selects RX0 yX0_leastSum yX0_leastSum, Cond.code yX0_leastSum cX0_leastSum 5 (some .int), Cond.methodLink RX0 145 Lib.Math.min.name, Cond.static Lib.Math.min.name, Cond.code Lib.Math.min.name Lib.Math.min.code 2 (some .int), Cond.methodLink RL 154 yX1_machineBound, Cond.instanceMethod yX1_machineBound, Cond.selects RX1 yX1_machineBound yX1_machineBound, Cond.code yX1_machineBound cX1_machineBound 4 (some .int), Cond.methodLink RX1 115 yX1_leastSum, Cond.instanceMethod yX1_leastSum, Cond.selects RX1 yX1_leastSum yX1_leastSum, Cond.code yX1_leastSum cX1_leastSum 5 (some .int), Cond.methodLink RL 155 yL_pairBound, Cond.static yL_pairBound, Cond.codeWith yL_pairBound cL_pairBound 5 (some .int) [(0, 10, 13, 25), (0, 10, 17, 19)], Cond.methodLink RL 65 yX0_pairBound, Cond.instanceMethod yX0_pairBound, Cond.selects RX0 yX0_pairBound yX0_pairBound, Cond.code yX0_pairBound cX0_pairBound 3 (some .int), Cond.methodLink RX0 125 yX0_leastOfPair, Cond.instanceMethod yX0_leastOfPair]
def wsL_law0_r20 : List Cond := [Cond.selects RX0 yX0_leastOfPair yX0_leastOfPair, Cond.code yX0_leastOfPair cX0_leastOfPair 6 (some .int), Cond.methodLink RL 157 yX1_pairBound, Cond.instanceMethod yX1_pairBound, Cond.selects RX1 yX1_pairBound yX1_pairBound, Cond.code yX1_pairBound cX1_pairBound 5 (some .int), Cond.methodLink RX1 121 yX1_startsTrial, Cond.instanceMethod yX1_startsTrial, Cond.selects RX1 yX1_startsTrial yX1_startsTrial, Cond.code yX1_startsTrial cX1_startsTrial 2 none, Cond.methodLink RX1 124 yX1_onTwo, Cond.instanceMethod yX1_onTwo, Cond.selects RX1 yX1_onTwo yX1_onTwo, Cond.code yX1_onTwo cX1_onTwo 6 (some .int), Cond.methodLink RX1 127 yX1_goesOn, Cond.instanceMethod yX1_goesOn, Cond.selects RX1 yX1_goesOn yX1_goesOn, Cond.code yX1_goesOn cX1_goesOn 5 (some .boolean), Cond.methodLink RX1 118 yX1_swaps, Cond.instanceMethod yX1_swaps, Cond.selects RX1 yX1_swaps yX1_swaps, Cond.code yX1_swaps cX1_swaps 4 none, Cond.methodLink RL 158 yL_best, Cond.static yL_best]
def wsL_law0_r21 : List Cond := [Cond.codeWith yL_best cL_best 4 (some .int) [(0, 9, 12, 19)], Cond.methodLink RL 68 yX0_best, Cond.instanceMethod yX0_best, Cond.selects RX0 yX0_best yX0_best, Cond.code yX0_best cX0_best 2 (some .int), Cond.methodLink RX0 128 yX0_findBestOrder, Cond.instanceMethod yX0_findBestOrder, Cond.selects RX0 yX0_findBestOrder yX0_findBestOrder, Cond.code yX0_findBestOrder cX0_findBestOrder 5 none, Cond.methodLink RX0 176 yX0_countTrial, Cond.instanceMethod yX0_countTrial, Cond.selects RX0 yX0_countTrial yX0_countTrial, Cond.code yX0_countTrial cX0_countTrial 3 none, Cond.methodLink RX0 180 yX0_stepTrial, Cond.instanceMethod yX0_stepTrial, Cond.selects RX0 yX0_stepTrial yX0_stepTrial, Cond.code yX0_stepTrial cX0_stepTrial 5 (some .int), Cond.methodLink RX0 184 yX0_swapInTrial, Cond.instanceMethod yX0_swapInTrial, Cond.selects RX0 yX0_swapInTrial yX0_swapInTrial, Cond.code yX0_swapInTrial cX0_swapInTrial 4 none, Cond.methodLink RL 160 yX1_best, Cond.instanceMethod yX1_best, Cond.selects RX1 yX1_best yX1_best]
def wsL_law0_r22 : List Cond := [Cond.code yX1_best cX1_best 2 (some .int), Cond.methodLink RX1 134 yX1_searches, Cond.instanceMethod yX1_searches, Cond.selects RX1 yX1_searches yX1_searches, Cond.code yX1_searches cX1_searches 6 (some .int), Cond.fieldLink RX1 131 "FlowforgeModel" "bestMany" "I", Cond.methodLink RL 161 yL_bestAt, Cond.static yL_bestAt, Cond.codeWith yL_bestAt cL_bestAt 5 (some .int) [(0, 10, 13, 19), (0, 10, 17, 25)], Cond.methodLink RL 71 yX0_bestAt, Cond.instanceMethod yX0_bestAt, Cond.selects RX0 yX0_bestAt yX0_bestAt, Cond.code yX0_bestAt cX0_bestAt 3 (some .int), Cond.methodLink RL 163 yX1_bestAt, Cond.instanceMethod yX1_bestAt, Cond.selects RX1 yX1_bestAt yX1_bestAt, Cond.code yX1_bestAt cX1_bestAt 3 (some .int), Cond.methodLink RL 164 yL_bestOrders, Cond.static yL_bestOrders, Cond.codeWith yL_bestOrders cL_bestOrders 4 (some .int) [(0, 9, 12, 19)], Cond.methodLink RL 74 yX0_bestOrders, Cond.instanceMethod yX0_bestOrders, Cond.selects RX0 yX0_bestOrders yX0_bestOrders, Cond.code yX0_bestOrders cX0_bestOrders 2 (some .int)]
def wsL_law0_r23 : List Cond := [Cond.methodLink RL 166 yX1_bestOrders, Cond.instanceMethod yX1_bestOrders, Cond.selects RX1 yX1_bestOrders yX1_bestOrders, Cond.code yX1_bestOrders cX1_bestOrders 2 (some .int), Cond.methodLink RL 167 yX0_gap, Cond.instanceMethod yX0_gap, Cond.selects RX0 yX0_gap yX0_gap, Cond.code yX0_gap cX0_gap 3 (some .double), Cond.methodLink RL 171 yX1_gap, Cond.instanceMethod yX1_gap, Cond.selects RX1 yX1_gap yX1_gap, Cond.code yX1_gap cX1_gap 3 (some .double)]
def wsL_law0 : List Cond := (wsL_law0_r1 ++ (wsL_law0_r2 ++ (wsL_law0_r3 ++ (wsL_law0_r4 ++ (wsL_law0_r5 ++ (wsL_law0_r6 ++ (wsL_law0_r7 ++ (wsL_law0_r8 ++ (wsL_law0_r9 ++ (wsL_law0_r10 ++ (wsL_law0_r11 ++ (wsL_law0_r12 ++ (wsL_law0_r13 ++ (wsL_law0_r14 ++ (wsL_law0_r15 ++ (wsL_law0_r16 ++ (wsL_law0_r17 ++ (wsL_law0_r18 ++ (wsL_law0_r19 ++ (wsL_law0_r20 ++ (wsL_law0_r21 ++ (wsL_law0_r22 ++ wsL_law0_r23)))))))))))))))))))))) ++ wsX00 ++ wsX10 ++ ([] : List Cond)
def wsL_law : List Cond := wsL_law0 ++ (vx_atS RX0 55 "java/lang/IllegalStateException" ["java/lang/RuntimeException", "java/lang/Exception"]).filter goodWord ++ (vx_atS RX0 65 "java/lang/IllegalArgumentException" ["java/lang/RuntimeException", "java/lang/Exception"]).filter goodWord ++ (vx_atS RX0 135 "java/lang/IndexOutOfBoundsException" ["java/lang/RuntimeException", "java/lang/Exception"]).filter goodWord
abbrev vwCl : List vw_C := [(RX0, TX0, 13), (RX1, TX1, 10)]
end
section
theorem wsL_mem {big : List Cond} (ws : List Cond) (ps : List Nat) (hp : ws = ps.filterMap (fun i => big[i]?)) : ∀ w ∈ ws, w ∈ big := by
  intro w hw
  rw [hp] at hw
  obtain ⟨i, -, hi⟩ := List.mem_filterMap.mp hw
  exact List.mem_of_getElem? hi
set_option maxRecDepth 20000 in
theorem wsL_in_r1 : ∀ w ∈ wsL_law0_r1, w ∈ lw_tbl := wsL_mem wsL_law0_r1 [62, 63, 52, 496, 497, 53, 744, 64, 65, 66, 67, 68, 69, 70, 71, 110, 72, 73, 74, 75, 76, 77, 78, 111] (by decide +kernel)
set_option maxRecDepth 20000 in
theorem wsL_in_r2 : ∀ w ∈ wsL_law0_r2, w ∈ lw_tbl := wsL_mem wsL_law0_r2 [79, 80, 81, 82, 498, 499, 500, 501, 504, 505, 506, 507, 508, 509, 510, 502, 204, 205, 51, 206, 207, 208, 209, 210] (by decide +kernel)
set_option maxRecDepth 20000 in
theorem wsL_in_r3 : ∀ w ∈ wsL_law0_r3, w ∈ lw_tbl := wsL_mem wsL_law0_r3 [211, 212, 57, 280, 282, 15, 283, 537, 538, 539, 540, 503, 533, 534, 535, 536, 284, 285, 286, 287, 288, 289, 290, 291] (by decide +kernel)
set_option maxRecDepth 20000 in
theorem wsL_in_r4 : ∀ w ∈ wsL_law0_r4, w ∈ lw_tbl := wsL_mem wsL_law0_r4 [292, 58, 136, 137, 138, 541, 542, 543, 544, 545, 546, 547, 308, 309, 310, 311, 312, 313, 314, 315, 316, 318, 16, 319] (by decide +kernel)
set_option maxRecDepth 20000 in
theorem wsL_in_r5 : ∀ w ∈ wsL_law0_r5, w ∈ lw_tbl := wsL_mem wsL_law0_r5 [320, 59, 336, 338, 17, 339, 548, 549, 550, 551, 552, 554, 26, 555, 556, 558, 27, 559, 342, 343, 344, 345, 346, 347] (by decide +kernel)
set_option maxRecDepth 20000 in
theorem wsL_in_r6 : ∀ w ∈ wsL_law0_r6, w ∈ lw_tbl := wsL_mem wsL_law0_r6 [348, 560, 561, 562, 563, 564, 566, 28, 567, 112, 113, 114, 115, 568, 569, 570, 571, 116, 117, 118, 119, 572, 573, 574] (by decide +kernel)
set_option maxRecDepth 20000 in
theorem wsL_in_r7 : ∀ w ∈ wsL_law0_r7, w ∈ lw_tbl := wsL_mem wsL_law0_r7 [575, 349, 350, 351, 352, 353, 354, 355, 356, 358, 18, 359, 576, 577, 578, 579, 361, 362, 363, 364, 365, 366, 367, 368] (by decide +kernel)
set_option maxRecDepth 20000 in
theorem wsL_in_r8 : ∀ w ∈ wsL_law0_r8, w ∈ lw_tbl := wsL_mem wsL_law0_r8 [370, 19, 371, 150, 151, 152, 580, 581, 582, 583, 584, 586, 29, 587, 588, 590, 30, 591, 592, 594, 31, 595, 596, 598] (by decide +kernel)
set_option maxRecDepth 20000 in
theorem wsL_in_r9 : ∀ w ∈ wsL_law0_r9, w ∈ lw_tbl := wsL_mem wsL_law0_r9 [32, 599, 372, 373, 374, 375, 376, 377, 378, 143, 145, 4, 146, 147, 149, 148, 60, 153, 155, 5, 156, 165, 166, 61] (by decide +kernel)
set_option maxRecDepth 20000 in
theorem wsL_in_r10 : ∀ w ∈ wsL_law0_r10, w ∈ lw_tbl := wsL_mem wsL_law0_r10 [167, 157, 159, 6, 160, 161, 163, 7, 164, 132, 134, 2, 135, 168, 170, 8, 171, 600, 601, 602, 603, 604, 606, 33] (by decide +kernel)
set_option maxRecDepth 20000 in
theorem wsL_in_r11 : ∀ w ∈ wsL_law0_r11, w ∈ lw_tbl := wsL_mem wsL_law0_r11 [607, 608, 610, 34, 611, 612, 614, 35, 615, 616, 618, 36, 619, 620, 622, 37, 623, 379, 380, 381, 382, 383, 384, 385] (by decide +kernel)
set_option maxRecDepth 20000 in
theorem wsL_in_r12 : ∀ w ∈ wsL_law0_r12, w ∈ lw_tbl := wsL_mem wsL_law0_r12 [387, 389, 20, 390, 391, 393, 21, 394, 172, 174, 9, 175, 624, 625, 626, 627, 628, 630, 38, 631, 632, 634, 39, 635] (by decide +kernel)
set_option maxRecDepth 20000 in
theorem wsL_in_r13 : ∀ w ∈ wsL_law0_r13, w ∈ lw_tbl := wsL_mem wsL_law0_r13 [120, 121, 122, 123, 124, 126, 0, 127, 128, 130, 1, 131, 139, 141, 3, 142, 636, 637, 638, 639, 648, 640, 642, 40] (by decide +kernel)
set_option maxRecDepth 20000 in
theorem wsL_in_r14 : ∀ w ∈ wsL_law0_r14, w ∈ lw_tbl := wsL_mem wsL_law0_r14 [643, 644, 646, 41, 647, 649, 651, 42, 652, 653, 655, 43, 656, 176, 177, 178, 179, 657, 658, 659, 660, 395, 396, 397] (by decide +kernel)
set_option maxRecDepth 20000 in
theorem wsL_in_r15 : ∀ w ∈ wsL_law0_r15, w ∈ lw_tbl := wsL_mem wsL_law0_r15 [398, 399, 400, 401, 402, 403, 404, 661, 662, 663, 664, 665, 666, 667, 406, 407, 408, 409, 410, 411, 412, 668, 669, 670] (by decide +kernel)
set_option maxRecDepth 20000 in
theorem wsL_in_r16 : ∀ w ∈ wsL_law0_r16, w ∈ lw_tbl := wsL_mem wsL_law0_r16 [671, 180, 181, 182, 183, 672, 673, 674, 675, 413, 414, 415, 416, 417, 418, 419, 676, 677, 678, 679, 420, 421, 422, 423] (by decide +kernel)
set_option maxRecDepth 20000 in
theorem wsL_in_r17 : ∀ w ∈ wsL_law0_r17, w ∈ lw_tbl := wsL_mem wsL_law0_r17 [424, 425, 426, 427, 429, 22, 430, 680, 681, 682, 683, 684, 686, 44, 687, 431, 432, 433, 434, 435, 436, 437, 688, 689] (by decide +kernel)
set_option maxRecDepth 20000 in
theorem wsL_in_r18 : ∀ w ∈ wsL_law0_r18, w ∈ lw_tbl := wsL_mem wsL_law0_r18 [690, 691, 438, 439, 440, 441, 442, 443, 444, 445, 447, 23, 448, 692, 693, 694, 695, 449, 450, 451, 452, 453, 454, 455] (by decide +kernel)
set_option maxRecDepth 20000 in
theorem wsL_in_r19 : ∀ w ∈ wsL_law0_r19, w ∈ lw_tbl := wsL_mem wsL_law0_r19 [456, 458, 24, 459, 460, 461, 462, 696, 697, 698, 699, 700, 702, 45, 703, 463, 464, 465, 466, 467, 468, 469, 471, 473] (by decide +kernel)
set_option maxRecDepth 20000 in
theorem wsL_in_r20 : ∀ w ∈ wsL_law0_r20, w ∈ lw_tbl := wsL_mem wsL_law0_r20 [25, 474, 704, 705, 706, 707, 708, 710, 46, 711, 712, 714, 47, 715, 716, 718, 48, 719, 720, 722, 49, 723, 475, 476] (by decide +kernel)
set_option maxRecDepth 20000 in
theorem wsL_in_r21 : ∀ w ∈ wsL_law0_r21, w ∈ lw_tbl := wsL_mem wsL_law0_r21 [477, 478, 479, 480, 481, 188, 190, 10, 191, 192, 194, 11, 195, 196, 198, 12, 199, 200, 202, 13, 203, 724, 725, 726] (by decide +kernel)
set_option maxRecDepth 20000 in
theorem wsL_in_r22 : ∀ w ∈ wsL_law0_r22, w ∈ lw_tbl := wsL_mem wsL_law0_r22 [727, 728, 730, 50, 731, 511, 482, 483, 484, 485, 486, 487, 488, 732, 733, 734, 735, 489, 490, 491, 492, 493, 494, 495] (by decide +kernel)
set_option maxRecDepth 20000 in
theorem wsL_in_r23 : ∀ w ∈ wsL_law0_r23, w ∈ lw_tbl := wsL_mem wsL_law0_r23 [736, 737, 738, 739, 184, 185, 186, 187, 740, 741, 742, 743] (by decide +kernel)
theorem wsL_x00 : ∀ w ∈ wsX00, w ∈ lw_tbl := by decide +kernel
theorem wsL_x10 : ∀ w ∈ wsX10, w ∈ lw_tbl := by decide +kernel
theorem wsL_law_in0 : ∀ w ∈ wsL_law0, w ∈ lw_tbl := List.forall_mem_append.mpr ⟨List.forall_mem_append.mpr ⟨List.forall_mem_append.mpr ⟨List.forall_mem_append.mpr ⟨wsL_in_r1, List.forall_mem_append.mpr ⟨wsL_in_r2, List.forall_mem_append.mpr ⟨wsL_in_r3, List.forall_mem_append.mpr ⟨wsL_in_r4, List.forall_mem_append.mpr ⟨wsL_in_r5, List.forall_mem_append.mpr ⟨wsL_in_r6, List.forall_mem_append.mpr ⟨wsL_in_r7, List.forall_mem_append.mpr ⟨wsL_in_r8, List.forall_mem_append.mpr ⟨wsL_in_r9, List.forall_mem_append.mpr ⟨wsL_in_r10, List.forall_mem_append.mpr ⟨wsL_in_r11, List.forall_mem_append.mpr ⟨wsL_in_r12, List.forall_mem_append.mpr ⟨wsL_in_r13, List.forall_mem_append.mpr ⟨wsL_in_r14, List.forall_mem_append.mpr ⟨wsL_in_r15, List.forall_mem_append.mpr ⟨wsL_in_r16, List.forall_mem_append.mpr ⟨wsL_in_r17, List.forall_mem_append.mpr ⟨wsL_in_r18, List.forall_mem_append.mpr ⟨wsL_in_r19, List.forall_mem_append.mpr ⟨wsL_in_r20, List.forall_mem_append.mpr ⟨wsL_in_r21, List.forall_mem_append.mpr ⟨wsL_in_r22, wsL_in_r23⟩⟩⟩⟩⟩⟩⟩⟩⟩⟩⟩⟩⟩⟩⟩⟩⟩⟩⟩⟩⟩⟩, wsL_x00⟩, wsL_x10⟩, fun _ h => absurd h List.not_mem_nil⟩
theorem wsL_law_x0 : ∀ w ∈ (vx_atS RX0 55 "java/lang/IllegalStateException" ["java/lang/RuntimeException", "java/lang/Exception"]).filter goodWord, w ∈ lw_tbl := by decide +kernel
theorem wsL_law_x1 : ∀ w ∈ (vx_atS RX0 65 "java/lang/IllegalArgumentException" ["java/lang/RuntimeException", "java/lang/Exception"]).filter goodWord, w ∈ lw_tbl := by decide +kernel
theorem wsL_law_x2 : ∀ w ∈ (vx_atS RX0 135 "java/lang/IndexOutOfBoundsException" ["java/lang/RuntimeException", "java/lang/Exception"]).filter goodWord, w ∈ lw_tbl := by decide +kernel
theorem wsL_law_in : ∀ w ∈ wsL_law, w ∈ lw_tbl := fun w h => (List.mem_append.mp h).elim (fun h => (List.mem_append.mp h).elim (fun h => (List.mem_append.mp h).elim (fun h => wsL_law_in0 w h) (fun h => wsL_law_x0 w h)) (fun h => wsL_law_x1 w h)) (fun h => wsL_law_x2 w h)
theorem inlX0 : ∀ w ∈ wsX00, w ∈ wsL_law := fun _ h => List.mem_append_left _ (List.mem_append_left _ (List.mem_append_left _ (List.mem_append_left _ (List.mem_append_left _ (List.mem_append_right _ h)))))
theorem inX0 : ∀ w ∈ wsX00, w ∈ lw_tbl := fun w h => wsL_law_in w (inlX0 w h)
theorem inlX1 : ∀ w ∈ wsX10, w ∈ wsL_law := fun _ h => List.mem_append_left _ (List.mem_append_left _ (List.mem_append_left _ (List.mem_append_left _ (List.mem_append_right _ h))))
theorem inX1 : ∀ w ∈ wsX10, w ∈ lw_tbl := fun w h => wsL_law_in w (inlX1 w h)
theorem inJ9 : ∀ w ∈ wsJ90, w ∈ lw_tbl := by decide +kernel
theorem inJ0 : ∀ w ∈ wsJ00, w ∈ lw_tbl := by decide +kernel
theorem inJ10 : ∀ w ∈ wsJ100, w ∈ lw_tbl := by decide +kernel
end
section
theorem dX0_init_0 : decode cX0_init 0 = .ok (.aload_n 0, 1) := by decide +kernel
theorem dX0_init_1 : decode cX0_init 1 = .ok (.invokespecial 1, 3) := by decide +kernel
theorem dX0_init_4 : decode cX0_init 4 = .ok (.aload_n 0, 1) := by decide +kernel
theorem dX0_init_5 : decode cX0_init 5 = .ok (.iconst 0, 1) := by decide +kernel
theorem dX0_init_6 : decode cX0_init 6 = .ok (.putfield 7, 3) := by decide +kernel
theorem dX0_init_9 : decode cX0_init 9 = .ok (.aload_n 0, 1) := by decide +kernel
theorem dX0_init_10 : decode cX0_init 10 = .ok (.iconst 2, 1) := by decide +kernel
theorem dX0_init_11 : decode cX0_init 11 = .ok (.putfield 13, 3) := by decide +kernel
theorem dX0_init_14 : decode cX0_init 14 = .ok (.aload_n 0, 1) := by decide +kernel
theorem dX0_init_15 : decode cX0_init 15 = .ok (.bipush 35, 2) := by decide +kernel
theorem dX0_init_17 : decode cX0_init 17 = .ok (.newarray .int, 2) := by decide +kernel
theorem dX0_init_19 : decode cX0_init 19 = .ok (.putfield 16, 3) := by decide +kernel
theorem dX0_init_22 : decode cX0_init 22 = .ok (.aload_n 0, 1) := by decide +kernel
theorem dX0_init_23 : decode cX0_init 23 = .ok (.bipush 35, 2) := by decide +kernel
theorem dX0_init_25 : decode cX0_init 25 = .ok (.newarray .int, 2) := by decide +kernel
theorem dX0_init_27 : decode cX0_init 27 = .ok (.putfield 20, 3) := by decide +kernel
theorem dX0_init_30 : decode cX0_init 30 = .ok (.aload_n 0, 1) := by decide +kernel
theorem dX0_init_31 : decode cX0_init 31 = .ok (.bipush 35, 2) := by decide +kernel
theorem dX0_init_33 : decode cX0_init 33 = .ok (.newarray .int, 2) := by decide +kernel
theorem dX0_init_35 : decode cX0_init 35 = .ok (.putfield 23, 3) := by decide +kernel
theorem dX0_init_38 : decode cX0_init 38 = .ok (.aload_n 0, 1) := by decide +kernel
theorem dX0_init_39 : decode cX0_init 39 = .ok (.bipush 35, 2) := by decide +kernel
theorem dX0_init_41 : decode cX0_init 41 = .ok (.newarray .int, 2) := by decide +kernel
theorem dX0_init_43 : decode cX0_init 43 = .ok (.putfield 26, 3) := by decide +kernel
theorem dX0_init_46 : decode cX0_init 46 = .ok (.aload_n 0, 1) := by decide +kernel
theorem dX0_init_47 : decode cX0_init 47 = .ok (.bipush 7, 2) := by decide +kernel
theorem dX0_init_49 : decode cX0_init 49 = .ok (.newarray .int, 2) := by decide +kernel
theorem dX0_init_51 : decode cX0_init 51 = .ok (.putfield 29, 3) := by decide +kernel
theorem dX0_init_54 : decode cX0_init 54 = .ok (.aload_n 0, 1) := by decide +kernel
theorem dX0_init_55 : decode cX0_init 55 = .ok (.bipush 7, 2) := by decide +kernel
theorem dX0_init_57 : decode cX0_init 57 = .ok (.newarray .int, 2) := by decide +kernel
theorem dX0_init_59 : decode cX0_init 59 = .ok (.putfield 32, 3) := by decide +kernel
theorem dX0_init_62 : decode cX0_init 62 = .ok (.aload_n 0, 1) := by decide +kernel
theorem dX0_init_63 : decode cX0_init 63 = .ok (.bipush 7, 2) := by decide +kernel
theorem dX0_init_65 : decode cX0_init 65 = .ok (.newarray .int, 2) := by decide +kernel
theorem dX0_init_67 : decode cX0_init 67 = .ok (.putfield 35, 3) := by decide +kernel
theorem dX0_init_70 : decode cX0_init 70 = .ok (.aload_n 0, 1) := by decide +kernel
theorem dX0_init_71 : decode cX0_init 71 = .ok (.iconst 3, 1) := by decide +kernel
theorem dX0_init_72 : decode cX0_init 72 = .ok (.newarray .boolean, 2) := by decide +kernel
theorem dX0_init_74 : decode cX0_init 74 = .ok (.putfield 38, 3) := by decide +kernel
theorem dX0_init_77 : decode cX0_init 77 = .ok (.aload_n 0, 1) := by decide +kernel
theorem dX0_init_78 : decode cX0_init 78 = .ok (.iconst 3, 1) := by decide +kernel
theorem dX0_init_79 : decode cX0_init 79 = .ok (.newarray .int, 2) := by decide +kernel
theorem dX0_init_81 : decode cX0_init 81 = .ok (.putfield 42, 3) := by decide +kernel
theorem dX0_init_84 : decode cX0_init 84 = .ok (.aload_n 0, 1) := by decide +kernel
theorem dX0_init_85 : decode cX0_init 85 = .ok (.iconst 3, 1) := by decide +kernel
theorem dX0_init_86 : decode cX0_init 86 = .ok (.newarray .int, 2) := by decide +kernel
theorem dX0_init_88 : decode cX0_init 88 = .ok (.putfield 45, 3) := by decide +kernel
theorem dX0_init_91 : decode cX0_init 91 = .ok (.aload_n 0, 1) := by decide +kernel
theorem dX0_init_92 : decode cX0_init 92 = .ok (.bipush 21, 2) := by decide +kernel
theorem dX0_init_94 : decode cX0_init 94 = .ok (.newarray .int, 2) := by decide +kernel
theorem dX0_init_96 : decode cX0_init 96 = .ok (.putfield 48, 3) := by decide +kernel
theorem dX0_init_99 : decode cX0_init 99 = .ok (.return_, 1) := by decide +kernel
set_option maxRecDepth 20000 in
theorem ggX0_addJob_X0_forgetBestOrders : GoodIn wsX0_addJob wsX0_forgetBestOrders := goodIn_r _ [9, 10, 11, 12, 13, 14, 15, 16, 17, 18, 19, 20, 21, 22, 23] (by decide +kernel) (by decide +kernel)
set_option maxRecDepth 20000 in
theorem gX0_addJob_X0_forgetBestOrders : GoodIn wsX0_addJob (wsV RX0 58 RX0 yX0_forgetBestOrders wsX0_forgetBestOrders) := goodIn_app (goodIn_of _ (by decide +kernel)) ggX0_addJob_X0_forgetBestOrders
theorem dX0_addJob_0 : decode cX0_addJob 0 = .ok (.aload_n 0, 1) := by decide +kernel
theorem dX0_addJob_1 : decode cX0_addJob 1 = .ok (.getfield 7, 3) := by decide +kernel
theorem dX0_addJob_4 : decode cX0_addJob 4 = .ok (.bipush 7, 2) := by decide +kernel
theorem dX0_addJob_6 : decode cX0_addJob 6 = .ok (.if_icmp .lt 13, 3) := by decide +kernel
theorem dX0_addJob_9 : decode cX0_addJob 9 = .ok (.new 51, 3) := by decide +kernel
theorem dX0_addJob_12 : decode cX0_addJob 12 = .ok (.dup, 1) := by decide +kernel
theorem dX0_addJob_13 : decode cX0_addJob 13 = .ok (.ldc 53, 2) := by decide +kernel
theorem dX0_addJob_15 : decode cX0_addJob 15 = .ok (.invokespecial 55, 3) := by decide +kernel
theorem dX0_addJob_18 : decode cX0_addJob 18 = .ok (.athrow, 1) := by decide +kernel
theorem dX0_addJob_19 : decode cX0_addJob 19 = .ok (.aload_n 0, 1) := by decide +kernel
theorem dX0_addJob_20 : decode cX0_addJob 20 = .ok (.getfield 7, 3) := by decide +kernel
theorem dX0_addJob_23 : decode cX0_addJob 23 = .ok (.istore_n 1, 1) := by decide +kernel
theorem dX0_addJob_24 : decode cX0_addJob 24 = .ok (.aload_n 0, 1) := by decide +kernel
theorem dX0_addJob_25 : decode cX0_addJob 25 = .ok (.getfield 29, 3) := by decide +kernel
theorem dX0_addJob_28 : decode cX0_addJob 28 = .ok (.iload_n 1, 1) := by decide +kernel
theorem dX0_addJob_29 : decode cX0_addJob 29 = .ok (.iload_n 1, 1) := by decide +kernel
theorem dX0_addJob_30 : decode cX0_addJob 30 = .ok (.iastore, 1) := by decide +kernel
theorem dX0_addJob_31 : decode cX0_addJob 31 = .ok (.aload_n 0, 1) := by decide +kernel
theorem dX0_addJob_32 : decode cX0_addJob 32 = .ok (.iload_n 1, 1) := by decide +kernel
theorem dX0_addJob_33 : decode cX0_addJob 33 = .ok (.iconst 1, 1) := by decide +kernel
theorem dX0_addJob_34 : decode cX0_addJob 34 = .ok (.iadd, 1) := by decide +kernel
theorem dX0_addJob_35 : decode cX0_addJob 35 = .ok (.putfield 7, 3) := by decide +kernel
theorem dX0_addJob_38 : decode cX0_addJob 38 = .ok (.aload_n 0, 1) := by decide +kernel
theorem dX0_addJob_39 : decode cX0_addJob 39 = .ok (.invokevirtual 58, 3) := by decide +kernel
theorem dX0_addJob_42 : decode cX0_addJob 42 = .ok (.iload_n 1, 1) := by decide +kernel
theorem dX0_addJob_43 : decode cX0_addJob 43 = .ok (.ireturn, 1) := by decide +kernel
set_option maxRecDepth 20000 in
theorem ggX0_setMachines_X0_cell : GoodIn wsX0_setMachines wsX0_cell := goodIn_r _ [9] (by decide +kernel) (by decide +kernel)
set_option maxRecDepth 20000 in
theorem gX0_setMachines_X0_cell : GoodIn wsX0_setMachines (va_wsS RX0 66 yX0_cell wsX0_cell) := goodIn_app (goodIn_of _ (by decide +kernel)) ggX0_setMachines_X0_cell
set_option maxRecDepth 20000 in
theorem ggX0_setMachines_X0_forgetBestOrders : GoodIn wsX0_setMachines wsX0_forgetBestOrders := goodIn_r _ [13, 14, 15, 16, 17, 18, 19, 20, 21, 22, 23, 24, 25, 26, 27] (by decide +kernel) (by decide +kernel)
set_option maxRecDepth 20000 in
theorem gX0_setMachines_X0_forgetBestOrders : GoodIn wsX0_setMachines (wsV RX0 58 RX0 yX0_forgetBestOrders wsX0_forgetBestOrders) := goodIn_app (goodIn_of _ (by decide +kernel)) ggX0_setMachines_X0_forgetBestOrders
theorem dX0_setMachines_0 : decode cX0_setMachines 0 = .ok (.iload_n 1, 1) := by decide +kernel
theorem dX0_setMachines_1 : decode cX0_setMachines 1 = .ok (.iconst 1, 1) := by decide +kernel
theorem dX0_setMachines_2 : decode cX0_setMachines 2 = .ok (.if_icmp .lt 8, 3) := by decide +kernel
theorem dX0_setMachines_5 : decode cX0_setMachines 5 = .ok (.iload_n 1, 1) := by decide +kernel
theorem dX0_setMachines_6 : decode cX0_setMachines 6 = .ok (.iconst 5, 1) := by decide +kernel
theorem dX0_setMachines_7 : decode cX0_setMachines 7 = .ok (.if_icmp .le 13, 3) := by decide +kernel
theorem dX0_setMachines_10 : decode cX0_setMachines 10 = .ok (.new 61, 3) := by decide +kernel
theorem dX0_setMachines_13 : decode cX0_setMachines 13 = .ok (.dup, 1) := by decide +kernel
theorem dX0_setMachines_14 : decode cX0_setMachines 14 = .ok (.ldc 63, 2) := by decide +kernel
theorem dX0_setMachines_16 : decode cX0_setMachines 16 = .ok (.invokespecial 65, 3) := by decide +kernel
theorem dX0_setMachines_19 : decode cX0_setMachines 19 = .ok (.athrow, 1) := by decide +kernel
theorem dX0_setMachines_20 : decode cX0_setMachines 20 = .ok (.aload_n 0, 1) := by decide +kernel
theorem dX0_setMachines_21 : decode cX0_setMachines 21 = .ok (.getfield 13, 3) := by decide +kernel
theorem dX0_setMachines_24 : decode cX0_setMachines 24 = .ok (.istore_n 2, 1) := by decide +kernel
theorem dX0_setMachines_25 : decode cX0_setMachines 25 = .ok (.iconst 0, 1) := by decide +kernel
theorem dX0_setMachines_26 : decode cX0_setMachines 26 = .ok (.istore_n 3, 1) := by decide +kernel
theorem dX0_setMachines_27 : decode cX0_setMachines 27 = .ok (.iload_n 3, 1) := by decide +kernel
theorem dX0_setMachines_28 : decode cX0_setMachines 28 = .ok (.aload_n 0, 1) := by decide +kernel
theorem dX0_setMachines_29 : decode cX0_setMachines 29 = .ok (.getfield 7, 3) := by decide +kernel
theorem dX0_setMachines_32 : decode cX0_setMachines 32 = .ok (.if_icmp .ge 36, 3) := by decide +kernel
theorem dX0_setMachines_35 : decode cX0_setMachines 35 = .ok (.iload_n 1, 1) := by decide +kernel
theorem dX0_setMachines_36 : decode cX0_setMachines 36 = .ok (.istore 4, 2) := by decide +kernel
theorem dX0_setMachines_38 : decode cX0_setMachines 38 = .ok (.iload 4, 2) := by decide +kernel
theorem dX0_setMachines_40 : decode cX0_setMachines 40 = .ok (.iconst 5, 1) := by decide +kernel
theorem dX0_setMachines_41 : decode cX0_setMachines 41 = .ok (.if_icmp .ge 21, 3) := by decide +kernel
theorem dX0_setMachines_44 : decode cX0_setMachines 44 = .ok (.aload_n 0, 1) := by decide +kernel
theorem dX0_setMachines_45 : decode cX0_setMachines 45 = .ok (.getfield 16, 3) := by decide +kernel
theorem dX0_setMachines_48 : decode cX0_setMachines 48 = .ok (.iload_n 3, 1) := by decide +kernel
theorem dX0_setMachines_49 : decode cX0_setMachines 49 = .ok (.iload 4, 2) := by decide +kernel
theorem dX0_setMachines_51 : decode cX0_setMachines 51 = .ok (.invokestatic 66, 3) := by decide +kernel
theorem dX0_setMachines_54 : decode cX0_setMachines 54 = .ok (.iconst 0, 1) := by decide +kernel
theorem dX0_setMachines_55 : decode cX0_setMachines 55 = .ok (.iastore, 1) := by decide +kernel
theorem dX0_setMachines_56 : decode cX0_setMachines 56 = .ok (.iinc 4 1, 3) := by decide +kernel
theorem dX0_setMachines_59 : decode cX0_setMachines 59 = .ok (.goto (-21), 3) := by decide +kernel
theorem dX0_setMachines_62 : decode cX0_setMachines 62 = .ok (.iinc 3 1, 3) := by decide +kernel
theorem dX0_setMachines_65 : decode cX0_setMachines 65 = .ok (.goto (-38), 3) := by decide +kernel
theorem dX0_setMachines_68 : decode cX0_setMachines 68 = .ok (.aload_n 0, 1) := by decide +kernel
theorem dX0_setMachines_69 : decode cX0_setMachines 69 = .ok (.iload_n 1, 1) := by decide +kernel
theorem dX0_setMachines_70 : decode cX0_setMachines 70 = .ok (.putfield 13, 3) := by decide +kernel
theorem dX0_setMachines_73 : decode cX0_setMachines 73 = .ok (.aload_n 0, 1) := by decide +kernel
theorem dX0_setMachines_74 : decode cX0_setMachines 74 = .ok (.invokevirtual 58, 3) := by decide +kernel
theorem dX0_setMachines_77 : decode cX0_setMachines 77 = .ok (.iload_n 2, 1) := by decide +kernel
theorem dX0_setMachines_78 : decode cX0_setMachines 78 = .ok (.ireturn, 1) := by decide +kernel
set_option maxRecDepth 20000 in
theorem ggX0_setTime_X0_requireJob : GoodIn wsX0_setTime wsX0_requireJob := goodIn_ca (goodIn_r _ [8, 9, 10, 11, 25, 26, 27, 28, 29, 30, 31, 32, 33, 34, 35, 36, 37] (by decide +kernel) (by decide +kernel)) (goodIn_sub (fun _ h => List.mem_cons_of_mem _ (List.mem_append_right _ h)) (by decide +kernel))
set_option maxRecDepth 20000 in
theorem gX0_setTime_X0_requireJob : GoodIn wsX0_setTime (wsV RX0 70 RX0 yX0_requireJob wsX0_requireJob) := goodIn_app (goodIn_of _ (by decide +kernel)) ggX0_setTime_X0_requireJob
set_option maxRecDepth 20000 in
theorem ggX0_setTime_X0_requireMachine : GoodIn wsX0_setTime wsX0_requireMachine := goodIn_ca (goodIn_r _ [15, 9, 10, 16, 25, 26, 27, 28, 29, 30, 31, 32, 33, 34, 35, 36, 37] (by decide +kernel) (by decide +kernel)) (goodIn_sub (fun _ h => List.mem_cons_of_mem _ (List.mem_append_right _ h)) (by decide +kernel))
set_option maxRecDepth 20000 in
theorem gX0_setTime_X0_requireMachine : GoodIn wsX0_setTime (wsV RX0 74 RX0 yX0_requireMachine wsX0_requireMachine) := goodIn_app (goodIn_of _ (by decide +kernel)) ggX0_setTime_X0_requireMachine
set_option maxRecDepth 20000 in
theorem ggX0_setTime_X0_cell : GoodIn wsX0_setTime wsX0_cell := goodIn_r _ [19] (by decide +kernel) (by decide +kernel)
set_option maxRecDepth 20000 in
theorem gX0_setTime_X0_cell : GoodIn wsX0_setTime (va_wsS RX0 66 yX0_cell wsX0_cell) := goodIn_app (goodIn_of _ (by decide +kernel)) ggX0_setTime_X0_cell
set_option maxRecDepth 20000 in
theorem ggX0_setTime_X0_forgetBestOrders : GoodIn wsX0_setTime wsX0_forgetBestOrders := goodIn_r _ [23, 24, 25, 26, 27, 28, 29, 30, 31, 32, 33, 34, 35, 36, 37] (by decide +kernel) (by decide +kernel)
set_option maxRecDepth 20000 in
theorem gX0_setTime_X0_forgetBestOrders : GoodIn wsX0_setTime (wsV RX0 58 RX0 yX0_forgetBestOrders wsX0_forgetBestOrders) := goodIn_app (goodIn_of _ (by decide +kernel)) ggX0_setTime_X0_forgetBestOrders
theorem dX0_setTime_0 : decode cX0_setTime 0 = .ok (.aload_n 0, 1) := by decide +kernel
theorem dX0_setTime_1 : decode cX0_setTime 1 = .ok (.iload_n 1, 1) := by decide +kernel
theorem dX0_setTime_2 : decode cX0_setTime 2 = .ok (.invokevirtual 70, 3) := by decide +kernel
theorem dX0_setTime_5 : decode cX0_setTime 5 = .ok (.aload_n 0, 1) := by decide +kernel
theorem dX0_setTime_6 : decode cX0_setTime 6 = .ok (.iload_n 2, 1) := by decide +kernel
theorem dX0_setTime_7 : decode cX0_setTime 7 = .ok (.invokevirtual 74, 3) := by decide +kernel
theorem dX0_setTime_10 : decode cX0_setTime 10 = .ok (.iload_n 3, 1) := by decide +kernel
theorem dX0_setTime_11 : decode cX0_setTime 11 = .ok (.ifCond .lt 9, 3) := by decide +kernel
theorem dX0_setTime_14 : decode cX0_setTime 14 = .ok (.iload_n 3, 1) := by decide +kernel
theorem dX0_setTime_15 : decode cX0_setTime 15 = .ok (.bipush 99, 2) := by decide +kernel
theorem dX0_setTime_17 : decode cX0_setTime 17 = .ok (.if_icmp .le 13, 3) := by decide +kernel
theorem dX0_setTime_20 : decode cX0_setTime 20 = .ok (.new 61, 3) := by decide +kernel
theorem dX0_setTime_23 : decode cX0_setTime 23 = .ok (.dup, 1) := by decide +kernel
theorem dX0_setTime_24 : decode cX0_setTime 24 = .ok (.ldc 77, 2) := by decide +kernel
theorem dX0_setTime_26 : decode cX0_setTime 26 = .ok (.invokespecial 65, 3) := by decide +kernel
theorem dX0_setTime_29 : decode cX0_setTime 29 = .ok (.athrow, 1) := by decide +kernel
theorem dX0_setTime_30 : decode cX0_setTime 30 = .ok (.aload_n 0, 1) := by decide +kernel
theorem dX0_setTime_31 : decode cX0_setTime 31 = .ok (.getfield 16, 3) := by decide +kernel
theorem dX0_setTime_34 : decode cX0_setTime 34 = .ok (.iload_n 1, 1) := by decide +kernel
theorem dX0_setTime_35 : decode cX0_setTime 35 = .ok (.iload_n 2, 1) := by decide +kernel
theorem dX0_setTime_36 : decode cX0_setTime 36 = .ok (.invokestatic 66, 3) := by decide +kernel
theorem dX0_setTime_39 : decode cX0_setTime 39 = .ok (.iaload, 1) := by decide +kernel
theorem dX0_setTime_40 : decode cX0_setTime 40 = .ok (.istore 4, 2) := by decide +kernel
theorem dX0_setTime_42 : decode cX0_setTime 42 = .ok (.aload_n 0, 1) := by decide +kernel
theorem dX0_setTime_43 : decode cX0_setTime 43 = .ok (.getfield 16, 3) := by decide +kernel
theorem dX0_setTime_46 : decode cX0_setTime 46 = .ok (.iload_n 1, 1) := by decide +kernel
theorem dX0_setTime_47 : decode cX0_setTime 47 = .ok (.iload_n 2, 1) := by decide +kernel
theorem dX0_setTime_48 : decode cX0_setTime 48 = .ok (.invokestatic 66, 3) := by decide +kernel
theorem dX0_setTime_51 : decode cX0_setTime 51 = .ok (.iload_n 3, 1) := by decide +kernel
theorem dX0_setTime_52 : decode cX0_setTime 52 = .ok (.iastore, 1) := by decide +kernel
theorem dX0_setTime_53 : decode cX0_setTime 53 = .ok (.aload_n 0, 1) := by decide +kernel
theorem dX0_setTime_54 : decode cX0_setTime 54 = .ok (.invokevirtual 58, 3) := by decide +kernel
theorem dX0_setTime_57 : decode cX0_setTime 57 = .ok (.iload 4, 2) := by decide +kernel
theorem dX0_setTime_59 : decode cX0_setTime 59 = .ok (.ireturn, 1) := by decide +kernel
set_option maxRecDepth 20000 in
theorem ggX0_time_X0_requireJob : GoodIn wsX0_time wsX0_requireJob := goodIn_ca (goodIn_r _ [6, 7, 8, 9, 18, 19, 20, 21, 22, 23, 24, 25, 26, 27, 28, 29, 30] (by decide +kernel) (by decide +kernel)) (goodIn_sub (fun _ h => List.mem_cons_of_mem _ (List.mem_append_right _ h)) (by decide +kernel))
set_option maxRecDepth 20000 in
theorem gX0_time_X0_requireJob : GoodIn wsX0_time (wsV RX0 70 RX0 yX0_requireJob wsX0_requireJob) := goodIn_app (goodIn_of _ (by decide +kernel)) ggX0_time_X0_requireJob
set_option maxRecDepth 20000 in
theorem ggX0_time_X0_requireMachine : GoodIn wsX0_time wsX0_requireMachine := goodIn_ca (goodIn_r _ [13, 7, 8, 14, 18, 19, 20, 21, 22, 23, 24, 25, 26, 27, 28, 29, 30] (by decide +kernel) (by decide +kernel)) (goodIn_sub (fun _ h => List.mem_cons_of_mem _ (List.mem_append_right _ h)) (by decide +kernel))
set_option maxRecDepth 20000 in
theorem gX0_time_X0_requireMachine : GoodIn wsX0_time (wsV RX0 74 RX0 yX0_requireMachine wsX0_requireMachine) := goodIn_app (goodIn_of _ (by decide +kernel)) ggX0_time_X0_requireMachine
set_option maxRecDepth 20000 in
theorem ggX0_time_X0_cell : GoodIn wsX0_time wsX0_cell := goodIn_r _ [17] (by decide +kernel) (by decide +kernel)
set_option maxRecDepth 20000 in
theorem gX0_time_X0_cell : GoodIn wsX0_time (va_wsS RX0 66 yX0_cell wsX0_cell) := goodIn_app (goodIn_of _ (by decide +kernel)) ggX0_time_X0_cell
theorem dX0_time_0 : decode cX0_time 0 = .ok (.aload_n 0, 1) := by decide +kernel
theorem dX0_time_1 : decode cX0_time 1 = .ok (.iload_n 1, 1) := by decide +kernel
theorem dX0_time_2 : decode cX0_time 2 = .ok (.invokevirtual 70, 3) := by decide +kernel
theorem dX0_time_5 : decode cX0_time 5 = .ok (.aload_n 0, 1) := by decide +kernel
theorem dX0_time_6 : decode cX0_time 6 = .ok (.iload_n 2, 1) := by decide +kernel
theorem dX0_time_7 : decode cX0_time 7 = .ok (.invokevirtual 74, 3) := by decide +kernel
theorem dX0_time_10 : decode cX0_time 10 = .ok (.aload_n 0, 1) := by decide +kernel
theorem dX0_time_11 : decode cX0_time 11 = .ok (.getfield 16, 3) := by decide +kernel
theorem dX0_time_14 : decode cX0_time 14 = .ok (.iload_n 1, 1) := by decide +kernel
theorem dX0_time_15 : decode cX0_time 15 = .ok (.iload_n 2, 1) := by decide +kernel
theorem dX0_time_16 : decode cX0_time 16 = .ok (.invokestatic 66, 3) := by decide +kernel
theorem dX0_time_19 : decode cX0_time 19 = .ok (.iaload, 1) := by decide +kernel
theorem dX0_time_20 : decode cX0_time 20 = .ok (.ireturn, 1) := by decide +kernel
theorem dX0_jobs_0 : decode cX0_jobs 0 = .ok (.aload_n 0, 1) := by decide +kernel
theorem dX0_jobs_1 : decode cX0_jobs 1 = .ok (.getfield 7, 3) := by decide +kernel
theorem dX0_jobs_4 : decode cX0_jobs 4 = .ok (.ireturn, 1) := by decide +kernel
theorem dX0_machines_0 : decode cX0_machines 0 = .ok (.aload_n 0, 1) := by decide +kernel
theorem dX0_machines_1 : decode cX0_machines 1 = .ok (.getfield 13, 3) := by decide +kernel
theorem dX0_machines_4 : decode cX0_machines 4 = .ok (.ireturn, 1) := by decide +kernel
set_option maxRecDepth 20000 in
theorem ggX0_jobAt_X0_requirePlace : GoodIn wsX0_jobAt wsX0_requirePlace := goodIn_ca (goodIn_r _ [6, 7, 8, 9, 10, 11, 12, 13, 14, 15, 16, 17, 18, 19, 20, 21, 22] (by decide +kernel) (by decide +kernel)) (goodIn_sub (fun _ h => List.mem_cons_of_mem _ (List.mem_append_right _ h)) (by decide +kernel))
set_option maxRecDepth 20000 in
theorem gX0_jobAt_X0_requirePlace : GoodIn wsX0_jobAt (wsV RX0 79 RX0 yX0_requirePlace wsX0_requirePlace) := goodIn_app (goodIn_of _ (by decide +kernel)) ggX0_jobAt_X0_requirePlace
theorem dX0_jobAt_0 : decode cX0_jobAt 0 = .ok (.aload_n 0, 1) := by decide +kernel
theorem dX0_jobAt_1 : decode cX0_jobAt 1 = .ok (.iload_n 1, 1) := by decide +kernel
theorem dX0_jobAt_2 : decode cX0_jobAt 2 = .ok (.invokevirtual 79, 3) := by decide +kernel
theorem dX0_jobAt_5 : decode cX0_jobAt 5 = .ok (.aload_n 0, 1) := by decide +kernel
theorem dX0_jobAt_6 : decode cX0_jobAt 6 = .ok (.getfield 29, 3) := by decide +kernel
theorem dX0_jobAt_9 : decode cX0_jobAt 9 = .ok (.iload_n 1, 1) := by decide +kernel
theorem dX0_jobAt_10 : decode cX0_jobAt 10 = .ok (.iaload, 1) := by decide +kernel
theorem dX0_jobAt_11 : decode cX0_jobAt 11 = .ok (.ireturn, 1) := by decide +kernel
set_option maxRecDepth 20000 in
theorem ggX0_move_X0_requireJob : GoodIn wsX0_move wsX0_requireJob := goodIn_ca (goodIn_r _ [6, 7, 8, 9, 21, 22, 23, 24, 25, 26, 27, 28, 29, 30, 31, 32, 33] (by decide +kernel) (by decide +kernel)) (goodIn_sub (fun _ h => List.mem_cons_of_mem _ (List.mem_append_right _ h)) (by decide +kernel))
set_option maxRecDepth 20000 in
theorem gX0_move_X0_requireJob : GoodIn wsX0_move (wsV RX0 70 RX0 yX0_requireJob wsX0_requireJob) := goodIn_app (goodIn_of _ (by decide +kernel)) ggX0_move_X0_requireJob
set_option maxRecDepth 20000 in
theorem ggX0_move_X0_requirePlace : GoodIn wsX0_move wsX0_requirePlace := goodIn_ca (goodIn_r _ [13, 7, 8, 9, 21, 22, 23, 24, 25, 26, 27, 28, 29, 30, 31, 32, 33] (by decide +kernel) (by decide +kernel)) (goodIn_sub (fun _ h => List.mem_cons_of_mem _ (List.mem_append_right _ h)) (by decide +kernel))
set_option maxRecDepth 20000 in
theorem gX0_move_X0_requirePlace : GoodIn wsX0_move (wsV RX0 79 RX0 yX0_requirePlace wsX0_requirePlace) := goodIn_app (goodIn_of _ (by decide +kernel)) ggX0_move_X0_requirePlace
set_option maxRecDepth 20000 in
theorem ggX0_move_X0_placeOf : GoodIn wsX0_move wsX0_placeOf := goodIn_r _ [17, 9, 1, 21, 22, 23, 24, 25, 26, 27, 28, 29, 30, 31, 32, 33] (by decide +kernel) (by decide +kernel)
set_option maxRecDepth 20000 in
theorem gX0_move_X0_placeOf : GoodIn wsX0_move (wsV RX0 82 RX0 yX0_placeOf wsX0_placeOf) := goodIn_app (goodIn_of _ (by decide +kernel)) ggX0_move_X0_placeOf
set_option maxRecDepth 20000 in
theorem ggX0_move_X0_shift : GoodIn wsX0_move wsX0_shift := goodIn_r _ [20] (by decide +kernel) (by decide +kernel)
set_option maxRecDepth 20000 in
theorem gX0_move_X0_shift : GoodIn wsX0_move (va_wsS RX0 86 yX0_shift wsX0_shift) := goodIn_app (goodIn_of _ (by decide +kernel)) ggX0_move_X0_shift
theorem dX0_move_0 : decode cX0_move 0 = .ok (.aload_n 0, 1) := by decide +kernel
theorem dX0_move_1 : decode cX0_move 1 = .ok (.iload_n 1, 1) := by decide +kernel
theorem dX0_move_2 : decode cX0_move 2 = .ok (.invokevirtual 70, 3) := by decide +kernel
theorem dX0_move_5 : decode cX0_move 5 = .ok (.aload_n 0, 1) := by decide +kernel
theorem dX0_move_6 : decode cX0_move 6 = .ok (.iload_n 2, 1) := by decide +kernel
theorem dX0_move_7 : decode cX0_move 7 = .ok (.invokevirtual 79, 3) := by decide +kernel
theorem dX0_move_10 : decode cX0_move 10 = .ok (.aload_n 0, 1) := by decide +kernel
theorem dX0_move_11 : decode cX0_move 11 = .ok (.iload_n 1, 1) := by decide +kernel
theorem dX0_move_12 : decode cX0_move 12 = .ok (.invokevirtual 82, 3) := by decide +kernel
theorem dX0_move_15 : decode cX0_move 15 = .ok (.istore_n 3, 1) := by decide +kernel
theorem dX0_move_16 : decode cX0_move 16 = .ok (.aload_n 0, 1) := by decide +kernel
theorem dX0_move_17 : decode cX0_move 17 = .ok (.getfield 29, 3) := by decide +kernel
theorem dX0_move_20 : decode cX0_move 20 = .ok (.iload_n 3, 1) := by decide +kernel
theorem dX0_move_21 : decode cX0_move 21 = .ok (.iload_n 2, 1) := by decide +kernel
theorem dX0_move_22 : decode cX0_move 22 = .ok (.invokestatic 86, 3) := by decide +kernel
theorem dX0_move_25 : decode cX0_move 25 = .ok (.iload_n 3, 1) := by decide +kernel
theorem dX0_move_26 : decode cX0_move 26 = .ok (.ireturn, 1) := by decide +kernel
set_option maxRecDepth 20000 in
theorem ggX0_makespanIfMoved_X0_requireJob : GoodIn wsX0_makespanIfMoved wsX0_requireJob := goodIn_ca (goodIn_r _ [6, 7, 8, 1, 61, 62, 63, 64, 65, 66, 67, 68, 69, 70, 71, 72, 73] (by decide +kernel) (by decide +kernel)) (goodIn_sub (fun _ h => List.mem_cons_of_mem _ (List.mem_append_right _ h)) (by decide +kernel))
set_option maxRecDepth 20000 in
theorem gX0_makespanIfMoved_X0_requireJob : GoodIn wsX0_makespanIfMoved (wsV RX0 70 RX0 yX0_requireJob wsX0_requireJob) := goodIn_app (goodIn_of _ (by decide +kernel)) ggX0_makespanIfMoved_X0_requireJob
set_option maxRecDepth 20000 in
theorem ggX0_makespanIfMoved_X0_requirePlace : GoodIn wsX0_makespanIfMoved wsX0_requirePlace := goodIn_ca (goodIn_r _ [12, 7, 8, 1, 61, 62, 63, 64, 65, 66, 67, 68, 69, 70, 71, 72, 73] (by decide +kernel) (by decide +kernel)) (goodIn_sub (fun _ h => List.mem_cons_of_mem _ (List.mem_append_right _ h)) (by decide +kernel))
set_option maxRecDepth 20000 in
theorem gX0_makespanIfMoved_X0_requirePlace : GoodIn wsX0_makespanIfMoved (wsV RX0 79 RX0 yX0_requirePlace wsX0_requirePlace) := goodIn_app (goodIn_of _ (by decide +kernel)) ggX0_makespanIfMoved_X0_requirePlace
set_option maxRecDepth 20000 in
theorem ggX0_makespanIfMoved_X0_placeOf : GoodIn wsX0_makespanIfMoved wsX0_placeOf := goodIn_r _ [16, 1, 17, 61, 62, 63, 64, 65, 66, 67, 68, 69, 70, 71, 72, 73] (by decide +kernel) (by decide +kernel)
set_option maxRecDepth 20000 in
theorem gX0_makespanIfMoved_X0_placeOf : GoodIn wsX0_makespanIfMoved (wsV RX0 82 RX0 yX0_placeOf wsX0_placeOf) := goodIn_app (goodIn_of _ (by decide +kernel)) ggX0_makespanIfMoved_X0_placeOf
set_option maxRecDepth 20000 in
theorem ggX0_makespanIfMoved_X0_makespanIfShifted : GoodIn wsX0_makespanIfMoved wsX0_makespanIfShifted := goodIn_r _ [21, 17, 22, 23, 24, 25, 26, 27, 28, 5, 29, 30, 31, 32, 33, 34, 35, 36, 37, 38, 39, 40, 41, 42, 43, 44, 45, 46, 47, 48, 49, 50, 51, 52, 53, 54, 55, 56, 57, 58, 59, 60, 61, 62, 63, 64, 65, 66, 67, 68, 69, 70, 71, 72, 73] (by decide +kernel) (by decide +kernel)
set_option maxRecDepth 20000 in
theorem gX0_makespanIfMoved_X0_makespanIfShifted : GoodIn wsX0_makespanIfMoved (wsV RX0 90 RX0 yX0_makespanIfShifted wsX0_makespanIfShifted) := goodIn_app (goodIn_of _ (by decide +kernel)) ggX0_makespanIfMoved_X0_makespanIfShifted
theorem dX0_makespanIfMoved_0 : decode cX0_makespanIfMoved 0 = .ok (.aload_n 0, 1) := by decide +kernel
theorem dX0_makespanIfMoved_1 : decode cX0_makespanIfMoved 1 = .ok (.iload_n 1, 1) := by decide +kernel
theorem dX0_makespanIfMoved_2 : decode cX0_makespanIfMoved 2 = .ok (.invokevirtual 70, 3) := by decide +kernel
theorem dX0_makespanIfMoved_5 : decode cX0_makespanIfMoved 5 = .ok (.aload_n 0, 1) := by decide +kernel
theorem dX0_makespanIfMoved_6 : decode cX0_makespanIfMoved 6 = .ok (.iload_n 2, 1) := by decide +kernel
theorem dX0_makespanIfMoved_7 : decode cX0_makespanIfMoved 7 = .ok (.invokevirtual 79, 3) := by decide +kernel
theorem dX0_makespanIfMoved_10 : decode cX0_makespanIfMoved 10 = .ok (.aload_n 0, 1) := by decide +kernel
theorem dX0_makespanIfMoved_11 : decode cX0_makespanIfMoved 11 = .ok (.aload_n 0, 1) := by decide +kernel
theorem dX0_makespanIfMoved_12 : decode cX0_makespanIfMoved 12 = .ok (.iload_n 1, 1) := by decide +kernel
theorem dX0_makespanIfMoved_13 : decode cX0_makespanIfMoved 13 = .ok (.invokevirtual 82, 3) := by decide +kernel
theorem dX0_makespanIfMoved_16 : decode cX0_makespanIfMoved 16 = .ok (.iload_n 2, 1) := by decide +kernel
theorem dX0_makespanIfMoved_17 : decode cX0_makespanIfMoved 17 = .ok (.aload_n 0, 1) := by decide +kernel
theorem dX0_makespanIfMoved_18 : decode cX0_makespanIfMoved 18 = .ok (.getfield 7, 3) := by decide +kernel
theorem dX0_makespanIfMoved_21 : decode cX0_makespanIfMoved 21 = .ok (.invokevirtual 90, 3) := by decide +kernel
theorem dX0_makespanIfMoved_24 : decode cX0_makespanIfMoved 24 = .ok (.ireturn, 1) := by decide +kernel
set_option maxRecDepth 20000 in
theorem ggX0_orderByRule_X0_fillByRule : GoodIn wsX0_orderByRule wsX0_fillByRule := goodIn_r _ [9, 10, 11, 12, 13, 8, 14, 15, 16, 17, 18, 19, 20, 21, 22, 49, 50, 51, 52, 53, 54, 55, 56, 57, 58, 59, 60, 61] (by decide +kernel) (by decide +kernel)
set_option maxRecDepth 20000 in
theorem gX0_orderByRule_X0_fillByRule : GoodIn wsX0_orderByRule (wsV RX0 96 RX0 yX0_fillByRule wsX0_fillByRule) := goodIn_app (goodIn_of _ (by decide +kernel)) ggX0_orderByRule_X0_fillByRule
set_option maxRecDepth 20000 in
theorem ggX0_orderByRule_X0_scheduleOrder : GoodIn wsX0_orderByRule wsX0_scheduleOrder := goodIn_r _ [26, 10, 4, 27, 28, 29, 8, 30, 3, 31, 32, 33, 34, 35, 36, 37, 38, 39, 40, 41, 42, 43, 44, 20, 21, 22, 15, 16, 17, 18, 19, 45, 46, 47, 48, 49, 50, 51, 52, 53, 54, 55, 56, 57, 58, 59, 60, 61] (by decide +kernel) (by decide +kernel)
set_option maxRecDepth 20000 in
theorem gX0_orderByRule_X0_scheduleOrder : GoodIn wsX0_orderByRule (wsV RX0 99 RX0 yX0_scheduleOrder wsX0_scheduleOrder) := goodIn_app (goodIn_of _ (by decide +kernel)) ggX0_orderByRule_X0_scheduleOrder
theorem dX0_orderByRule_0 : decode cX0_orderByRule 0 = .ok (.aload_n 0, 1) := by decide +kernel
theorem dX0_orderByRule_1 : decode cX0_orderByRule 1 = .ok (.getfield 13, 3) := by decide +kernel
theorem dX0_orderByRule_4 : decode cX0_orderByRule 4 = .ok (.iconst 2, 1) := by decide +kernel
theorem dX0_orderByRule_5 : decode cX0_orderByRule 5 = .ok (.if_icmp .eq 13, 3) := by decide +kernel
theorem dX0_orderByRule_8 : decode cX0_orderByRule 8 = .ok (.new 51, 3) := by decide +kernel
theorem dX0_orderByRule_11 : decode cX0_orderByRule 11 = .ok (.dup, 1) := by decide +kernel
theorem dX0_orderByRule_12 : decode cX0_orderByRule 12 = .ok (.ldc 94, 2) := by decide +kernel
theorem dX0_orderByRule_14 : decode cX0_orderByRule 14 = .ok (.invokespecial 55, 3) := by decide +kernel
theorem dX0_orderByRule_17 : decode cX0_orderByRule 17 = .ok (.athrow, 1) := by decide +kernel
theorem dX0_orderByRule_18 : decode cX0_orderByRule 18 = .ok (.aload_n 0, 1) := by decide +kernel
theorem dX0_orderByRule_19 : decode cX0_orderByRule 19 = .ok (.aload_n 0, 1) := by decide +kernel
theorem dX0_orderByRule_20 : decode cX0_orderByRule 20 = .ok (.getfield 29, 3) := by decide +kernel
theorem dX0_orderByRule_23 : decode cX0_orderByRule 23 = .ok (.iconst 0, 1) := by decide +kernel
theorem dX0_orderByRule_24 : decode cX0_orderByRule 24 = .ok (.iconst 1, 1) := by decide +kernel
theorem dX0_orderByRule_25 : decode cX0_orderByRule 25 = .ok (.invokevirtual 96, 3) := by decide +kernel
theorem dX0_orderByRule_28 : decode cX0_orderByRule 28 = .ok (.aload_n 0, 1) := by decide +kernel
theorem dX0_orderByRule_29 : decode cX0_orderByRule 29 = .ok (.iconst 0, 1) := by decide +kernel
theorem dX0_orderByRule_30 : decode cX0_orderByRule 30 = .ok (.invokevirtual 99, 3) := by decide +kernel
theorem dX0_orderByRule_33 : decode cX0_orderByRule 33 = .ok (.ireturn, 1) := by decide +kernel
set_option maxRecDepth 20000 in
theorem ggX0_orderByInsertion_X0_fillQueueBySum : GoodIn wsX0_orderByInsertion wsX0_fillQueueBySum := goodIn_r _ [8, 1, 9, 3, 10, 11, 12, 7, 13, 14, 15, 16, 17, 18, 19, 20, 21, 64, 65, 66, 67, 68, 69, 70, 71, 72, 73, 74, 75, 76] (by decide +kernel) (by decide +kernel)
set_option maxRecDepth 20000 in
theorem gX0_orderByInsertion_X0_fillQueueBySum : GoodIn wsX0_orderByInsertion (wsV RX0 102 RX0 yX0_fillQueueBySum wsX0_fillQueueBySum) := goodIn_app (goodIn_of _ (by decide +kernel)) ggX0_orderByInsertion_X0_fillQueueBySum
set_option maxRecDepth 20000 in
theorem ggX0_orderByInsertion_X0_placeForLast : GoodIn wsX0_orderByInsertion wsX0_placeForLast := goodIn_r _ [25, 26, 27, 28, 7, 29, 2, 30, 31, 32, 33, 34, 35, 36, 37, 38, 39, 40, 41, 9, 42, 43, 44, 45, 46, 47, 48, 49, 50, 51, 52, 53, 54, 55, 19, 20, 21, 14, 15, 16, 17, 18, 56, 57, 58, 59, 64, 65, 66, 67, 68, 69, 70, 71, 72, 73, 74, 75, 76] (by decide +kernel) (by decide +kernel)
set_option maxRecDepth 20000 in
theorem gX0_orderByInsertion_X0_placeForLast : GoodIn wsX0_orderByInsertion (wsV RX0 105 RX0 yX0_placeForLast wsX0_placeForLast) := goodIn_app (goodIn_of _ (by decide +kernel)) ggX0_orderByInsertion_X0_placeForLast
set_option maxRecDepth 20000 in
theorem ggX0_orderByInsertion_X0_shift : GoodIn wsX0_orderByInsertion wsX0_shift := goodIn_r _ [37] (by decide +kernel) (by decide +kernel)
set_option maxRecDepth 20000 in
theorem gX0_orderByInsertion_X0_shift : GoodIn wsX0_orderByInsertion (va_wsS RX0 86 yX0_shift wsX0_shift) := goodIn_app (goodIn_of _ (by decide +kernel)) ggX0_orderByInsertion_X0_shift
set_option maxRecDepth 20000 in
theorem ggX0_orderByInsertion_X0_scheduleOrder : GoodIn wsX0_orderByInsertion wsX0_scheduleOrder := goodIn_r _ [63, 1, 2, 38, 39, 40, 7, 41, 9, 42, 43, 44, 45, 46, 47, 48, 49, 50, 51, 52, 53, 54, 55, 19, 20, 21, 14, 15, 16, 17, 18, 56, 57, 58, 59, 64, 65, 66, 67, 68, 69, 70, 71, 72, 73, 74, 75, 76] (by decide +kernel) (by decide +kernel)
set_option maxRecDepth 20000 in
theorem gX0_orderByInsertion_X0_scheduleOrder : GoodIn wsX0_orderByInsertion (wsV RX0 99 RX0 yX0_scheduleOrder wsX0_scheduleOrder) := goodIn_app (goodIn_of _ (by decide +kernel)) ggX0_orderByInsertion_X0_scheduleOrder
theorem dX0_orderByInsertion_0 : decode cX0_orderByInsertion 0 = .ok (.aload_n 0, 1) := by decide +kernel
theorem dX0_orderByInsertion_1 : decode cX0_orderByInsertion 1 = .ok (.invokevirtual 102, 3) := by decide +kernel
theorem dX0_orderByInsertion_4 : decode cX0_orderByInsertion 4 = .ok (.iconst 0, 1) := by decide +kernel
theorem dX0_orderByInsertion_5 : decode cX0_orderByInsertion 5 = .ok (.istore_n 1, 1) := by decide +kernel
theorem dX0_orderByInsertion_6 : decode cX0_orderByInsertion 6 = .ok (.iload_n 1, 1) := by decide +kernel
theorem dX0_orderByInsertion_7 : decode cX0_orderByInsertion 7 = .ok (.aload_n 0, 1) := by decide +kernel
theorem dX0_orderByInsertion_8 : decode cX0_orderByInsertion 8 = .ok (.getfield 7, 3) := by decide +kernel
theorem dX0_orderByInsertion_11 : decode cX0_orderByInsertion 11 = .ok (.if_icmp .ge 34, 3) := by decide +kernel
theorem dX0_orderByInsertion_14 : decode cX0_orderByInsertion 14 = .ok (.aload_n 0, 1) := by decide +kernel
theorem dX0_orderByInsertion_15 : decode cX0_orderByInsertion 15 = .ok (.getfield 29, 3) := by decide +kernel
theorem dX0_orderByInsertion_18 : decode cX0_orderByInsertion 18 = .ok (.iload_n 1, 1) := by decide +kernel
theorem dX0_orderByInsertion_19 : decode cX0_orderByInsertion 19 = .ok (.aload_n 0, 1) := by decide +kernel
theorem dX0_orderByInsertion_20 : decode cX0_orderByInsertion 20 = .ok (.getfield 35, 3) := by decide +kernel
theorem dX0_orderByInsertion_23 : decode cX0_orderByInsertion 23 = .ok (.iload_n 1, 1) := by decide +kernel
theorem dX0_orderByInsertion_24 : decode cX0_orderByInsertion 24 = .ok (.iaload, 1) := by decide +kernel
theorem dX0_orderByInsertion_25 : decode cX0_orderByInsertion 25 = .ok (.iastore, 1) := by decide +kernel
theorem dX0_orderByInsertion_26 : decode cX0_orderByInsertion 26 = .ok (.aload_n 0, 1) := by decide +kernel
theorem dX0_orderByInsertion_27 : decode cX0_orderByInsertion 27 = .ok (.getfield 29, 3) := by decide +kernel
theorem dX0_orderByInsertion_30 : decode cX0_orderByInsertion 30 = .ok (.iload_n 1, 1) := by decide +kernel
theorem dX0_orderByInsertion_31 : decode cX0_orderByInsertion 31 = .ok (.aload_n 0, 1) := by decide +kernel
theorem dX0_orderByInsertion_32 : decode cX0_orderByInsertion 32 = .ok (.iload_n 1, 1) := by decide +kernel
theorem dX0_orderByInsertion_33 : decode cX0_orderByInsertion 33 = .ok (.invokevirtual 105, 3) := by decide +kernel
theorem dX0_orderByInsertion_36 : decode cX0_orderByInsertion 36 = .ok (.invokestatic 86, 3) := by decide +kernel
theorem dX0_orderByInsertion_39 : decode cX0_orderByInsertion 39 = .ok (.iinc 1 1, 3) := by decide +kernel
theorem dX0_orderByInsertion_42 : decode cX0_orderByInsertion 42 = .ok (.goto (-36), 3) := by decide +kernel
theorem dX0_orderByInsertion_45 : decode cX0_orderByInsertion 45 = .ok (.aload_n 0, 1) := by decide +kernel
theorem dX0_orderByInsertion_46 : decode cX0_orderByInsertion 46 = .ok (.iconst 0, 1) := by decide +kernel
theorem dX0_orderByInsertion_47 : decode cX0_orderByInsertion 47 = .ok (.invokevirtual 99, 3) := by decide +kernel
theorem dX0_orderByInsertion_50 : decode cX0_orderByInsertion 50 = .ok (.ireturn, 1) := by decide +kernel
set_option maxRecDepth 20000 in
theorem ggX0_improve_X0_scheduleOrder : GoodIn wsX0_improve wsX0_scheduleOrder := goodIn_r _ [7, 1, 2, 8, 9, 10, 6, 11, 12, 13, 14, 15, 16, 17, 18, 19, 20, 21, 22, 23, 24, 25, 26, 27, 28, 29, 30, 31, 32, 33, 34, 35, 36, 37, 38, 51, 52, 53, 54, 55, 56, 57, 58, 59, 60, 61, 62, 63] (by decide +kernel) (by decide +kernel)
set_option maxRecDepth 20000 in
theorem gX0_improve_X0_scheduleOrder : GoodIn wsX0_improve (wsV RX0 99 RX0 yX0_scheduleOrder wsX0_scheduleOrder) := goodIn_app (goodIn_of _ (by decide +kernel)) ggX0_improve_X0_scheduleOrder
set_option maxRecDepth 20000 in
theorem ggX0_improve_X0_makespanIfShifted : GoodIn wsX0_improve wsX0_makespanIfShifted := goodIn_r _ [42, 2, 43, 44, 45, 46, 47, 48, 49, 6, 50, 8, 9, 10, 11, 12, 13, 14, 15, 16, 17, 18, 19, 20, 21, 22, 23, 24, 25, 26, 27, 28, 29, 30, 31, 32, 33, 34, 35, 36, 37, 38, 51, 52, 53, 54, 55, 56, 57, 58, 59, 60, 61, 62, 63] (by decide +kernel) (by decide +kernel)
set_option maxRecDepth 20000 in
theorem gX0_improve_X0_makespanIfShifted : GoodIn wsX0_improve (wsV RX0 90 RX0 yX0_makespanIfShifted wsX0_makespanIfShifted) := goodIn_app (goodIn_of _ (by decide +kernel)) ggX0_improve_X0_makespanIfShifted
set_option maxRecDepth 20000 in
theorem ggX0_improve_X0_shift : GoodIn wsX0_improve wsX0_shift := goodIn_r _ [50] (by decide +kernel) (by decide +kernel)
set_option maxRecDepth 20000 in
theorem gX0_improve_X0_shift : GoodIn wsX0_improve (va_wsS RX0 86 yX0_shift wsX0_shift) := goodIn_app (goodIn_of _ (by decide +kernel)) ggX0_improve_X0_shift
theorem dX0_improve_0 : decode cX0_improve 0 = .ok (.aload_n 0, 1) := by decide +kernel
theorem dX0_improve_1 : decode cX0_improve 1 = .ok (.iconst 0, 1) := by decide +kernel
theorem dX0_improve_2 : decode cX0_improve 2 = .ok (.invokevirtual 99, 3) := by decide +kernel
theorem dX0_improve_5 : decode cX0_improve 5 = .ok (.istore_n 1, 1) := by decide +kernel
theorem dX0_improve_6 : decode cX0_improve 6 = .ok (.iload_n 1, 1) := by decide +kernel
theorem dX0_improve_7 : decode cX0_improve 7 = .ok (.istore_n 2, 1) := by decide +kernel
theorem dX0_improve_8 : decode cX0_improve 8 = .ok (.iconst 0, 1) := by decide +kernel
theorem dX0_improve_9 : decode cX0_improve 9 = .ok (.istore_n 3, 1) := by decide +kernel
theorem dX0_improve_10 : decode cX0_improve 10 = .ok (.iconst 0, 1) := by decide +kernel
theorem dX0_improve_11 : decode cX0_improve 11 = .ok (.istore 4, 2) := by decide +kernel
theorem dX0_improve_13 : decode cX0_improve 13 = .ok (.iconst 0, 1) := by decide +kernel
theorem dX0_improve_14 : decode cX0_improve 14 = .ok (.istore 5, 2) := by decide +kernel
theorem dX0_improve_16 : decode cX0_improve 16 = .ok (.iload 5, 2) := by decide +kernel
theorem dX0_improve_18 : decode cX0_improve 18 = .ok (.aload_n 0, 1) := by decide +kernel
theorem dX0_improve_19 : decode cX0_improve 19 = .ok (.getfield 7, 3) := by decide +kernel
theorem dX0_improve_22 : decode cX0_improve 22 = .ok (.if_icmp .ge 57, 3) := by decide +kernel
theorem dX0_improve_25 : decode cX0_improve 25 = .ok (.iconst 0, 1) := by decide +kernel
theorem dX0_improve_26 : decode cX0_improve 26 = .ok (.istore 6, 2) := by decide +kernel
theorem dX0_improve_28 : decode cX0_improve 28 = .ok (.iload 6, 2) := by decide +kernel
theorem dX0_improve_30 : decode cX0_improve 30 = .ok (.aload_n 0, 1) := by decide +kernel
theorem dX0_improve_31 : decode cX0_improve 31 = .ok (.getfield 7, 3) := by decide +kernel
theorem dX0_improve_34 : decode cX0_improve 34 = .ok (.if_icmp .ge 39, 3) := by decide +kernel
theorem dX0_improve_37 : decode cX0_improve 37 = .ok (.aload_n 0, 1) := by decide +kernel
theorem dX0_improve_38 : decode cX0_improve 38 = .ok (.iload 5, 2) := by decide +kernel
theorem dX0_improve_40 : decode cX0_improve 40 = .ok (.iload 6, 2) := by decide +kernel
theorem dX0_improve_42 : decode cX0_improve 42 = .ok (.aload_n 0, 1) := by decide +kernel
theorem dX0_improve_43 : decode cX0_improve 43 = .ok (.getfield 7, 3) := by decide +kernel
theorem dX0_improve_46 : decode cX0_improve 46 = .ok (.invokevirtual 90, 3) := by decide +kernel
theorem dX0_improve_49 : decode cX0_improve 49 = .ok (.istore 7, 2) := by decide +kernel
theorem dX0_improve_51 : decode cX0_improve 51 = .ok (.iload 7, 2) := by decide +kernel
theorem dX0_improve_53 : decode cX0_improve 53 = .ok (.iload_n 2, 1) := by decide +kernel
theorem dX0_improve_54 : decode cX0_improve 54 = .ok (.if_icmp .ge 13, 3) := by decide +kernel
theorem dX0_improve_57 : decode cX0_improve 57 = .ok (.iload 7, 2) := by decide +kernel
theorem dX0_improve_59 : decode cX0_improve 59 = .ok (.istore_n 2, 1) := by decide +kernel
theorem dX0_improve_60 : decode cX0_improve 60 = .ok (.iload 5, 2) := by decide +kernel
theorem dX0_improve_62 : decode cX0_improve 62 = .ok (.istore_n 3, 1) := by decide +kernel
theorem dX0_improve_63 : decode cX0_improve 63 = .ok (.iload 6, 2) := by decide +kernel
theorem dX0_improve_65 : decode cX0_improve 65 = .ok (.istore 4, 2) := by decide +kernel
theorem dX0_improve_67 : decode cX0_improve 67 = .ok (.iinc 6 1, 3) := by decide +kernel
theorem dX0_improve_70 : decode cX0_improve 70 = .ok (.goto (-42), 3) := by decide +kernel
theorem dX0_improve_73 : decode cX0_improve 73 = .ok (.iinc 5 1, 3) := by decide +kernel
theorem dX0_improve_76 : decode cX0_improve 76 = .ok (.goto (-60), 3) := by decide +kernel
theorem dX0_improve_79 : decode cX0_improve 79 = .ok (.iload_n 2, 1) := by decide +kernel
theorem dX0_improve_80 : decode cX0_improve 80 = .ok (.iload_n 1, 1) := by decide +kernel
theorem dX0_improve_81 : decode cX0_improve 81 = .ok (.if_icmp .ge 13, 3) := by decide +kernel
theorem dX0_improve_84 : decode cX0_improve 84 = .ok (.aload_n 0, 1) := by decide +kernel
theorem dX0_improve_85 : decode cX0_improve 85 = .ok (.getfield 29, 3) := by decide +kernel
theorem dX0_improve_88 : decode cX0_improve 88 = .ok (.iload_n 3, 1) := by decide +kernel
theorem dX0_improve_89 : decode cX0_improve 89 = .ok (.iload 4, 2) := by decide +kernel
theorem dX0_improve_91 : decode cX0_improve 91 = .ok (.invokestatic 86, 3) := by decide +kernel
theorem dX0_improve_94 : decode cX0_improve 94 = .ok (.iload_n 1, 1) := by decide +kernel
theorem dX0_improve_95 : decode cX0_improve 95 = .ok (.iload_n 2, 1) := by decide +kernel
theorem dX0_improve_96 : decode cX0_improve 96 = .ok (.isub, 1) := by decide +kernel
theorem dX0_improve_97 : decode cX0_improve 97 = .ok (.ireturn, 1) := by decide +kernel
set_option maxRecDepth 20000 in
theorem ggX0_makespan_X0_requireVariant : GoodIn wsX0_makespan wsX0_requireVariant := goodIn_ca (goodIn_r _ [4, 5, 6] (by decide +kernel) (by decide +kernel)) (goodIn_sub (fun _ h => List.mem_cons_of_mem _ (List.mem_append_right _ h)) (by decide +kernel))
set_option maxRecDepth 20000 in
theorem gX0_makespan_X0_requireVariant : GoodIn wsX0_makespan (va_wsS RX0 108 yX0_requireVariant wsX0_requireVariant) := goodIn_app (goodIn_of _ (by decide +kernel)) ggX0_makespan_X0_requireVariant
set_option maxRecDepth 20000 in
theorem ggX0_makespan_X0_scheduleOrder : GoodIn wsX0_makespan wsX0_scheduleOrder := goodIn_r _ [10, 11, 12, 13, 14, 15, 3, 16, 17, 18, 19, 20, 21, 22, 23, 24, 25, 26, 27, 28, 29, 30, 31, 32, 33, 34, 35, 36, 37, 38, 39, 40, 41, 42, 43, 44, 45, 46, 47, 48, 49, 50, 51, 52, 53, 54, 55, 56] (by decide +kernel) (by decide +kernel)
set_option maxRecDepth 20000 in
theorem gX0_makespan_X0_scheduleOrder : GoodIn wsX0_makespan (wsV RX0 99 RX0 yX0_scheduleOrder wsX0_scheduleOrder) := goodIn_app (goodIn_of _ (by decide +kernel)) ggX0_makespan_X0_scheduleOrder
theorem dX0_makespan_0 : decode cX0_makespan 0 = .ok (.iload_n 1, 1) := by decide +kernel
theorem dX0_makespan_1 : decode cX0_makespan 1 = .ok (.invokestatic 108, 3) := by decide +kernel
theorem dX0_makespan_4 : decode cX0_makespan 4 = .ok (.aload_n 0, 1) := by decide +kernel
theorem dX0_makespan_5 : decode cX0_makespan 5 = .ok (.iload_n 1, 1) := by decide +kernel
theorem dX0_makespan_6 : decode cX0_makespan 6 = .ok (.invokevirtual 99, 3) := by decide +kernel
theorem dX0_makespan_9 : decode cX0_makespan 9 = .ok (.ireturn, 1) := by decide +kernel
set_option maxRecDepth 20000 in
theorem ggX0_begin_X0_requireVariant : GoodIn wsX0_begin wsX0_requireVariant := goodIn_ca (goodIn_r _ [5, 6, 7] (by decide +kernel) (by decide +kernel)) (goodIn_sub (fun _ h => List.mem_cons_of_mem _ (List.mem_append_left _ (List.mem_append_right _ h))) (by decide +kernel))
set_option maxRecDepth 20000 in
theorem gX0_begin_X0_requireVariant : GoodIn wsX0_begin (va_wsS RX0 108 yX0_requireVariant wsX0_requireVariant) := goodIn_app (goodIn_of _ (by decide +kernel)) ggX0_begin_X0_requireVariant
set_option maxRecDepth 20000 in
theorem ggX0_begin_X0_requirePlace : GoodIn wsX0_begin wsX0_requirePlace := goodIn_ca (goodIn_r _ [11, 12, 13, 14, 54, 55, 56, 57, 58, 59, 60, 61, 62, 63, 64, 65, 66] (by decide +kernel) (by decide +kernel)) (goodIn_sub (fun _ h => List.mem_cons_of_mem _ (List.mem_append_right _ h)) (by decide +kernel))
set_option maxRecDepth 20000 in
theorem gX0_begin_X0_requirePlace : GoodIn wsX0_begin (wsV RX0 79 RX0 yX0_requirePlace wsX0_requirePlace) := goodIn_app (goodIn_of _ (by decide +kernel)) ggX0_begin_X0_requirePlace
set_option maxRecDepth 20000 in
theorem ggX0_begin_X0_requireMachine : GoodIn wsX0_begin wsX0_requireMachine := goodIn_ca (goodIn_r _ [18, 12, 13, 19, 54, 55, 56, 57, 58, 59, 60, 61, 62, 63, 64, 65, 66] (by decide +kernel) (by decide +kernel)) (goodIn_sub (fun _ h => List.mem_cons_of_mem _ (List.mem_append_right _ h)) (by decide +kernel))
set_option maxRecDepth 20000 in
theorem gX0_begin_X0_requireMachine : GoodIn wsX0_begin (wsV RX0 74 RX0 yX0_requireMachine wsX0_requireMachine) := goodIn_app (goodIn_of _ (by decide +kernel)) ggX0_begin_X0_requireMachine
set_option maxRecDepth 20000 in
theorem ggX0_begin_X0_scheduleOrder : GoodIn wsX0_begin wsX0_scheduleOrder := goodIn_r _ [23, 14, 24, 25, 26, 27, 4, 28, 19, 29, 30, 31, 32, 1, 33, 34, 35, 36, 37, 38, 39, 40, 41, 42, 43, 44, 45, 46, 47, 48, 49, 50, 51, 52, 53, 54, 55, 56, 57, 58, 59, 60, 61, 62, 63, 64, 65, 66] (by decide +kernel) (by decide +kernel)
set_option maxRecDepth 20000 in
theorem gX0_begin_X0_scheduleOrder : GoodIn wsX0_begin (wsV RX0 99 RX0 yX0_scheduleOrder wsX0_scheduleOrder) := goodIn_app (goodIn_of _ (by decide +kernel)) ggX0_begin_X0_scheduleOrder
set_option maxRecDepth 20000 in
theorem ggX0_begin_X0_cell : GoodIn wsX0_begin wsX0_cell := goodIn_r _ [44] (by decide +kernel) (by decide +kernel)
set_option maxRecDepth 20000 in
theorem gX0_begin_X0_cell : GoodIn wsX0_begin (va_wsS RX0 66 yX0_cell wsX0_cell) := goodIn_app (goodIn_of _ (by decide +kernel)) ggX0_begin_X0_cell
theorem dX0_begin_0 : decode cX0_begin 0 = .ok (.iload_n 1, 1) := by decide +kernel
theorem dX0_begin_1 : decode cX0_begin 1 = .ok (.invokestatic 108, 3) := by decide +kernel
theorem dX0_begin_4 : decode cX0_begin 4 = .ok (.aload_n 0, 1) := by decide +kernel
theorem dX0_begin_5 : decode cX0_begin 5 = .ok (.iload_n 2, 1) := by decide +kernel
theorem dX0_begin_6 : decode cX0_begin 6 = .ok (.invokevirtual 79, 3) := by decide +kernel
theorem dX0_begin_9 : decode cX0_begin 9 = .ok (.aload_n 0, 1) := by decide +kernel
theorem dX0_begin_10 : decode cX0_begin 10 = .ok (.iload_n 3, 1) := by decide +kernel
theorem dX0_begin_11 : decode cX0_begin 11 = .ok (.invokevirtual 74, 3) := by decide +kernel
theorem dX0_begin_14 : decode cX0_begin 14 = .ok (.aload_n 0, 1) := by decide +kernel
theorem dX0_begin_15 : decode cX0_begin 15 = .ok (.iload_n 1, 1) := by decide +kernel
theorem dX0_begin_16 : decode cX0_begin 16 = .ok (.invokevirtual 99, 3) := by decide +kernel
theorem dX0_begin_19 : decode cX0_begin 19 = .ok (.pop, 1) := by decide +kernel
theorem dX0_begin_20 : decode cX0_begin 20 = .ok (.aload_n 0, 1) := by decide +kernel
theorem dX0_begin_21 : decode cX0_begin 21 = .ok (.getfield 20, 3) := by decide +kernel
theorem dX0_begin_24 : decode cX0_begin 24 = .ok (.iload_n 2, 1) := by decide +kernel
theorem dX0_begin_25 : decode cX0_begin 25 = .ok (.iload_n 3, 1) := by decide +kernel
theorem dX0_begin_26 : decode cX0_begin 26 = .ok (.invokestatic 66, 3) := by decide +kernel
theorem dX0_begin_29 : decode cX0_begin 29 = .ok (.iaload, 1) := by decide +kernel
theorem dX0_begin_30 : decode cX0_begin 30 = .ok (.ireturn, 1) := by decide +kernel
set_option maxRecDepth 20000 in
theorem ggX0_totalTime_X0_scheduleOrder : GoodIn wsX0_totalTime wsX0_scheduleOrder := goodIn_r _ [8, 1, 9, 10, 11, 12, 7, 13, 3, 14, 15, 16, 17, 18, 2, 19, 20, 21, 22, 23, 24, 25, 26, 27, 28, 29, 30, 31, 32, 33, 34, 35, 36, 37, 38, 39, 40, 41, 42, 43, 44, 45, 46, 47, 48, 49, 50, 51] (by decide +kernel) (by decide +kernel)
set_option maxRecDepth 20000 in
theorem gX0_totalTime_X0_scheduleOrder : GoodIn wsX0_totalTime (wsV RX0 99 RX0 yX0_scheduleOrder wsX0_scheduleOrder) := goodIn_app (goodIn_of _ (by decide +kernel)) ggX0_totalTime_X0_scheduleOrder
set_option maxRecDepth 20000 in
theorem ggX0_totalTime_X0_cell : GoodIn wsX0_totalTime wsX0_cell := goodIn_r _ [29] (by decide +kernel) (by decide +kernel)
set_option maxRecDepth 20000 in
theorem gX0_totalTime_X0_cell : GoodIn wsX0_totalTime (va_wsS RX0 66 yX0_cell wsX0_cell) := goodIn_app (goodIn_of _ (by decide +kernel)) ggX0_totalTime_X0_cell
theorem dX0_totalTime_0 : decode cX0_totalTime 0 = .ok (.aload_n 0, 1) := by decide +kernel
theorem dX0_totalTime_1 : decode cX0_totalTime 1 = .ok (.iconst 0, 1) := by decide +kernel
theorem dX0_totalTime_2 : decode cX0_totalTime 2 = .ok (.invokevirtual 99, 3) := by decide +kernel
theorem dX0_totalTime_5 : decode cX0_totalTime 5 = .ok (.pop, 1) := by decide +kernel
theorem dX0_totalTime_6 : decode cX0_totalTime 6 = .ok (.iconst 0, 1) := by decide +kernel
theorem dX0_totalTime_7 : decode cX0_totalTime 7 = .ok (.istore_n 1, 1) := by decide +kernel
theorem dX0_totalTime_8 : decode cX0_totalTime 8 = .ok (.iconst 0, 1) := by decide +kernel
theorem dX0_totalTime_9 : decode cX0_totalTime 9 = .ok (.istore_n 2, 1) := by decide +kernel
theorem dX0_totalTime_10 : decode cX0_totalTime 10 = .ok (.iload_n 2, 1) := by decide +kernel
theorem dX0_totalTime_11 : decode cX0_totalTime 11 = .ok (.aload_n 0, 1) := by decide +kernel
theorem dX0_totalTime_12 : decode cX0_totalTime 12 = .ok (.getfield 7, 3) := by decide +kernel
theorem dX0_totalTime_15 : decode cX0_totalTime 15 = .ok (.if_icmp .ge 27, 3) := by decide +kernel
theorem dX0_totalTime_18 : decode cX0_totalTime 18 = .ok (.iload_n 1, 1) := by decide +kernel
theorem dX0_totalTime_19 : decode cX0_totalTime 19 = .ok (.aload_n 0, 1) := by decide +kernel
theorem dX0_totalTime_20 : decode cX0_totalTime 20 = .ok (.getfield 23, 3) := by decide +kernel
theorem dX0_totalTime_23 : decode cX0_totalTime 23 = .ok (.iload_n 2, 1) := by decide +kernel
theorem dX0_totalTime_24 : decode cX0_totalTime 24 = .ok (.aload_n 0, 1) := by decide +kernel
theorem dX0_totalTime_25 : decode cX0_totalTime 25 = .ok (.getfield 13, 3) := by decide +kernel
theorem dX0_totalTime_28 : decode cX0_totalTime 28 = .ok (.iconst 1, 1) := by decide +kernel
theorem dX0_totalTime_29 : decode cX0_totalTime 29 = .ok (.isub, 1) := by decide +kernel
theorem dX0_totalTime_30 : decode cX0_totalTime 30 = .ok (.invokestatic 66, 3) := by decide +kernel
theorem dX0_totalTime_33 : decode cX0_totalTime 33 = .ok (.iaload, 1) := by decide +kernel
theorem dX0_totalTime_34 : decode cX0_totalTime 34 = .ok (.iadd, 1) := by decide +kernel
theorem dX0_totalTime_35 : decode cX0_totalTime 35 = .ok (.istore_n 1, 1) := by decide +kernel
theorem dX0_totalTime_36 : decode cX0_totalTime 36 = .ok (.iinc 2 1, 3) := by decide +kernel
theorem dX0_totalTime_39 : decode cX0_totalTime 39 = .ok (.goto (-29), 3) := by decide +kernel
theorem dX0_totalTime_42 : decode cX0_totalTime 42 = .ok (.iload_n 1, 1) := by decide +kernel
theorem dX0_totalTime_43 : decode cX0_totalTime 43 = .ok (.ireturn, 1) := by decide +kernel
set_option maxRecDepth 20000 in
theorem ggX0_head_X0_requirePlace : GoodIn wsX0_head wsX0_requirePlace := goodIn_ca (goodIn_r _ [6, 7, 8, 9, 49, 50, 51, 52, 53, 54, 55, 56, 57, 58, 59, 60, 61] (by decide +kernel) (by decide +kernel)) (goodIn_sub (fun _ h => List.mem_cons_of_mem _ (List.mem_append_right _ h)) (by decide +kernel))
set_option maxRecDepth 20000 in
theorem gX0_head_X0_requirePlace : GoodIn wsX0_head (wsV RX0 79 RX0 yX0_requirePlace wsX0_requirePlace) := goodIn_app (goodIn_of _ (by decide +kernel)) ggX0_head_X0_requirePlace
set_option maxRecDepth 20000 in
theorem ggX0_head_X0_requireMachine : GoodIn wsX0_head wsX0_requireMachine := goodIn_ca (goodIn_r _ [13, 7, 8, 14, 49, 50, 51, 52, 53, 54, 55, 56, 57, 58, 59, 60, 61] (by decide +kernel) (by decide +kernel)) (goodIn_sub (fun _ h => List.mem_cons_of_mem _ (List.mem_append_right _ h)) (by decide +kernel))
set_option maxRecDepth 20000 in
theorem gX0_head_X0_requireMachine : GoodIn wsX0_head (wsV RX0 74 RX0 yX0_requireMachine wsX0_requireMachine) := goodIn_app (goodIn_of _ (by decide +kernel)) ggX0_head_X0_requireMachine
set_option maxRecDepth 20000 in
theorem ggX0_head_X0_scheduleOrder : GoodIn wsX0_head wsX0_scheduleOrder := goodIn_r _ [18, 9, 19, 20, 21, 22, 5, 23, 14, 24, 25, 26, 27, 28, 1, 29, 30, 31, 32, 33, 34, 35, 36, 37, 38, 39, 40, 41, 42, 43, 44, 45, 46, 47, 48, 49, 50, 51, 52, 53, 54, 55, 56, 57, 58, 59, 60, 61] (by decide +kernel) (by decide +kernel)
set_option maxRecDepth 20000 in
theorem gX0_head_X0_scheduleOrder : GoodIn wsX0_head (wsV RX0 99 RX0 yX0_scheduleOrder wsX0_scheduleOrder) := goodIn_app (goodIn_of _ (by decide +kernel)) ggX0_head_X0_scheduleOrder
set_option maxRecDepth 20000 in
theorem ggX0_head_X0_cell : GoodIn wsX0_head wsX0_cell := goodIn_r _ [39] (by decide +kernel) (by decide +kernel)
set_option maxRecDepth 20000 in
theorem gX0_head_X0_cell : GoodIn wsX0_head (va_wsS RX0 66 yX0_cell wsX0_cell) := goodIn_app (goodIn_of _ (by decide +kernel)) ggX0_head_X0_cell
theorem dX0_head_0 : decode cX0_head 0 = .ok (.aload_n 0, 1) := by decide +kernel
theorem dX0_head_1 : decode cX0_head 1 = .ok (.iload_n 1, 1) := by decide +kernel
theorem dX0_head_2 : decode cX0_head 2 = .ok (.invokevirtual 79, 3) := by decide +kernel
theorem dX0_head_5 : decode cX0_head 5 = .ok (.aload_n 0, 1) := by decide +kernel
theorem dX0_head_6 : decode cX0_head 6 = .ok (.iload_n 2, 1) := by decide +kernel
theorem dX0_head_7 : decode cX0_head 7 = .ok (.invokevirtual 74, 3) := by decide +kernel
theorem dX0_head_10 : decode cX0_head 10 = .ok (.aload_n 0, 1) := by decide +kernel
theorem dX0_head_11 : decode cX0_head 11 = .ok (.iconst 0, 1) := by decide +kernel
theorem dX0_head_12 : decode cX0_head 12 = .ok (.invokevirtual 99, 3) := by decide +kernel
theorem dX0_head_15 : decode cX0_head 15 = .ok (.pop, 1) := by decide +kernel
theorem dX0_head_16 : decode cX0_head 16 = .ok (.aload_n 0, 1) := by decide +kernel
theorem dX0_head_17 : decode cX0_head 17 = .ok (.getfield 23, 3) := by decide +kernel
theorem dX0_head_20 : decode cX0_head 20 = .ok (.iload_n 1, 1) := by decide +kernel
theorem dX0_head_21 : decode cX0_head 21 = .ok (.iload_n 2, 1) := by decide +kernel
theorem dX0_head_22 : decode cX0_head 22 = .ok (.invokestatic 66, 3) := by decide +kernel
theorem dX0_head_25 : decode cX0_head 25 = .ok (.iaload, 1) := by decide +kernel
theorem dX0_head_26 : decode cX0_head 26 = .ok (.ireturn, 1) := by decide +kernel
set_option maxRecDepth 20000 in
theorem ggX0_tail_X0_requirePlace : GoodIn wsX0_tail wsX0_requirePlace := goodIn_ca (goodIn_r _ [6, 7, 8, 9, 32, 33, 34, 35, 36, 37, 38, 39, 40, 41, 42, 43, 44] (by decide +kernel) (by decide +kernel)) (goodIn_sub (fun _ h => List.mem_cons_of_mem _ (List.mem_append_right _ h)) (by decide +kernel))
set_option maxRecDepth 20000 in
theorem gX0_tail_X0_requirePlace : GoodIn wsX0_tail (wsV RX0 79 RX0 yX0_requirePlace wsX0_requirePlace) := goodIn_app (goodIn_of _ (by decide +kernel)) ggX0_tail_X0_requirePlace
set_option maxRecDepth 20000 in
theorem ggX0_tail_X0_requireMachine : GoodIn wsX0_tail wsX0_requireMachine := goodIn_ca (goodIn_r _ [13, 7, 8, 14, 32, 33, 34, 35, 36, 37, 38, 39, 40, 41, 42, 43, 44] (by decide +kernel) (by decide +kernel)) (goodIn_sub (fun _ h => List.mem_cons_of_mem _ (List.mem_append_right _ h)) (by decide +kernel))
set_option maxRecDepth 20000 in
theorem gX0_tail_X0_requireMachine : GoodIn wsX0_tail (wsV RX0 74 RX0 yX0_requireMachine wsX0_requireMachine) := goodIn_app (goodIn_of _ (by decide +kernel)) ggX0_tail_X0_requireMachine
set_option maxRecDepth 20000 in
theorem ggX0_tail_X0_fillTails : GoodIn wsX0_tail wsX0_fillTails := goodIn_r _ [18, 9, 14, 1, 19, 20, 21, 22, 23, 24, 25, 5, 26, 27, 28, 29, 30, 31, 32, 33, 34, 35, 36, 37, 38, 39, 40, 41, 42, 43, 44] (by decide +kernel) (by decide +kernel)
set_option maxRecDepth 20000 in
theorem gX0_tail_X0_fillTails : GoodIn wsX0_tail (wsV RX0 111 RX0 yX0_fillTails wsX0_fillTails) := goodIn_app (goodIn_of _ (by decide +kernel)) ggX0_tail_X0_fillTails
set_option maxRecDepth 20000 in
theorem ggX0_tail_X0_cell : GoodIn wsX0_tail wsX0_cell := goodIn_r _ [26] (by decide +kernel) (by decide +kernel)
set_option maxRecDepth 20000 in
theorem gX0_tail_X0_cell : GoodIn wsX0_tail (va_wsS RX0 66 yX0_cell wsX0_cell) := goodIn_app (goodIn_of _ (by decide +kernel)) ggX0_tail_X0_cell
theorem dX0_tail_0 : decode cX0_tail 0 = .ok (.aload_n 0, 1) := by decide +kernel
theorem dX0_tail_1 : decode cX0_tail 1 = .ok (.iload_n 1, 1) := by decide +kernel
theorem dX0_tail_2 : decode cX0_tail 2 = .ok (.invokevirtual 79, 3) := by decide +kernel
theorem dX0_tail_5 : decode cX0_tail 5 = .ok (.aload_n 0, 1) := by decide +kernel
theorem dX0_tail_6 : decode cX0_tail 6 = .ok (.iload_n 2, 1) := by decide +kernel
theorem dX0_tail_7 : decode cX0_tail 7 = .ok (.invokevirtual 74, 3) := by decide +kernel
theorem dX0_tail_10 : decode cX0_tail 10 = .ok (.aload_n 0, 1) := by decide +kernel
theorem dX0_tail_11 : decode cX0_tail 11 = .ok (.invokevirtual 111, 3) := by decide +kernel
theorem dX0_tail_14 : decode cX0_tail 14 = .ok (.aload_n 0, 1) := by decide +kernel
theorem dX0_tail_15 : decode cX0_tail 15 = .ok (.getfield 26, 3) := by decide +kernel
theorem dX0_tail_18 : decode cX0_tail 18 = .ok (.iload_n 1, 1) := by decide +kernel
theorem dX0_tail_19 : decode cX0_tail 19 = .ok (.iload_n 2, 1) := by decide +kernel
theorem dX0_tail_20 : decode cX0_tail 20 = .ok (.invokestatic 66, 3) := by decide +kernel
theorem dX0_tail_23 : decode cX0_tail 23 = .ok (.iaload, 1) := by decide +kernel
theorem dX0_tail_24 : decode cX0_tail 24 = .ok (.ireturn, 1) := by decide +kernel
set_option maxRecDepth 20000 in
theorem ggX0_isCritical_X0_requirePlace : GoodIn wsX0_isCritical wsX0_requirePlace := goodIn_ca (goodIn_r _ [8, 9, 10, 11, 54, 55, 56, 57, 58, 59, 60, 61, 62, 63, 64, 65, 66] (by decide +kernel) (by decide +kernel)) (goodIn_sub (fun _ h => List.mem_cons_of_mem _ (List.mem_append_right _ h)) (by decide +kernel))
set_option maxRecDepth 20000 in
theorem gX0_isCritical_X0_requirePlace : GoodIn wsX0_isCritical (wsV RX0 79 RX0 yX0_requirePlace wsX0_requirePlace) := goodIn_app (goodIn_of _ (by decide +kernel)) ggX0_isCritical_X0_requirePlace
set_option maxRecDepth 20000 in
theorem ggX0_isCritical_X0_requireMachine : GoodIn wsX0_isCritical wsX0_requireMachine := goodIn_ca (goodIn_r _ [15, 9, 10, 16, 54, 55, 56, 57, 58, 59, 60, 61, 62, 63, 64, 65, 66] (by decide +kernel) (by decide +kernel)) (goodIn_sub (fun _ h => List.mem_cons_of_mem _ (List.mem_append_right _ h)) (by decide +kernel))
set_option maxRecDepth 20000 in
theorem gX0_isCritical_X0_requireMachine : GoodIn wsX0_isCritical (wsV RX0 74 RX0 yX0_requireMachine wsX0_requireMachine) := goodIn_app (goodIn_of _ (by decide +kernel)) ggX0_isCritical_X0_requireMachine
set_option maxRecDepth 20000 in
theorem ggX0_isCritical_X0_scheduleOrder : GoodIn wsX0_isCritical wsX0_scheduleOrder := goodIn_r _ [20, 11, 3, 21, 22, 23, 7, 24, 16, 25, 26, 27, 28, 29, 1, 30, 31, 32, 33, 34, 35, 36, 37, 38, 39, 40, 41, 42, 43, 44, 45, 46, 47, 48, 49, 54, 55, 56, 57, 58, 59, 60, 61, 62, 63, 64, 65, 66] (by decide +kernel) (by decide +kernel)
set_option maxRecDepth 20000 in
theorem gX0_isCritical_X0_scheduleOrder : GoodIn wsX0_isCritical (wsV RX0 99 RX0 yX0_scheduleOrder wsX0_scheduleOrder) := goodIn_app (goodIn_of _ (by decide +kernel)) ggX0_isCritical_X0_scheduleOrder
set_option maxRecDepth 20000 in
theorem ggX0_isCritical_X0_fillTails : GoodIn wsX0_isCritical wsX0_fillTails := goodIn_r _ [53, 11, 16, 2, 25, 26, 27, 28, 3, 38, 39, 7, 40, 41, 42, 43, 44, 45, 54, 55, 56, 57, 58, 59, 60, 61, 62, 63, 64, 65, 66] (by decide +kernel) (by decide +kernel)
set_option maxRecDepth 20000 in
theorem gX0_isCritical_X0_fillTails : GoodIn wsX0_isCritical (wsV RX0 111 RX0 yX0_fillTails wsX0_fillTails) := goodIn_app (goodIn_of _ (by decide +kernel)) ggX0_isCritical_X0_fillTails
set_option maxRecDepth 20000 in
theorem ggX0_isCritical_X0_cell : GoodIn wsX0_isCritical wsX0_cell := goodIn_r _ [40] (by decide +kernel) (by decide +kernel)
set_option maxRecDepth 20000 in
theorem gX0_isCritical_X0_cell : GoodIn wsX0_isCritical (va_wsS RX0 66 yX0_cell wsX0_cell) := goodIn_app (goodIn_of _ (by decide +kernel)) ggX0_isCritical_X0_cell
set_option maxRecDepth 20000 in
theorem ggX0_isCritical_X0_timeOf : GoodIn wsX0_isCritical wsX0_timeOf := goodIn_r _ [44, 45, 38, 39, 7, 40, 54, 55, 56, 57, 58, 59, 60, 61, 62, 63, 64, 65, 66] (by decide +kernel) (by decide +kernel)
set_option maxRecDepth 20000 in
theorem gX0_isCritical_X0_timeOf : GoodIn wsX0_isCritical (wsV RX0 114 RX0 yX0_timeOf wsX0_timeOf) := goodIn_app (goodIn_of _ (by decide +kernel)) ggX0_isCritical_X0_timeOf
theorem dX0_isCritical_0 : decode cX0_isCritical 0 = .ok (.aload_n 0, 1) := by decide +kernel
theorem dX0_isCritical_1 : decode cX0_isCritical 1 = .ok (.iload_n 1, 1) := by decide +kernel
theorem dX0_isCritical_2 : decode cX0_isCritical 2 = .ok (.invokevirtual 79, 3) := by decide +kernel
theorem dX0_isCritical_5 : decode cX0_isCritical 5 = .ok (.aload_n 0, 1) := by decide +kernel
theorem dX0_isCritical_6 : decode cX0_isCritical 6 = .ok (.iload_n 2, 1) := by decide +kernel
theorem dX0_isCritical_7 : decode cX0_isCritical 7 = .ok (.invokevirtual 74, 3) := by decide +kernel
theorem dX0_isCritical_10 : decode cX0_isCritical 10 = .ok (.aload_n 0, 1) := by decide +kernel
theorem dX0_isCritical_11 : decode cX0_isCritical 11 = .ok (.iconst 0, 1) := by decide +kernel
theorem dX0_isCritical_12 : decode cX0_isCritical 12 = .ok (.invokevirtual 99, 3) := by decide +kernel
theorem dX0_isCritical_15 : decode cX0_isCritical 15 = .ok (.istore_n 3, 1) := by decide +kernel
theorem dX0_isCritical_16 : decode cX0_isCritical 16 = .ok (.aload_n 0, 1) := by decide +kernel
theorem dX0_isCritical_17 : decode cX0_isCritical 17 = .ok (.invokevirtual 111, 3) := by decide +kernel
theorem dX0_isCritical_20 : decode cX0_isCritical 20 = .ok (.iload_n 1, 1) := by decide +kernel
theorem dX0_isCritical_21 : decode cX0_isCritical 21 = .ok (.iload_n 2, 1) := by decide +kernel
theorem dX0_isCritical_22 : decode cX0_isCritical 22 = .ok (.invokestatic 66, 3) := by decide +kernel
theorem dX0_isCritical_25 : decode cX0_isCritical 25 = .ok (.istore 4, 2) := by decide +kernel
theorem dX0_isCritical_27 : decode cX0_isCritical 27 = .ok (.aload_n 0, 1) := by decide +kernel
theorem dX0_isCritical_28 : decode cX0_isCritical 28 = .ok (.getfield 23, 3) := by decide +kernel
theorem dX0_isCritical_31 : decode cX0_isCritical 31 = .ok (.iload 4, 2) := by decide +kernel
theorem dX0_isCritical_33 : decode cX0_isCritical 33 = .ok (.iaload, 1) := by decide +kernel
theorem dX0_isCritical_34 : decode cX0_isCritical 34 = .ok (.aload_n 0, 1) := by decide +kernel
theorem dX0_isCritical_35 : decode cX0_isCritical 35 = .ok (.getfield 26, 3) := by decide +kernel
theorem dX0_isCritical_38 : decode cX0_isCritical 38 = .ok (.iload 4, 2) := by decide +kernel
theorem dX0_isCritical_40 : decode cX0_isCritical 40 = .ok (.iaload, 1) := by decide +kernel
theorem dX0_isCritical_41 : decode cX0_isCritical 41 = .ok (.iadd, 1) := by decide +kernel
theorem dX0_isCritical_42 : decode cX0_isCritical 42 = .ok (.aload_n 0, 1) := by decide +kernel
theorem dX0_isCritical_43 : decode cX0_isCritical 43 = .ok (.aload_n 0, 1) := by decide +kernel
theorem dX0_isCritical_44 : decode cX0_isCritical 44 = .ok (.getfield 29, 3) := by decide +kernel
theorem dX0_isCritical_47 : decode cX0_isCritical 47 = .ok (.iload_n 1, 1) := by decide +kernel
theorem dX0_isCritical_48 : decode cX0_isCritical 48 = .ok (.iaload, 1) := by decide +kernel
theorem dX0_isCritical_49 : decode cX0_isCritical 49 = .ok (.iload_n 2, 1) := by decide +kernel
theorem dX0_isCritical_50 : decode cX0_isCritical 50 = .ok (.invokevirtual 114, 3) := by decide +kernel
theorem dX0_isCritical_53 : decode cX0_isCritical 53 = .ok (.isub, 1) := by decide +kernel
theorem dX0_isCritical_54 : decode cX0_isCritical 54 = .ok (.iload_n 3, 1) := by decide +kernel
theorem dX0_isCritical_55 : decode cX0_isCritical 55 = .ok (.if_icmp .ne 7, 3) := by decide +kernel
theorem dX0_isCritical_58 : decode cX0_isCritical 58 = .ok (.iconst 1, 1) := by decide +kernel
theorem dX0_isCritical_59 : decode cX0_isCritical 59 = .ok (.goto 4, 3) := by decide +kernel
theorem dX0_isCritical_62 : decode cX0_isCritical 62 = .ok (.iconst 0, 1) := by decide +kernel
theorem dX0_isCritical_63 : decode cX0_isCritical 63 = .ok (.ireturn, 1) := by decide +kernel
set_option maxRecDepth 20000 in
theorem ggX0_idle_X0_requireVariant : GoodIn wsX0_idle wsX0_requireVariant := goodIn_ca (goodIn_r _ [7, 8, 9] (by decide +kernel) (by decide +kernel)) (goodIn_sub (fun _ h => List.mem_cons_of_mem _ (List.mem_append_left _ (List.mem_append_right _ h))) (by decide +kernel))
set_option maxRecDepth 20000 in
theorem gX0_idle_X0_requireVariant : GoodIn wsX0_idle (va_wsS RX0 108 yX0_requireVariant wsX0_requireVariant) := goodIn_app (goodIn_of _ (by decide +kernel)) ggX0_idle_X0_requireVariant
set_option maxRecDepth 20000 in
theorem ggX0_idle_X0_requireMachine : GoodIn wsX0_idle wsX0_requireMachine := goodIn_ca (goodIn_r _ [13, 14, 15, 16, 54, 55, 56, 57, 58, 59, 60, 61, 62, 63, 64, 65, 66] (by decide +kernel) (by decide +kernel)) (goodIn_sub (fun _ h => List.mem_cons_of_mem _ (List.mem_append_right _ h)) (by decide +kernel))
set_option maxRecDepth 20000 in
theorem gX0_idle_X0_requireMachine : GoodIn wsX0_idle (wsV RX0 74 RX0 yX0_requireMachine wsX0_requireMachine) := goodIn_app (goodIn_of _ (by decide +kernel)) ggX0_idle_X0_requireMachine
set_option maxRecDepth 20000 in
theorem ggX0_idle_X0_scheduleOrder : GoodIn wsX0_idle wsX0_scheduleOrder := goodIn_r _ [20, 1, 21, 22, 23, 24, 6, 25, 16, 26, 27, 28, 29, 3, 2, 30, 31, 32, 33, 34, 35, 36, 37, 38, 39, 40, 41, 42, 43, 44, 45, 46, 47, 48, 49, 54, 55, 56, 57, 58, 59, 60, 61, 62, 63, 64, 65, 66] (by decide +kernel) (by decide +kernel)
set_option maxRecDepth 20000 in
theorem gX0_idle_X0_scheduleOrder : GoodIn wsX0_idle (wsV RX0 99 RX0 yX0_scheduleOrder wsX0_scheduleOrder) := goodIn_app (goodIn_of _ (by decide +kernel)) ggX0_idle_X0_scheduleOrder
set_option maxRecDepth 20000 in
theorem ggX0_idle_X0_cell : GoodIn wsX0_idle wsX0_cell := goodIn_r _ [40] (by decide +kernel) (by decide +kernel)
set_option maxRecDepth 20000 in
theorem gX0_idle_X0_cell : GoodIn wsX0_idle (va_wsS RX0 66 yX0_cell wsX0_cell) := goodIn_app (goodIn_of _ (by decide +kernel)) ggX0_idle_X0_cell
set_option maxRecDepth 20000 in
theorem ggX0_idle_X0_loadOf : GoodIn wsX0_idle wsX0_loadOf := goodIn_r _ [53, 1, 41, 42, 43, 6, 44, 45, 38, 39, 40, 54, 55, 56, 57, 58, 59, 60, 61, 62, 63, 64, 65, 66] (by decide +kernel) (by decide +kernel)
set_option maxRecDepth 20000 in
theorem gX0_idle_X0_loadOf : GoodIn wsX0_idle (wsV RX0 117 RX0 yX0_loadOf wsX0_loadOf) := goodIn_app (goodIn_of _ (by decide +kernel)) ggX0_idle_X0_loadOf
theorem dX0_idle_0 : decode cX0_idle 0 = .ok (.iload_n 1, 1) := by decide +kernel
theorem dX0_idle_1 : decode cX0_idle 1 = .ok (.invokestatic 108, 3) := by decide +kernel
theorem dX0_idle_4 : decode cX0_idle 4 = .ok (.aload_n 0, 1) := by decide +kernel
theorem dX0_idle_5 : decode cX0_idle 5 = .ok (.iload_n 2, 1) := by decide +kernel
theorem dX0_idle_6 : decode cX0_idle 6 = .ok (.invokevirtual 74, 3) := by decide +kernel
theorem dX0_idle_9 : decode cX0_idle 9 = .ok (.aload_n 0, 1) := by decide +kernel
theorem dX0_idle_10 : decode cX0_idle 10 = .ok (.getfield 7, 3) := by decide +kernel
theorem dX0_idle_13 : decode cX0_idle 13 = .ok (.ifCond .ne 5, 3) := by decide +kernel
theorem dX0_idle_16 : decode cX0_idle 16 = .ok (.iconst 0, 1) := by decide +kernel
theorem dX0_idle_17 : decode cX0_idle 17 = .ok (.ireturn, 1) := by decide +kernel
theorem dX0_idle_18 : decode cX0_idle 18 = .ok (.aload_n 0, 1) := by decide +kernel
theorem dX0_idle_19 : decode cX0_idle 19 = .ok (.iload_n 1, 1) := by decide +kernel
theorem dX0_idle_20 : decode cX0_idle 20 = .ok (.invokevirtual 99, 3) := by decide +kernel
theorem dX0_idle_23 : decode cX0_idle 23 = .ok (.pop, 1) := by decide +kernel
theorem dX0_idle_24 : decode cX0_idle 24 = .ok (.aload_n 0, 1) := by decide +kernel
theorem dX0_idle_25 : decode cX0_idle 25 = .ok (.getfield 23, 3) := by decide +kernel
theorem dX0_idle_28 : decode cX0_idle 28 = .ok (.aload_n 0, 1) := by decide +kernel
theorem dX0_idle_29 : decode cX0_idle 29 = .ok (.getfield 7, 3) := by decide +kernel
theorem dX0_idle_32 : decode cX0_idle 32 = .ok (.iconst 1, 1) := by decide +kernel
theorem dX0_idle_33 : decode cX0_idle 33 = .ok (.isub, 1) := by decide +kernel
theorem dX0_idle_34 : decode cX0_idle 34 = .ok (.iload_n 2, 1) := by decide +kernel
theorem dX0_idle_35 : decode cX0_idle 35 = .ok (.invokestatic 66, 3) := by decide +kernel
theorem dX0_idle_38 : decode cX0_idle 38 = .ok (.iaload, 1) := by decide +kernel
theorem dX0_idle_39 : decode cX0_idle 39 = .ok (.aload_n 0, 1) := by decide +kernel
theorem dX0_idle_40 : decode cX0_idle 40 = .ok (.getfield 20, 3) := by decide +kernel
theorem dX0_idle_43 : decode cX0_idle 43 = .ok (.iconst 0, 1) := by decide +kernel
theorem dX0_idle_44 : decode cX0_idle 44 = .ok (.iload_n 2, 1) := by decide +kernel
theorem dX0_idle_45 : decode cX0_idle 45 = .ok (.invokestatic 66, 3) := by decide +kernel
theorem dX0_idle_48 : decode cX0_idle 48 = .ok (.iaload, 1) := by decide +kernel
theorem dX0_idle_49 : decode cX0_idle 49 = .ok (.isub, 1) := by decide +kernel
theorem dX0_idle_50 : decode cX0_idle 50 = .ok (.aload_n 0, 1) := by decide +kernel
theorem dX0_idle_51 : decode cX0_idle 51 = .ok (.iload_n 2, 1) := by decide +kernel
theorem dX0_idle_52 : decode cX0_idle 52 = .ok (.invokevirtual 117, 3) := by decide +kernel
theorem dX0_idle_55 : decode cX0_idle 55 = .ok (.isub, 1) := by decide +kernel
theorem dX0_idle_56 : decode cX0_idle 56 = .ok (.ireturn, 1) := by decide +kernel
set_option maxRecDepth 20000 in
theorem ggX0_machineBound_X0_requireMachine : GoodIn wsX0_machineBound wsX0_requireMachine := goodIn_ca (goodIn_r _ [6, 7, 8, 1, 34, 35, 36, 37, 38, 39, 40, 41, 42, 43, 44, 45, 46] (by decide +kernel) (by decide +kernel)) (goodIn_sub (fun _ h => List.mem_cons_of_mem _ (List.mem_append_right _ h)) (by decide +kernel))
set_option maxRecDepth 20000 in
theorem gX0_machineBound_X0_requireMachine : GoodIn wsX0_machineBound (wsV RX0 74 RX0 yX0_requireMachine wsX0_requireMachine) := goodIn_app (goodIn_of _ (by decide +kernel)) ggX0_machineBound_X0_requireMachine
set_option maxRecDepth 20000 in
theorem ggX0_machineBound_X0_loadOf : GoodIn wsX0_machineBound wsX0_loadOf := goodIn_r _ [12, 13, 14, 15, 16, 5, 17, 18, 19, 20, 21, 34, 35, 36, 37, 38, 39, 40, 41, 42, 43, 44, 45, 46] (by decide +kernel) (by decide +kernel)
set_option maxRecDepth 20000 in
theorem gX0_machineBound_X0_loadOf : GoodIn wsX0_machineBound (wsV RX0 117 RX0 yX0_loadOf wsX0_loadOf) := goodIn_app (goodIn_of _ (by decide +kernel)) ggX0_machineBound_X0_loadOf
set_option maxRecDepth 20000 in
theorem ggX0_machineBound_X0_leastSum : GoodIn wsX0_machineBound wsX0_leastSum := goodIn_r _ [25, 13, 26, 27, 28, 29, 30, 31, 32, 5, 33, 14, 15, 16, 17, 18, 19, 20, 21, 34, 35, 36, 37, 38, 39, 40, 41, 42, 43, 44, 45, 46] (by decide +kernel) (by decide +kernel)
set_option maxRecDepth 20000 in
theorem gX0_machineBound_X0_leastSum : GoodIn wsX0_machineBound (wsV RX0 120 RX0 yX0_leastSum wsX0_leastSum) := goodIn_app (goodIn_of _ (by decide +kernel)) ggX0_machineBound_X0_leastSum
theorem dX0_machineBound_0 : decode cX0_machineBound 0 = .ok (.aload_n 0, 1) := by decide +kernel
theorem dX0_machineBound_1 : decode cX0_machineBound 1 = .ok (.iload_n 1, 1) := by decide +kernel
theorem dX0_machineBound_2 : decode cX0_machineBound 2 = .ok (.invokevirtual 74, 3) := by decide +kernel
theorem dX0_machineBound_5 : decode cX0_machineBound 5 = .ok (.aload_n 0, 1) := by decide +kernel
theorem dX0_machineBound_6 : decode cX0_machineBound 6 = .ok (.iload_n 1, 1) := by decide +kernel
theorem dX0_machineBound_7 : decode cX0_machineBound 7 = .ok (.invokevirtual 117, 3) := by decide +kernel
theorem dX0_machineBound_10 : decode cX0_machineBound 10 = .ok (.aload_n 0, 1) := by decide +kernel
theorem dX0_machineBound_11 : decode cX0_machineBound 11 = .ok (.iconst 0, 1) := by decide +kernel
theorem dX0_machineBound_12 : decode cX0_machineBound 12 = .ok (.iload_n 1, 1) := by decide +kernel
theorem dX0_machineBound_13 : decode cX0_machineBound 13 = .ok (.invokevirtual 120, 3) := by decide +kernel
theorem dX0_machineBound_16 : decode cX0_machineBound 16 = .ok (.iadd, 1) := by decide +kernel
theorem dX0_machineBound_17 : decode cX0_machineBound 17 = .ok (.aload_n 0, 1) := by decide +kernel
theorem dX0_machineBound_18 : decode cX0_machineBound 18 = .ok (.iload_n 1, 1) := by decide +kernel
theorem dX0_machineBound_19 : decode cX0_machineBound 19 = .ok (.iconst 1, 1) := by decide +kernel
theorem dX0_machineBound_20 : decode cX0_machineBound 20 = .ok (.iadd, 1) := by decide +kernel
theorem dX0_machineBound_21 : decode cX0_machineBound 21 = .ok (.aload_n 0, 1) := by decide +kernel
theorem dX0_machineBound_22 : decode cX0_machineBound 22 = .ok (.getfield 13, 3) := by decide +kernel
theorem dX0_machineBound_25 : decode cX0_machineBound 25 = .ok (.invokevirtual 120, 3) := by decide +kernel
theorem dX0_machineBound_28 : decode cX0_machineBound 28 = .ok (.iadd, 1) := by decide +kernel
theorem dX0_machineBound_29 : decode cX0_machineBound 29 = .ok (.ireturn, 1) := by decide +kernel
set_option maxRecDepth 20000 in
theorem ggX0_pairBound_X0_requireMachine : GoodIn wsX0_pairBound wsX0_requireMachine := goodIn_ca (goodIn_r _ [8, 9, 10, 3, 48, 49, 50, 51, 52, 53, 54, 55, 56, 57, 58, 59, 60] (by decide +kernel) (by decide +kernel)) (goodIn_sub (fun _ h => List.mem_cons_of_mem _ (List.mem_append_right _ h)) (by decide +kernel))
set_option maxRecDepth 20000 in
theorem gX0_pairBound_X0_requireMachine : GoodIn wsX0_pairBound (wsV RX0 74 RX0 yX0_requireMachine wsX0_requireMachine) := goodIn_app (goodIn_of _ (by decide +kernel)) ggX0_pairBound_X0_requireMachine
set_option maxRecDepth 20000 in
theorem ggX0_pairBound_X0_leastOfPair : GoodIn wsX0_pairBound wsX0_leastOfPair := goodIn_r _ [14, 15, 16, 17, 18, 19, 20, 21, 22, 23, 7, 24, 25, 26, 27, 28, 29, 30, 31, 32, 33, 34, 35, 36, 48, 49, 50, 51, 52, 53, 54, 55, 56, 57, 58, 59, 60] (by decide +kernel) (by decide +kernel)
set_option maxRecDepth 20000 in
theorem gX0_pairBound_X0_leastOfPair : GoodIn wsX0_pairBound (wsV RX0 125 RX0 yX0_leastOfPair wsX0_leastOfPair) := goodIn_app (goodIn_of _ (by decide +kernel)) ggX0_pairBound_X0_leastOfPair
set_option maxRecDepth 20000 in
theorem ggX0_pairBound_X0_leastSum : GoodIn wsX0_pairBound wsX0_leastSum := goodIn_r _ [40, 16, 41, 42, 19, 43, 44, 45, 46, 7, 47, 29, 30, 31, 32, 33, 34, 35, 36, 48, 49, 50, 51, 52, 53, 54, 55, 56, 57, 58, 59, 60] (by decide +kernel) (by decide +kernel)
set_option maxRecDepth 20000 in
theorem gX0_pairBound_X0_leastSum : GoodIn wsX0_pairBound (wsV RX0 120 RX0 yX0_leastSum wsX0_leastSum) := goodIn_app (goodIn_of _ (by decide +kernel)) ggX0_pairBound_X0_leastSum
theorem dX0_pairBound_0 : decode cX0_pairBound 0 = .ok (.aload_n 0, 1) := by decide +kernel
theorem dX0_pairBound_1 : decode cX0_pairBound 1 = .ok (.iload_n 1, 1) := by decide +kernel
theorem dX0_pairBound_2 : decode cX0_pairBound 2 = .ok (.invokevirtual 74, 3) := by decide +kernel
theorem dX0_pairBound_5 : decode cX0_pairBound 5 = .ok (.aload_n 0, 1) := by decide +kernel
theorem dX0_pairBound_6 : decode cX0_pairBound 6 = .ok (.iload_n 2, 1) := by decide +kernel
theorem dX0_pairBound_7 : decode cX0_pairBound 7 = .ok (.invokevirtual 74, 3) := by decide +kernel
theorem dX0_pairBound_10 : decode cX0_pairBound 10 = .ok (.iload_n 1, 1) := by decide +kernel
theorem dX0_pairBound_11 : decode cX0_pairBound 11 = .ok (.iload_n 2, 1) := by decide +kernel
theorem dX0_pairBound_12 : decode cX0_pairBound 12 = .ok (.if_icmp .lt 13, 3) := by decide +kernel
theorem dX0_pairBound_15 : decode cX0_pairBound 15 = .ok (.new 61, 3) := by decide +kernel
theorem dX0_pairBound_18 : decode cX0_pairBound 18 = .ok (.dup, 1) := by decide +kernel
theorem dX0_pairBound_19 : decode cX0_pairBound 19 = .ok (.ldc 123, 2) := by decide +kernel
theorem dX0_pairBound_21 : decode cX0_pairBound 21 = .ok (.invokespecial 65, 3) := by decide +kernel
theorem dX0_pairBound_24 : decode cX0_pairBound 24 = .ok (.athrow, 1) := by decide +kernel
theorem dX0_pairBound_25 : decode cX0_pairBound 25 = .ok (.aload_n 0, 1) := by decide +kernel
theorem dX0_pairBound_26 : decode cX0_pairBound 26 = .ok (.iload_n 1, 1) := by decide +kernel
theorem dX0_pairBound_27 : decode cX0_pairBound 27 = .ok (.iload_n 2, 1) := by decide +kernel
theorem dX0_pairBound_28 : decode cX0_pairBound 28 = .ok (.invokevirtual 125, 3) := by decide +kernel
theorem dX0_pairBound_31 : decode cX0_pairBound 31 = .ok (.aload_n 0, 1) := by decide +kernel
theorem dX0_pairBound_32 : decode cX0_pairBound 32 = .ok (.iconst 0, 1) := by decide +kernel
theorem dX0_pairBound_33 : decode cX0_pairBound 33 = .ok (.iload_n 1, 1) := by decide +kernel
theorem dX0_pairBound_34 : decode cX0_pairBound 34 = .ok (.invokevirtual 120, 3) := by decide +kernel
theorem dX0_pairBound_37 : decode cX0_pairBound 37 = .ok (.iadd, 1) := by decide +kernel
theorem dX0_pairBound_38 : decode cX0_pairBound 38 = .ok (.aload_n 0, 1) := by decide +kernel
theorem dX0_pairBound_39 : decode cX0_pairBound 39 = .ok (.iload_n 2, 1) := by decide +kernel
theorem dX0_pairBound_40 : decode cX0_pairBound 40 = .ok (.iconst 1, 1) := by decide +kernel
theorem dX0_pairBound_41 : decode cX0_pairBound 41 = .ok (.iadd, 1) := by decide +kernel
theorem dX0_pairBound_42 : decode cX0_pairBound 42 = .ok (.aload_n 0, 1) := by decide +kernel
theorem dX0_pairBound_43 : decode cX0_pairBound 43 = .ok (.getfield 13, 3) := by decide +kernel
theorem dX0_pairBound_46 : decode cX0_pairBound 46 = .ok (.invokevirtual 120, 3) := by decide +kernel
theorem dX0_pairBound_49 : decode cX0_pairBound 49 = .ok (.iadd, 1) := by decide +kernel
theorem dX0_pairBound_50 : decode cX0_pairBound 50 = .ok (.ireturn, 1) := by decide +kernel
set_option maxRecDepth 20000 in
theorem ggX0_best_X0_requireVariant : GoodIn wsX0_best wsX0_requireVariant := goodIn_ca (goodIn_r _ [5, 6, 7] (by decide +kernel) (by decide +kernel)) (goodIn_sub (fun _ h => List.mem_cons_of_mem _ (List.mem_append_right _ h)) (by decide +kernel))
set_option maxRecDepth 20000 in
theorem gX0_best_X0_requireVariant : GoodIn wsX0_best (va_wsS RX0 108 yX0_requireVariant wsX0_requireVariant) := goodIn_app (goodIn_of _ (by decide +kernel)) ggX0_best_X0_requireVariant
set_option maxRecDepth 20000 in
theorem ggX0_best_X0_findBestOrder : GoodIn wsX0_best wsX0_findBestOrder := goodIn_r _ [11, 12, 13, 14, 15, 16, 17, 18, 4, 19, 20, 21, 22, 23, 24, 25, 26, 27, 28, 29, 30, 31, 32, 33, 34, 35, 36, 37, 38, 39, 40, 41, 42, 43, 44, 45, 46, 47, 48, 49, 50, 1, 51, 52, 53, 54, 55, 56, 57, 58, 59, 60, 61, 62, 63, 64, 65, 66, 67, 68, 69, 70, 71, 72, 73, 74, 75, 76] (by decide +kernel) (by decide +kernel)
set_option maxRecDepth 20000 in
theorem gX0_best_X0_findBestOrder : GoodIn wsX0_best (wsV RX0 128 RX0 yX0_findBestOrder wsX0_findBestOrder) := goodIn_app (goodIn_of _ (by decide +kernel)) ggX0_best_X0_findBestOrder
theorem dX0_best_0 : decode cX0_best 0 = .ok (.iload_n 1, 1) := by decide +kernel
theorem dX0_best_1 : decode cX0_best 1 = .ok (.invokestatic 108, 3) := by decide +kernel
theorem dX0_best_4 : decode cX0_best 4 = .ok (.aload_n 0, 1) := by decide +kernel
theorem dX0_best_5 : decode cX0_best 5 = .ok (.iload_n 1, 1) := by decide +kernel
theorem dX0_best_6 : decode cX0_best 6 = .ok (.invokevirtual 128, 3) := by decide +kernel
theorem dX0_best_9 : decode cX0_best 9 = .ok (.aload_n 0, 1) := by decide +kernel
theorem dX0_best_10 : decode cX0_best 10 = .ok (.getfield 42, 3) := by decide +kernel
theorem dX0_best_13 : decode cX0_best 13 = .ok (.iload_n 1, 1) := by decide +kernel
theorem dX0_best_14 : decode cX0_best 14 = .ok (.iaload, 1) := by decide +kernel
theorem dX0_best_15 : decode cX0_best 15 = .ok (.ireturn, 1) := by decide +kernel
set_option maxRecDepth 20000 in
theorem ggX0_bestAt_X0_requireVariant : GoodIn wsX0_bestAt wsX0_requireVariant := goodIn_ca (goodIn_r _ [5, 6, 7] (by decide +kernel) (by decide +kernel)) (goodIn_sub (fun _ h => List.mem_cons_of_mem _ (List.mem_append_left _ (List.mem_append_right _ h))) (by decide +kernel))
set_option maxRecDepth 20000 in
theorem gX0_bestAt_X0_requireVariant : GoodIn wsX0_bestAt (va_wsS RX0 108 yX0_requireVariant wsX0_requireVariant) := goodIn_app (goodIn_of _ (by decide +kernel)) ggX0_bestAt_X0_requireVariant
set_option maxRecDepth 20000 in
theorem ggX0_bestAt_X0_requirePlace : GoodIn wsX0_bestAt wsX0_requirePlace := goodIn_ca (goodIn_r _ [11, 12, 13, 14, 70, 71, 72, 73, 74, 75, 76, 77, 78, 79, 80, 81, 82] (by decide +kernel) (by decide +kernel)) (goodIn_sub (fun _ h => List.mem_cons_of_mem _ (List.mem_append_right _ h)) (by decide +kernel))
set_option maxRecDepth 20000 in
theorem gX0_bestAt_X0_requirePlace : GoodIn wsX0_bestAt (wsV RX0 79 RX0 yX0_requirePlace wsX0_requirePlace) := goodIn_app (goodIn_of _ (by decide +kernel)) ggX0_bestAt_X0_requirePlace
set_option maxRecDepth 20000 in
theorem ggX0_bestAt_X0_findBestOrder : GoodIn wsX0_bestAt wsX0_findBestOrder := goodIn_r _ [18, 19, 20, 14, 21, 22, 23, 24, 4, 25, 26, 27, 28, 29, 30, 31, 32, 33, 34, 35, 36, 37, 38, 39, 40, 41, 42, 43, 44, 45, 46, 47, 48, 49, 50, 51, 52, 53, 54, 55, 56, 57, 1, 58, 59, 60, 61, 62, 63, 64, 65, 66, 67, 68, 69, 70, 71, 72, 73, 74, 75, 76, 77, 78, 79, 80, 81, 82] (by decide +kernel) (by decide +kernel)
set_option maxRecDepth 20000 in
theorem gX0_bestAt_X0_findBestOrder : GoodIn wsX0_bestAt (wsV RX0 128 RX0 yX0_findBestOrder wsX0_findBestOrder) := goodIn_app (goodIn_of _ (by decide +kernel)) ggX0_bestAt_X0_findBestOrder
theorem dX0_bestAt_0 : decode cX0_bestAt 0 = .ok (.iload_n 1, 1) := by decide +kernel
theorem dX0_bestAt_1 : decode cX0_bestAt 1 = .ok (.invokestatic 108, 3) := by decide +kernel
theorem dX0_bestAt_4 : decode cX0_bestAt 4 = .ok (.aload_n 0, 1) := by decide +kernel
theorem dX0_bestAt_5 : decode cX0_bestAt 5 = .ok (.iload_n 2, 1) := by decide +kernel
theorem dX0_bestAt_6 : decode cX0_bestAt 6 = .ok (.invokevirtual 79, 3) := by decide +kernel
theorem dX0_bestAt_9 : decode cX0_bestAt 9 = .ok (.aload_n 0, 1) := by decide +kernel
theorem dX0_bestAt_10 : decode cX0_bestAt 10 = .ok (.iload_n 1, 1) := by decide +kernel
theorem dX0_bestAt_11 : decode cX0_bestAt 11 = .ok (.invokevirtual 128, 3) := by decide +kernel
theorem dX0_bestAt_14 : decode cX0_bestAt 14 = .ok (.aload_n 0, 1) := by decide +kernel
theorem dX0_bestAt_15 : decode cX0_bestAt 15 = .ok (.getfield 48, 3) := by decide +kernel
theorem dX0_bestAt_18 : decode cX0_bestAt 18 = .ok (.iload_n 1, 1) := by decide +kernel
theorem dX0_bestAt_19 : decode cX0_bestAt 19 = .ok (.bipush 7, 2) := by decide +kernel
theorem dX0_bestAt_21 : decode cX0_bestAt 21 = .ok (.imul, 1) := by decide +kernel
theorem dX0_bestAt_22 : decode cX0_bestAt 22 = .ok (.iload_n 2, 1) := by decide +kernel
theorem dX0_bestAt_23 : decode cX0_bestAt 23 = .ok (.iadd, 1) := by decide +kernel
theorem dX0_bestAt_24 : decode cX0_bestAt 24 = .ok (.iaload, 1) := by decide +kernel
theorem dX0_bestAt_25 : decode cX0_bestAt 25 = .ok (.ireturn, 1) := by decide +kernel
set_option maxRecDepth 20000 in
theorem ggX0_bestOrders_X0_requireVariant : GoodIn wsX0_bestOrders wsX0_requireVariant := goodIn_ca (goodIn_r _ [5, 6, 7] (by decide +kernel) (by decide +kernel)) (goodIn_sub (fun _ h => List.mem_cons_of_mem _ (List.mem_append_right _ h)) (by decide +kernel))
set_option maxRecDepth 20000 in
theorem gX0_bestOrders_X0_requireVariant : GoodIn wsX0_bestOrders (va_wsS RX0 108 yX0_requireVariant wsX0_requireVariant) := goodIn_app (goodIn_of _ (by decide +kernel)) ggX0_bestOrders_X0_requireVariant
set_option maxRecDepth 20000 in
theorem ggX0_bestOrders_X0_findBestOrder : GoodIn wsX0_bestOrders wsX0_findBestOrder := goodIn_r _ [11, 12, 1, 13, 14, 15, 16, 17, 4, 18, 19, 20, 21, 22, 23, 24, 25, 26, 27, 28, 29, 30, 31, 32, 33, 34, 35, 36, 37, 38, 39, 40, 41, 42, 43, 44, 45, 46, 47, 48, 49, 50, 51, 52, 53, 54, 55, 56, 57, 58, 59, 60, 61, 62, 63, 64, 65, 66, 67, 68, 69, 70, 71, 72, 73, 74, 75, 76] (by decide +kernel) (by decide +kernel)
set_option maxRecDepth 20000 in
theorem gX0_bestOrders_X0_findBestOrder : GoodIn wsX0_bestOrders (wsV RX0 128 RX0 yX0_findBestOrder wsX0_findBestOrder) := goodIn_app (goodIn_of _ (by decide +kernel)) ggX0_bestOrders_X0_findBestOrder
theorem dX0_bestOrders_0 : decode cX0_bestOrders 0 = .ok (.iload_n 1, 1) := by decide +kernel
theorem dX0_bestOrders_1 : decode cX0_bestOrders 1 = .ok (.invokestatic 108, 3) := by decide +kernel
theorem dX0_bestOrders_4 : decode cX0_bestOrders 4 = .ok (.aload_n 0, 1) := by decide +kernel
theorem dX0_bestOrders_5 : decode cX0_bestOrders 5 = .ok (.iload_n 1, 1) := by decide +kernel
theorem dX0_bestOrders_6 : decode cX0_bestOrders 6 = .ok (.invokevirtual 128, 3) := by decide +kernel
theorem dX0_bestOrders_9 : decode cX0_bestOrders 9 = .ok (.aload_n 0, 1) := by decide +kernel
theorem dX0_bestOrders_10 : decode cX0_bestOrders 10 = .ok (.getfield 45, 3) := by decide +kernel
theorem dX0_bestOrders_13 : decode cX0_bestOrders 13 = .ok (.iload_n 1, 1) := by decide +kernel
theorem dX0_bestOrders_14 : decode cX0_bestOrders 14 = .ok (.iaload, 1) := by decide +kernel
theorem dX0_bestOrders_15 : decode cX0_bestOrders 15 = .ok (.ireturn, 1) := by decide +kernel
set_option maxRecDepth 20000 in
theorem ggX0_gap_X0_scheduleOrder : GoodIn wsX0_gap wsX0_scheduleOrder := goodIn_r _ [6, 7, 8, 9, 10, 11, 5, 12, 13, 14, 15, 16, 17, 18, 19, 20, 21, 22, 23, 24, 25, 26, 27, 28, 29, 30, 31, 32, 33, 34, 35, 36, 37, 38, 39, 64, 65, 66, 67, 68, 69, 70, 71, 72, 73, 74, 75, 76] (by decide +kernel) (by decide +kernel)
set_option maxRecDepth 20000 in
theorem gX0_gap_X0_scheduleOrder : GoodIn wsX0_gap (wsV RX0 99 RX0 yX0_scheduleOrder wsX0_scheduleOrder) := goodIn_app (goodIn_of _ (by decide +kernel)) ggX0_gap_X0_scheduleOrder
set_option maxRecDepth 20000 in
theorem ggX0_gap_X0_findBestOrder : GoodIn wsX0_gap wsX0_findBestOrder := goodIn_r _ [43, 44, 45, 7, 46, 9, 10, 11, 5, 12, 13, 14, 15, 16, 17, 18, 19, 20, 21, 22, 23, 24, 25, 26, 27, 28, 29, 30, 31, 32, 33, 34, 35, 36, 37, 38, 39, 47, 48, 49, 50, 1, 51, 52, 53, 54, 55, 56, 57, 58, 59, 60, 61, 62, 63, 64, 65, 66, 67, 68, 69, 70, 71, 72, 73, 74, 75, 76] (by decide +kernel) (by decide +kernel)
set_option maxRecDepth 20000 in
theorem gX0_gap_X0_findBestOrder : GoodIn wsX0_gap (wsV RX0 128 RX0 yX0_findBestOrder wsX0_findBestOrder) := goodIn_app (goodIn_of _ (by decide +kernel)) ggX0_gap_X0_findBestOrder
theorem dX0_gap_0 : decode cX0_gap 0 = .ok (.aload_n 0, 1) := by decide +kernel
theorem dX0_gap_1 : decode cX0_gap 1 = .ok (.iconst 0, 1) := by decide +kernel
theorem dX0_gap_2 : decode cX0_gap 2 = .ok (.invokevirtual 99, 3) := by decide +kernel
theorem dX0_gap_5 : decode cX0_gap 5 = .ok (.istore_n 1, 1) := by decide +kernel
theorem dX0_gap_6 : decode cX0_gap 6 = .ok (.aload_n 0, 1) := by decide +kernel
theorem dX0_gap_7 : decode cX0_gap 7 = .ok (.iconst 0, 1) := by decide +kernel
theorem dX0_gap_8 : decode cX0_gap 8 = .ok (.invokevirtual 128, 3) := by decide +kernel
theorem dX0_gap_11 : decode cX0_gap 11 = .ok (.aload_n 0, 1) := by decide +kernel
theorem dX0_gap_12 : decode cX0_gap 12 = .ok (.getfield 42, 3) := by decide +kernel
theorem dX0_gap_15 : decode cX0_gap 15 = .ok (.iconst 0, 1) := by decide +kernel
theorem dX0_gap_16 : decode cX0_gap 16 = .ok (.iaload, 1) := by decide +kernel
theorem dX0_gap_17 : decode cX0_gap 17 = .ok (.istore_n 2, 1) := by decide +kernel
theorem dX0_gap_18 : decode cX0_gap 18 = .ok (.iload_n 2, 1) := by decide +kernel
theorem dX0_gap_19 : decode cX0_gap 19 = .ok (.ifCond .ne 5, 3) := by decide +kernel
theorem dX0_gap_22 : decode cX0_gap 22 = .ok (.dconst 0, 1) := by decide +kernel
theorem dX0_gap_23 : decode cX0_gap 23 = .ok (.dreturn, 1) := by decide +kernel
theorem dX0_gap_24 : decode cX0_gap 24 = .ok (.iload_n 1, 1) := by decide +kernel
theorem dX0_gap_25 : decode cX0_gap 25 = .ok (.iload_n 2, 1) := by decide +kernel
theorem dX0_gap_26 : decode cX0_gap 26 = .ok (.isub, 1) := by decide +kernel
theorem dX0_gap_27 : decode cX0_gap 27 = .ok (.i2d, 1) := by decide +kernel
theorem dX0_gap_28 : decode cX0_gap 28 = .ok (.iload_n 2, 1) := by decide +kernel
theorem dX0_gap_29 : decode cX0_gap 29 = .ok (.i2d, 1) := by decide +kernel
theorem dX0_gap_30 : decode cX0_gap 30 = .ok (.ddiv, 1) := by decide +kernel
theorem dX0_gap_31 : decode cX0_gap 31 = .ok (.dreturn, 1) := by decide +kernel
theorem dX0_requireJob_0 : decode cX0_requireJob 0 = .ok (.iload_n 1, 1) := by decide +kernel
theorem dX0_requireJob_1 : decode cX0_requireJob 1 = .ok (.ifCond .lt 11, 3) := by decide +kernel
theorem dX0_requireJob_4 : decode cX0_requireJob 4 = .ok (.iload_n 1, 1) := by decide +kernel
theorem dX0_requireJob_5 : decode cX0_requireJob 5 = .ok (.aload_n 0, 1) := by decide +kernel
theorem dX0_requireJob_6 : decode cX0_requireJob 6 = .ok (.getfield 7, 3) := by decide +kernel
theorem dX0_requireJob_9 : decode cX0_requireJob 9 = .ok (.if_icmp .lt 13, 3) := by decide +kernel
theorem dX0_requireJob_12 : decode cX0_requireJob 12 = .ok (.new 131, 3) := by decide +kernel
theorem dX0_requireJob_15 : decode cX0_requireJob 15 = .ok (.dup, 1) := by decide +kernel
theorem dX0_requireJob_16 : decode cX0_requireJob 16 = .ok (.ldc 133, 2) := by decide +kernel
theorem dX0_requireJob_18 : decode cX0_requireJob 18 = .ok (.invokespecial 135, 3) := by decide +kernel
theorem dX0_requireJob_21 : decode cX0_requireJob 21 = .ok (.athrow, 1) := by decide +kernel
theorem dX0_requireJob_22 : decode cX0_requireJob 22 = .ok (.return_, 1) := by decide +kernel
theorem dX0_requirePlace_0 : decode cX0_requirePlace 0 = .ok (.iload_n 1, 1) := by decide +kernel
theorem dX0_requirePlace_1 : decode cX0_requirePlace 1 = .ok (.ifCond .lt 11, 3) := by decide +kernel
theorem dX0_requirePlace_4 : decode cX0_requirePlace 4 = .ok (.iload_n 1, 1) := by decide +kernel
theorem dX0_requirePlace_5 : decode cX0_requirePlace 5 = .ok (.aload_n 0, 1) := by decide +kernel
theorem dX0_requirePlace_6 : decode cX0_requirePlace 6 = .ok (.getfield 7, 3) := by decide +kernel
theorem dX0_requirePlace_9 : decode cX0_requirePlace 9 = .ok (.if_icmp .lt 13, 3) := by decide +kernel
theorem dX0_requirePlace_12 : decode cX0_requirePlace 12 = .ok (.new 131, 3) := by decide +kernel
theorem dX0_requirePlace_15 : decode cX0_requirePlace 15 = .ok (.dup, 1) := by decide +kernel
theorem dX0_requirePlace_16 : decode cX0_requirePlace 16 = .ok (.ldc 136, 2) := by decide +kernel
theorem dX0_requirePlace_18 : decode cX0_requirePlace 18 = .ok (.invokespecial 135, 3) := by decide +kernel
theorem dX0_requirePlace_21 : decode cX0_requirePlace 21 = .ok (.athrow, 1) := by decide +kernel
theorem dX0_requirePlace_22 : decode cX0_requirePlace 22 = .ok (.return_, 1) := by decide +kernel
theorem dX0_requireMachine_0 : decode cX0_requireMachine 0 = .ok (.iload_n 1, 1) := by decide +kernel
theorem dX0_requireMachine_1 : decode cX0_requireMachine 1 = .ok (.ifCond .lt 11, 3) := by decide +kernel
theorem dX0_requireMachine_4 : decode cX0_requireMachine 4 = .ok (.iload_n 1, 1) := by decide +kernel
theorem dX0_requireMachine_5 : decode cX0_requireMachine 5 = .ok (.aload_n 0, 1) := by decide +kernel
theorem dX0_requireMachine_6 : decode cX0_requireMachine 6 = .ok (.getfield 13, 3) := by decide +kernel
theorem dX0_requireMachine_9 : decode cX0_requireMachine 9 = .ok (.if_icmp .lt 13, 3) := by decide +kernel
theorem dX0_requireMachine_12 : decode cX0_requireMachine 12 = .ok (.new 131, 3) := by decide +kernel
theorem dX0_requireMachine_15 : decode cX0_requireMachine 15 = .ok (.dup, 1) := by decide +kernel
theorem dX0_requireMachine_16 : decode cX0_requireMachine 16 = .ok (.ldc 138, 2) := by decide +kernel
theorem dX0_requireMachine_18 : decode cX0_requireMachine 18 = .ok (.invokespecial 135, 3) := by decide +kernel
theorem dX0_requireMachine_21 : decode cX0_requireMachine 21 = .ok (.athrow, 1) := by decide +kernel
theorem dX0_requireMachine_22 : decode cX0_requireMachine 22 = .ok (.return_, 1) := by decide +kernel
theorem dX0_requireVariant_0 : decode cX0_requireVariant 0 = .ok (.iload_n 0, 1) := by decide +kernel
theorem dX0_requireVariant_1 : decode cX0_requireVariant 1 = .ok (.ifCond .lt 8, 3) := by decide +kernel
theorem dX0_requireVariant_4 : decode cX0_requireVariant 4 = .ok (.iload_n 0, 1) := by decide +kernel
theorem dX0_requireVariant_5 : decode cX0_requireVariant 5 = .ok (.iconst 3, 1) := by decide +kernel
theorem dX0_requireVariant_6 : decode cX0_requireVariant 6 = .ok (.if_icmp .lt 13, 3) := by decide +kernel
theorem dX0_requireVariant_9 : decode cX0_requireVariant 9 = .ok (.new 61, 3) := by decide +kernel
theorem dX0_requireVariant_12 : decode cX0_requireVariant 12 = .ok (.dup, 1) := by decide +kernel
theorem dX0_requireVariant_13 : decode cX0_requireVariant 13 = .ok (.ldc 140, 2) := by decide +kernel
theorem dX0_requireVariant_15 : decode cX0_requireVariant 15 = .ok (.invokespecial 65, 3) := by decide +kernel
theorem dX0_requireVariant_18 : decode cX0_requireVariant 18 = .ok (.athrow, 1) := by decide +kernel
theorem dX0_requireVariant_19 : decode cX0_requireVariant 19 = .ok (.return_, 1) := by decide +kernel
theorem dX0_cell_0 : decode cX0_cell 0 = .ok (.iload_n 0, 1) := by decide +kernel
theorem dX0_cell_1 : decode cX0_cell 1 = .ok (.iconst 5, 1) := by decide +kernel
theorem dX0_cell_2 : decode cX0_cell 2 = .ok (.imul, 1) := by decide +kernel
theorem dX0_cell_3 : decode cX0_cell 3 = .ok (.iload_n 1, 1) := by decide +kernel
theorem dX0_cell_4 : decode cX0_cell 4 = .ok (.iadd, 1) := by decide +kernel
theorem dX0_cell_5 : decode cX0_cell 5 = .ok (.ireturn, 1) := by decide +kernel
set_option maxRecDepth 20000 in
theorem ggX0_timeOf_X0_cell : GoodIn wsX0_timeOf wsX0_cell := goodIn_r _ [5] (by decide +kernel) (by decide +kernel)
set_option maxRecDepth 20000 in
theorem gX0_timeOf_X0_cell : GoodIn wsX0_timeOf (va_wsS RX0 66 yX0_cell wsX0_cell) := goodIn_app (goodIn_of _ (by decide +kernel)) ggX0_timeOf_X0_cell
theorem dX0_timeOf_0 : decode cX0_timeOf 0 = .ok (.iload_n 1, 1) := by decide +kernel
theorem dX0_timeOf_1 : decode cX0_timeOf 1 = .ok (.ifCond .lt 18, 3) := by decide +kernel
theorem dX0_timeOf_4 : decode cX0_timeOf 4 = .ok (.iload_n 1, 1) := by decide +kernel
theorem dX0_timeOf_5 : decode cX0_timeOf 5 = .ok (.bipush 7, 2) := by decide +kernel
theorem dX0_timeOf_7 : decode cX0_timeOf 7 = .ok (.if_icmp .ge 12, 3) := by decide +kernel
theorem dX0_timeOf_10 : decode cX0_timeOf 10 = .ok (.iload_n 2, 1) := by decide +kernel
theorem dX0_timeOf_11 : decode cX0_timeOf 11 = .ok (.ifCond .lt 8, 3) := by decide +kernel
theorem dX0_timeOf_14 : decode cX0_timeOf 14 = .ok (.iload_n 2, 1) := by decide +kernel
theorem dX0_timeOf_15 : decode cX0_timeOf 15 = .ok (.iconst 5, 1) := by decide +kernel
theorem dX0_timeOf_16 : decode cX0_timeOf 16 = .ok (.if_icmp .lt 5, 3) := by decide +kernel
theorem dX0_timeOf_19 : decode cX0_timeOf 19 = .ok (.iconst 0, 1) := by decide +kernel
theorem dX0_timeOf_20 : decode cX0_timeOf 20 = .ok (.ireturn, 1) := by decide +kernel
theorem dX0_timeOf_21 : decode cX0_timeOf 21 = .ok (.aload_n 0, 1) := by decide +kernel
theorem dX0_timeOf_22 : decode cX0_timeOf 22 = .ok (.getfield 16, 3) := by decide +kernel
theorem dX0_timeOf_25 : decode cX0_timeOf 25 = .ok (.iload_n 1, 1) := by decide +kernel
theorem dX0_timeOf_26 : decode cX0_timeOf 26 = .ok (.iload_n 2, 1) := by decide +kernel
theorem dX0_timeOf_27 : decode cX0_timeOf 27 = .ok (.invokestatic 66, 3) := by decide +kernel
theorem dX0_timeOf_30 : decode cX0_timeOf 30 = .ok (.iaload, 1) := by decide +kernel
theorem dX0_timeOf_31 : decode cX0_timeOf 31 = .ok (.ireturn, 1) := by decide +kernel
set_option maxRecDepth 20000 in
theorem ggX0_sumOf_X0_timeOf : GoodIn wsX0_sumOf wsX0_timeOf := goodIn_r _ [5, 6, 7, 8, 4, 9, 10, 11, 12, 13, 14, 15, 16, 17, 18, 19, 20, 21, 22] (by decide +kernel) (by decide +kernel)
set_option maxRecDepth 20000 in
theorem gX0_sumOf_X0_timeOf : GoodIn wsX0_sumOf (wsV RX0 114 RX0 yX0_timeOf wsX0_timeOf) := goodIn_app (goodIn_of _ (by decide +kernel)) ggX0_sumOf_X0_timeOf
theorem dX0_sumOf_0 : decode cX0_sumOf 0 = .ok (.iconst 0, 1) := by decide +kernel
theorem dX0_sumOf_1 : decode cX0_sumOf 1 = .ok (.istore 4, 2) := by decide +kernel
theorem dX0_sumOf_3 : decode cX0_sumOf 3 = .ok (.iload_n 2, 1) := by decide +kernel
theorem dX0_sumOf_4 : decode cX0_sumOf 4 = .ok (.istore 5, 2) := by decide +kernel
theorem dX0_sumOf_6 : decode cX0_sumOf 6 = .ok (.iload 5, 2) := by decide +kernel
theorem dX0_sumOf_8 : decode cX0_sumOf 8 = .ok (.iload_n 3, 1) := by decide +kernel
theorem dX0_sumOf_9 : decode cX0_sumOf 9 = .ok (.if_icmp .ge 21, 3) := by decide +kernel
theorem dX0_sumOf_12 : decode cX0_sumOf 12 = .ok (.iload 4, 2) := by decide +kernel
theorem dX0_sumOf_14 : decode cX0_sumOf 14 = .ok (.aload_n 0, 1) := by decide +kernel
theorem dX0_sumOf_15 : decode cX0_sumOf 15 = .ok (.iload_n 1, 1) := by decide +kernel
theorem dX0_sumOf_16 : decode cX0_sumOf 16 = .ok (.iload 5, 2) := by decide +kernel
theorem dX0_sumOf_18 : decode cX0_sumOf 18 = .ok (.invokevirtual 114, 3) := by decide +kernel
theorem dX0_sumOf_21 : decode cX0_sumOf 21 = .ok (.iadd, 1) := by decide +kernel
theorem dX0_sumOf_22 : decode cX0_sumOf 22 = .ok (.istore 4, 2) := by decide +kernel
theorem dX0_sumOf_24 : decode cX0_sumOf 24 = .ok (.iinc 5 1, 3) := by decide +kernel
theorem dX0_sumOf_27 : decode cX0_sumOf 27 = .ok (.goto (-21), 3) := by decide +kernel
theorem dX0_sumOf_30 : decode cX0_sumOf 30 = .ok (.iload 4, 2) := by decide +kernel
theorem dX0_sumOf_32 : decode cX0_sumOf 32 = .ok (.ireturn, 1) := by decide +kernel
set_option maxRecDepth 20000 in
theorem ggX0_leastSum_X0_sumOf : GoodIn wsX0_leastSum wsX0_sumOf := goodIn_r _ [10, 11, 12, 13, 9, 14, 15, 16, 17, 18, 19, 20, 21, 22, 23, 24, 25, 26, 27, 28, 29, 30, 31] (by decide +kernel) (by decide +kernel)
set_option maxRecDepth 20000 in
theorem gX0_leastSum_X0_sumOf : GoodIn wsX0_leastSum (wsV RX0 142 RX0 yX0_sumOf wsX0_sumOf) := goodIn_app (goodIn_of _ (by decide +kernel)) ggX0_leastSum_X0_sumOf
theorem dX0_leastSum_0 : decode cX0_leastSum 0 = .ok (.aload_n 0, 1) := by decide +kernel
theorem dX0_leastSum_1 : decode cX0_leastSum 1 = .ok (.iconst 0, 1) := by decide +kernel
theorem dX0_leastSum_2 : decode cX0_leastSum 2 = .ok (.iload_n 1, 1) := by decide +kernel
theorem dX0_leastSum_3 : decode cX0_leastSum 3 = .ok (.iload_n 2, 1) := by decide +kernel
theorem dX0_leastSum_4 : decode cX0_leastSum 4 = .ok (.invokevirtual 142, 3) := by decide +kernel
theorem dX0_leastSum_7 : decode cX0_leastSum 7 = .ok (.istore_n 3, 1) := by decide +kernel
theorem dX0_leastSum_8 : decode cX0_leastSum 8 = .ok (.iconst 1, 1) := by decide +kernel
theorem dX0_leastSum_9 : decode cX0_leastSum 9 = .ok (.istore 4, 2) := by decide +kernel
theorem dX0_leastSum_11 : decode cX0_leastSum 11 = .ok (.iload 4, 2) := by decide +kernel
theorem dX0_leastSum_13 : decode cX0_leastSum 13 = .ok (.aload_n 0, 1) := by decide +kernel
theorem dX0_leastSum_14 : decode cX0_leastSum 14 = .ok (.getfield 7, 3) := by decide +kernel
theorem dX0_leastSum_17 : decode cX0_leastSum 17 = .ok (.if_icmp .ge 22, 3) := by decide +kernel
theorem dX0_leastSum_20 : decode cX0_leastSum 20 = .ok (.iload_n 3, 1) := by decide +kernel
theorem dX0_leastSum_21 : decode cX0_leastSum 21 = .ok (.aload_n 0, 1) := by decide +kernel
theorem dX0_leastSum_22 : decode cX0_leastSum 22 = .ok (.iload 4, 2) := by decide +kernel
theorem dX0_leastSum_24 : decode cX0_leastSum 24 = .ok (.iload_n 1, 1) := by decide +kernel
theorem dX0_leastSum_25 : decode cX0_leastSum 25 = .ok (.iload_n 2, 1) := by decide +kernel
theorem dX0_leastSum_26 : decode cX0_leastSum 26 = .ok (.invokevirtual 142, 3) := by decide +kernel
theorem dX0_leastSum_29 : decode cX0_leastSum 29 = .ok (.invokestatic 145, 3) := by decide +kernel
theorem dX0_leastSum_32 : decode cX0_leastSum 32 = .ok (.istore_n 3, 1) := by decide +kernel
theorem dX0_leastSum_33 : decode cX0_leastSum 33 = .ok (.iinc 4 1, 3) := by decide +kernel
theorem dX0_leastSum_36 : decode cX0_leastSum 36 = .ok (.goto (-25), 3) := by decide +kernel
theorem dX0_leastSum_39 : decode cX0_leastSum 39 = .ok (.iload_n 3, 1) := by decide +kernel
theorem dX0_leastSum_40 : decode cX0_leastSum 40 = .ok (.ireturn, 1) := by decide +kernel
set_option maxRecDepth 20000 in
theorem ggX0_loadOf_X0_timeOf : GoodIn wsX0_loadOf wsX0_timeOf := goodIn_r _ [6, 7, 8, 9, 5, 10, 11, 12, 13, 14, 15, 16, 17, 18, 19, 20, 21, 22, 23] (by decide +kernel) (by decide +kernel)
set_option maxRecDepth 20000 in
theorem gX0_loadOf_X0_timeOf : GoodIn wsX0_loadOf (wsV RX0 114 RX0 yX0_timeOf wsX0_timeOf) := goodIn_app (goodIn_of _ (by decide +kernel)) ggX0_loadOf_X0_timeOf
theorem dX0_loadOf_0 : decode cX0_loadOf 0 = .ok (.iconst 0, 1) := by decide +kernel
theorem dX0_loadOf_1 : decode cX0_loadOf 1 = .ok (.istore_n 2, 1) := by decide +kernel
theorem dX0_loadOf_2 : decode cX0_loadOf 2 = .ok (.iconst 0, 1) := by decide +kernel
theorem dX0_loadOf_3 : decode cX0_loadOf 3 = .ok (.istore_n 3, 1) := by decide +kernel
theorem dX0_loadOf_4 : decode cX0_loadOf 4 = .ok (.iload_n 3, 1) := by decide +kernel
theorem dX0_loadOf_5 : decode cX0_loadOf 5 = .ok (.aload_n 0, 1) := by decide +kernel
theorem dX0_loadOf_6 : decode cX0_loadOf 6 = .ok (.getfield 7, 3) := by decide +kernel
theorem dX0_loadOf_9 : decode cX0_loadOf 9 = .ok (.if_icmp .ge 18, 3) := by decide +kernel
theorem dX0_loadOf_12 : decode cX0_loadOf 12 = .ok (.iload_n 2, 1) := by decide +kernel
theorem dX0_loadOf_13 : decode cX0_loadOf 13 = .ok (.aload_n 0, 1) := by decide +kernel
theorem dX0_loadOf_14 : decode cX0_loadOf 14 = .ok (.iload_n 3, 1) := by decide +kernel
theorem dX0_loadOf_15 : decode cX0_loadOf 15 = .ok (.iload_n 1, 1) := by decide +kernel
theorem dX0_loadOf_16 : decode cX0_loadOf 16 = .ok (.invokevirtual 114, 3) := by decide +kernel
theorem dX0_loadOf_19 : decode cX0_loadOf 19 = .ok (.iadd, 1) := by decide +kernel
theorem dX0_loadOf_20 : decode cX0_loadOf 20 = .ok (.istore_n 2, 1) := by decide +kernel
theorem dX0_loadOf_21 : decode cX0_loadOf 21 = .ok (.iinc 3 1, 3) := by decide +kernel
theorem dX0_loadOf_24 : decode cX0_loadOf 24 = .ok (.goto (-20), 3) := by decide +kernel
theorem dX0_loadOf_27 : decode cX0_loadOf 27 = .ok (.iload_n 2, 1) := by decide +kernel
theorem dX0_loadOf_28 : decode cX0_loadOf 28 = .ok (.ireturn, 1) := by decide +kernel
theorem dX0_placeOf_0 : decode cX0_placeOf 0 = .ok (.iconst 0, 1) := by decide +kernel
theorem dX0_placeOf_1 : decode cX0_placeOf 1 = .ok (.istore_n 2, 1) := by decide +kernel
theorem dX0_placeOf_2 : decode cX0_placeOf 2 = .ok (.iload_n 2, 1) := by decide +kernel
theorem dX0_placeOf_3 : decode cX0_placeOf 3 = .ok (.aload_n 0, 1) := by decide +kernel
theorem dX0_placeOf_4 : decode cX0_placeOf 4 = .ok (.getfield 7, 3) := by decide +kernel
theorem dX0_placeOf_7 : decode cX0_placeOf 7 = .ok (.iconst 1, 1) := by decide +kernel
theorem dX0_placeOf_8 : decode cX0_placeOf 8 = .ok (.isub, 1) := by decide +kernel
theorem dX0_placeOf_9 : decode cX0_placeOf 9 = .ok (.if_icmp .ge 19, 3) := by decide +kernel
theorem dX0_placeOf_12 : decode cX0_placeOf 12 = .ok (.aload_n 0, 1) := by decide +kernel
theorem dX0_placeOf_13 : decode cX0_placeOf 13 = .ok (.getfield 29, 3) := by decide +kernel
theorem dX0_placeOf_16 : decode cX0_placeOf 16 = .ok (.iload_n 2, 1) := by decide +kernel
theorem dX0_placeOf_17 : decode cX0_placeOf 17 = .ok (.iaload, 1) := by decide +kernel
theorem dX0_placeOf_18 : decode cX0_placeOf 18 = .ok (.iload_n 1, 1) := by decide +kernel
theorem dX0_placeOf_19 : decode cX0_placeOf 19 = .ok (.if_icmp .eq 9, 3) := by decide +kernel
theorem dX0_placeOf_22 : decode cX0_placeOf 22 = .ok (.iinc 2 1, 3) := by decide +kernel
theorem dX0_placeOf_25 : decode cX0_placeOf 25 = .ok (.goto (-23), 3) := by decide +kernel
theorem dX0_placeOf_28 : decode cX0_placeOf 28 = .ok (.iload_n 2, 1) := by decide +kernel
theorem dX0_placeOf_29 : decode cX0_placeOf 29 = .ok (.ireturn, 1) := by decide +kernel
theorem dX0_shift_0 : decode cX0_shift 0 = .ok (.aload_n 0, 1) := by decide +kernel
theorem dX0_shift_1 : decode cX0_shift 1 = .ok (.iload_n 1, 1) := by decide +kernel
theorem dX0_shift_2 : decode cX0_shift 2 = .ok (.iaload, 1) := by decide +kernel
theorem dX0_shift_3 : decode cX0_shift 3 = .ok (.istore_n 3, 1) := by decide +kernel
theorem dX0_shift_4 : decode cX0_shift 4 = .ok (.iload_n 1, 1) := by decide +kernel
theorem dX0_shift_5 : decode cX0_shift 5 = .ok (.istore 4, 2) := by decide +kernel
theorem dX0_shift_7 : decode cX0_shift 7 = .ok (.iload 4, 2) := by decide +kernel
theorem dX0_shift_9 : decode cX0_shift 9 = .ok (.iload_n 2, 1) := by decide +kernel
theorem dX0_shift_10 : decode cX0_shift 10 = .ok (.if_icmp .ge 19, 3) := by decide +kernel
theorem dX0_shift_13 : decode cX0_shift 13 = .ok (.aload_n 0, 1) := by decide +kernel
theorem dX0_shift_14 : decode cX0_shift 14 = .ok (.iload 4, 2) := by decide +kernel
theorem dX0_shift_16 : decode cX0_shift 16 = .ok (.aload_n 0, 1) := by decide +kernel
theorem dX0_shift_17 : decode cX0_shift 17 = .ok (.iload 4, 2) := by decide +kernel
theorem dX0_shift_19 : decode cX0_shift 19 = .ok (.iconst 1, 1) := by decide +kernel
theorem dX0_shift_20 : decode cX0_shift 20 = .ok (.iadd, 1) := by decide +kernel
theorem dX0_shift_21 : decode cX0_shift 21 = .ok (.iaload, 1) := by decide +kernel
theorem dX0_shift_22 : decode cX0_shift 22 = .ok (.iastore, 1) := by decide +kernel
theorem dX0_shift_23 : decode cX0_shift 23 = .ok (.iinc 4 1, 3) := by decide +kernel
theorem dX0_shift_26 : decode cX0_shift 26 = .ok (.goto (-19), 3) := by decide +kernel
theorem dX0_shift_29 : decode cX0_shift 29 = .ok (.iload_n 1, 1) := by decide +kernel
theorem dX0_shift_30 : decode cX0_shift 30 = .ok (.istore 4, 2) := by decide +kernel
theorem dX0_shift_32 : decode cX0_shift 32 = .ok (.iload 4, 2) := by decide +kernel
theorem dX0_shift_34 : decode cX0_shift 34 = .ok (.iload_n 2, 1) := by decide +kernel
theorem dX0_shift_35 : decode cX0_shift 35 = .ok (.if_icmp .le 19, 3) := by decide +kernel
theorem dX0_shift_38 : decode cX0_shift 38 = .ok (.aload_n 0, 1) := by decide +kernel
theorem dX0_shift_39 : decode cX0_shift 39 = .ok (.iload 4, 2) := by decide +kernel
theorem dX0_shift_41 : decode cX0_shift 41 = .ok (.aload_n 0, 1) := by decide +kernel
theorem dX0_shift_42 : decode cX0_shift 42 = .ok (.iload 4, 2) := by decide +kernel
theorem dX0_shift_44 : decode cX0_shift 44 = .ok (.iconst 1, 1) := by decide +kernel
theorem dX0_shift_45 : decode cX0_shift 45 = .ok (.isub, 1) := by decide +kernel
theorem dX0_shift_46 : decode cX0_shift 46 = .ok (.iaload, 1) := by decide +kernel
theorem dX0_shift_47 : decode cX0_shift 47 = .ok (.iastore, 1) := by decide +kernel
theorem dX0_shift_48 : decode cX0_shift 48 = .ok (.iinc 4 (-1), 3) := by decide +kernel
theorem dX0_shift_51 : decode cX0_shift 51 = .ok (.goto (-19), 3) := by decide +kernel
theorem dX0_shift_54 : decode cX0_shift 54 = .ok (.aload_n 0, 1) := by decide +kernel
theorem dX0_shift_55 : decode cX0_shift 55 = .ok (.iload_n 2, 1) := by decide +kernel
theorem dX0_shift_56 : decode cX0_shift 56 = .ok (.iload_n 3, 1) := by decide +kernel
theorem dX0_shift_57 : decode cX0_shift 57 = .ok (.iastore, 1) := by decide +kernel
theorem dX0_shift_58 : decode cX0_shift 58 = .ok (.return_, 1) := by decide +kernel
set_option maxRecDepth 20000 in
theorem ggX0_makespanIfShifted_X0_shift : GoodIn wsX0_makespanIfShifted wsX0_shift := goodIn_r _ [10] (by decide +kernel) (by decide +kernel)
set_option maxRecDepth 20000 in
theorem gX0_makespanIfShifted_X0_shift : GoodIn wsX0_makespanIfShifted (va_wsS RX0 86 yX0_shift wsX0_shift) := goodIn_app (goodIn_of _ (by decide +kernel)) ggX0_makespanIfShifted_X0_shift
set_option maxRecDepth 20000 in
theorem ggX0_makespanIfShifted_X0_scheduleJob : GoodIn wsX0_makespanIfShifted wsX0_scheduleJob := goodIn_r _ [14, 15, 16, 17, 18, 19, 20, 21, 22, 23, 24, 9, 25, 26, 27, 28, 29, 30, 31, 32, 33, 34, 35, 36, 37, 42, 43, 44, 45, 46, 47, 48, 49, 50, 51, 52, 53, 54] (by decide +kernel) (by decide +kernel)
set_option maxRecDepth 20000 in
theorem gX0_makespanIfShifted_X0_scheduleJob : GoodIn wsX0_makespanIfShifted (wsV RX0 156 RX0 yX0_scheduleJob wsX0_scheduleJob) := goodIn_app (goodIn_of _ (by decide +kernel)) ggX0_makespanIfShifted_X0_scheduleJob
set_option maxRecDepth 20000 in
theorem ggX0_makespanIfShifted_X0_lastEnd : GoodIn wsX0_makespanIfShifted wsX0_lastEnd := goodIn_r _ [41, 21, 15, 30, 31, 9, 32, 42, 43, 44, 45, 46, 47, 48, 49, 50, 51, 52, 53, 54] (by decide +kernel) (by decide +kernel)
set_option maxRecDepth 20000 in
theorem gX0_makespanIfShifted_X0_lastEnd : GoodIn wsX0_makespanIfShifted (wsV RX0 160 RX0 yX0_lastEnd wsX0_lastEnd) := goodIn_app (goodIn_of _ (by decide +kernel)) ggX0_makespanIfShifted_X0_lastEnd
theorem dX0_makespanIfShifted_0 : decode cX0_makespanIfShifted 0 = .ok (.aload_n 0, 1) := by decide +kernel
theorem dX0_makespanIfShifted_1 : decode cX0_makespanIfShifted 1 = .ok (.getfield 29, 3) := by decide +kernel
theorem dX0_makespanIfShifted_4 : decode cX0_makespanIfShifted 4 = .ok (.iconst 0, 1) := by decide +kernel
theorem dX0_makespanIfShifted_5 : decode cX0_makespanIfShifted 5 = .ok (.aload_n 0, 1) := by decide +kernel
theorem dX0_makespanIfShifted_6 : decode cX0_makespanIfShifted 6 = .ok (.getfield 32, 3) := by decide +kernel
theorem dX0_makespanIfShifted_9 : decode cX0_makespanIfShifted 9 = .ok (.iconst 0, 1) := by decide +kernel
theorem dX0_makespanIfShifted_10 : decode cX0_makespanIfShifted 10 = .ok (.iload_n 3, 1) := by decide +kernel
theorem dX0_makespanIfShifted_11 : decode cX0_makespanIfShifted 11 = .ok (.invokestatic 150, 3) := by decide +kernel
theorem dX0_makespanIfShifted_14 : decode cX0_makespanIfShifted 14 = .ok (.aload_n 0, 1) := by decide +kernel
theorem dX0_makespanIfShifted_15 : decode cX0_makespanIfShifted 15 = .ok (.getfield 32, 3) := by decide +kernel
theorem dX0_makespanIfShifted_18 : decode cX0_makespanIfShifted 18 = .ok (.iload_n 1, 1) := by decide +kernel
theorem dX0_makespanIfShifted_19 : decode cX0_makespanIfShifted 19 = .ok (.iload_n 2, 1) := by decide +kernel
theorem dX0_makespanIfShifted_20 : decode cX0_makespanIfShifted 20 = .ok (.invokestatic 86, 3) := by decide +kernel
theorem dX0_makespanIfShifted_23 : decode cX0_makespanIfShifted 23 = .ok (.iconst 0, 1) := by decide +kernel
theorem dX0_makespanIfShifted_24 : decode cX0_makespanIfShifted 24 = .ok (.istore 4, 2) := by decide +kernel
theorem dX0_makespanIfShifted_26 : decode cX0_makespanIfShifted 26 = .ok (.iload 4, 2) := by decide +kernel
theorem dX0_makespanIfShifted_28 : decode cX0_makespanIfShifted 28 = .ok (.iload_n 3, 1) := by decide +kernel
theorem dX0_makespanIfShifted_29 : decode cX0_makespanIfShifted 29 = .ok (.if_icmp .ge 23, 3) := by decide +kernel
theorem dX0_makespanIfShifted_32 : decode cX0_makespanIfShifted 32 = .ok (.aload_n 0, 1) := by decide +kernel
theorem dX0_makespanIfShifted_33 : decode cX0_makespanIfShifted 33 = .ok (.iconst 0, 1) := by decide +kernel
theorem dX0_makespanIfShifted_34 : decode cX0_makespanIfShifted 34 = .ok (.iload 4, 2) := by decide +kernel
theorem dX0_makespanIfShifted_36 : decode cX0_makespanIfShifted 36 = .ok (.aload_n 0, 1) := by decide +kernel
theorem dX0_makespanIfShifted_37 : decode cX0_makespanIfShifted 37 = .ok (.getfield 32, 3) := by decide +kernel
theorem dX0_makespanIfShifted_40 : decode cX0_makespanIfShifted 40 = .ok (.iload 4, 2) := by decide +kernel
theorem dX0_makespanIfShifted_42 : decode cX0_makespanIfShifted 42 = .ok (.iaload, 1) := by decide +kernel
theorem dX0_makespanIfShifted_43 : decode cX0_makespanIfShifted 43 = .ok (.invokevirtual 156, 3) := by decide +kernel
theorem dX0_makespanIfShifted_46 : decode cX0_makespanIfShifted 46 = .ok (.iinc 4 1, 3) := by decide +kernel
theorem dX0_makespanIfShifted_49 : decode cX0_makespanIfShifted 49 = .ok (.goto (-23), 3) := by decide +kernel
theorem dX0_makespanIfShifted_52 : decode cX0_makespanIfShifted 52 = .ok (.aload_n 0, 1) := by decide +kernel
theorem dX0_makespanIfShifted_53 : decode cX0_makespanIfShifted 53 = .ok (.iload_n 3, 1) := by decide +kernel
theorem dX0_makespanIfShifted_54 : decode cX0_makespanIfShifted 54 = .ok (.invokevirtual 160, 3) := by decide +kernel
theorem dX0_makespanIfShifted_57 : decode cX0_makespanIfShifted 57 = .ok (.ireturn, 1) := by decide +kernel
set_option maxRecDepth 20000 in
theorem ggX0_placeForLast_X0_makespanIfShifted : GoodIn wsX0_placeForLast wsX0_makespanIfShifted := goodIn_r _ [5, 6, 7, 8, 9, 10, 11, 12, 13, 4, 14, 15, 16, 17, 18, 19, 20, 21, 22, 23, 24, 25, 26, 27, 28, 29, 30, 31, 32, 33, 34, 35, 36, 37, 38, 39, 40, 41, 42, 43, 44, 45, 46, 47, 48, 49, 50, 51, 52, 53, 54, 55, 56, 57, 58] (by decide +kernel) (by decide +kernel)
set_option maxRecDepth 20000 in
theorem gX0_placeForLast_X0_makespanIfShifted : GoodIn wsX0_placeForLast (wsV RX0 90 RX0 yX0_makespanIfShifted wsX0_makespanIfShifted) := goodIn_app (goodIn_of _ (by decide +kernel)) ggX0_placeForLast_X0_makespanIfShifted
theorem dX0_placeForLast_0 : decode cX0_placeForLast 0 = .ok (.iconst 0, 1) := by decide +kernel
theorem dX0_placeForLast_1 : decode cX0_placeForLast 1 = .ok (.istore_n 2, 1) := by decide +kernel
theorem dX0_placeForLast_2 : decode cX0_placeForLast 2 = .ok (.aload_n 0, 1) := by decide +kernel
theorem dX0_placeForLast_3 : decode cX0_placeForLast 3 = .ok (.iload_n 1, 1) := by decide +kernel
theorem dX0_placeForLast_4 : decode cX0_placeForLast 4 = .ok (.iconst 0, 1) := by decide +kernel
theorem dX0_placeForLast_5 : decode cX0_placeForLast 5 = .ok (.iload_n 1, 1) := by decide +kernel
theorem dX0_placeForLast_6 : decode cX0_placeForLast 6 = .ok (.iconst 1, 1) := by decide +kernel
theorem dX0_placeForLast_7 : decode cX0_placeForLast 7 = .ok (.iadd, 1) := by decide +kernel
theorem dX0_placeForLast_8 : decode cX0_placeForLast 8 = .ok (.invokevirtual 90, 3) := by decide +kernel
theorem dX0_placeForLast_11 : decode cX0_placeForLast 11 = .ok (.istore_n 3, 1) := by decide +kernel
theorem dX0_placeForLast_12 : decode cX0_placeForLast 12 = .ok (.iconst 1, 1) := by decide +kernel
theorem dX0_placeForLast_13 : decode cX0_placeForLast 13 = .ok (.istore 4, 2) := by decide +kernel
theorem dX0_placeForLast_15 : decode cX0_placeForLast 15 = .ok (.iload 4, 2) := by decide +kernel
theorem dX0_placeForLast_17 : decode cX0_placeForLast 17 = .ok (.iload_n 1, 1) := by decide +kernel
theorem dX0_placeForLast_18 : decode cX0_placeForLast 18 = .ok (.if_icmp .gt 33, 3) := by decide +kernel
theorem dX0_placeForLast_21 : decode cX0_placeForLast 21 = .ok (.aload_n 0, 1) := by decide +kernel
theorem dX0_placeForLast_22 : decode cX0_placeForLast 22 = .ok (.iload_n 1, 1) := by decide +kernel
theorem dX0_placeForLast_23 : decode cX0_placeForLast 23 = .ok (.iload 4, 2) := by decide +kernel
theorem dX0_placeForLast_25 : decode cX0_placeForLast 25 = .ok (.iload_n 1, 1) := by decide +kernel
theorem dX0_placeForLast_26 : decode cX0_placeForLast 26 = .ok (.iconst 1, 1) := by decide +kernel
theorem dX0_placeForLast_27 : decode cX0_placeForLast 27 = .ok (.iadd, 1) := by decide +kernel
theorem dX0_placeForLast_28 : decode cX0_placeForLast 28 = .ok (.invokevirtual 90, 3) := by decide +kernel
theorem dX0_placeForLast_31 : decode cX0_placeForLast 31 = .ok (.istore 5, 2) := by decide +kernel
theorem dX0_placeForLast_33 : decode cX0_placeForLast 33 = .ok (.iload 5, 2) := by decide +kernel
theorem dX0_placeForLast_35 : decode cX0_placeForLast 35 = .ok (.iload_n 3, 1) := by decide +kernel
theorem dX0_placeForLast_36 : decode cX0_placeForLast 36 = .ok (.if_icmp .ge 9, 3) := by decide +kernel
theorem dX0_placeForLast_39 : decode cX0_placeForLast 39 = .ok (.iload 5, 2) := by decide +kernel
theorem dX0_placeForLast_41 : decode cX0_placeForLast 41 = .ok (.istore_n 3, 1) := by decide +kernel
theorem dX0_placeForLast_42 : decode cX0_placeForLast 42 = .ok (.iload 4, 2) := by decide +kernel
theorem dX0_placeForLast_44 : decode cX0_placeForLast 44 = .ok (.istore_n 2, 1) := by decide +kernel
theorem dX0_placeForLast_45 : decode cX0_placeForLast 45 = .ok (.iinc 4 1, 3) := by decide +kernel
theorem dX0_placeForLast_48 : decode cX0_placeForLast 48 = .ok (.goto (-33), 3) := by decide +kernel
theorem dX0_placeForLast_51 : decode cX0_placeForLast 51 = .ok (.iload_n 2, 1) := by decide +kernel
theorem dX0_placeForLast_52 : decode cX0_placeForLast 52 = .ok (.ireturn, 1) := by decide +kernel
set_option maxRecDepth 20000 in
theorem ggX0_fillQueueBySum_X0_sumOf : GoodIn wsX0_fillQueueBySum wsX0_sumOf := goodIn_r _ [8, 9, 10, 11, 7, 12, 13, 14, 15, 16, 17, 18, 19, 20, 21, 22, 23, 24, 25, 26, 27, 28, 29] (by decide +kernel) (by decide +kernel)
set_option maxRecDepth 20000 in
theorem gX0_fillQueueBySum_X0_sumOf : GoodIn wsX0_fillQueueBySum (wsV RX0 142 RX0 yX0_sumOf wsX0_sumOf) := goodIn_app (goodIn_of _ (by decide +kernel)) ggX0_fillQueueBySum_X0_sumOf
theorem dX0_fillQueueBySum_0 : decode cX0_fillQueueBySum 0 = .ok (.iconst 0, 1) := by decide +kernel
theorem dX0_fillQueueBySum_1 : decode cX0_fillQueueBySum 1 = .ok (.istore_n 1, 1) := by decide +kernel
theorem dX0_fillQueueBySum_2 : decode cX0_fillQueueBySum 2 = .ok (.iload_n 1, 1) := by decide +kernel
theorem dX0_fillQueueBySum_3 : decode cX0_fillQueueBySum 3 = .ok (.aload_n 0, 1) := by decide +kernel
theorem dX0_fillQueueBySum_4 : decode cX0_fillQueueBySum 4 = .ok (.getfield 7, 3) := by decide +kernel
theorem dX0_fillQueueBySum_7 : decode cX0_fillQueueBySum 7 = .ok (.if_icmp .ge 74, 3) := by decide +kernel
theorem dX0_fillQueueBySum_10 : decode cX0_fillQueueBySum 10 = .ok (.aload_n 0, 1) := by decide +kernel
theorem dX0_fillQueueBySum_11 : decode cX0_fillQueueBySum 11 = .ok (.iload_n 1, 1) := by decide +kernel
theorem dX0_fillQueueBySum_12 : decode cX0_fillQueueBySum 12 = .ok (.iconst 0, 1) := by decide +kernel
theorem dX0_fillQueueBySum_13 : decode cX0_fillQueueBySum 13 = .ok (.aload_n 0, 1) := by decide +kernel
theorem dX0_fillQueueBySum_14 : decode cX0_fillQueueBySum 14 = .ok (.getfield 13, 3) := by decide +kernel
theorem dX0_fillQueueBySum_17 : decode cX0_fillQueueBySum 17 = .ok (.invokevirtual 142, 3) := by decide +kernel
theorem dX0_fillQueueBySum_20 : decode cX0_fillQueueBySum 20 = .ok (.istore_n 2, 1) := by decide +kernel
theorem dX0_fillQueueBySum_21 : decode cX0_fillQueueBySum 21 = .ok (.iload_n 1, 1) := by decide +kernel
theorem dX0_fillQueueBySum_22 : decode cX0_fillQueueBySum 22 = .ok (.istore_n 3, 1) := by decide +kernel
theorem dX0_fillQueueBySum_23 : decode cX0_fillQueueBySum 23 = .ok (.iload_n 3, 1) := by decide +kernel
theorem dX0_fillQueueBySum_24 : decode cX0_fillQueueBySum 24 = .ok (.ifCond .le 44, 3) := by decide +kernel
theorem dX0_fillQueueBySum_27 : decode cX0_fillQueueBySum 27 = .ok (.iload_n 2, 1) := by decide +kernel
theorem dX0_fillQueueBySum_28 : decode cX0_fillQueueBySum 28 = .ok (.aload_n 0, 1) := by decide +kernel
theorem dX0_fillQueueBySum_29 : decode cX0_fillQueueBySum 29 = .ok (.aload_n 0, 1) := by decide +kernel
theorem dX0_fillQueueBySum_30 : decode cX0_fillQueueBySum 30 = .ok (.getfield 35, 3) := by decide +kernel
theorem dX0_fillQueueBySum_33 : decode cX0_fillQueueBySum 33 = .ok (.iload_n 3, 1) := by decide +kernel
theorem dX0_fillQueueBySum_34 : decode cX0_fillQueueBySum 34 = .ok (.iconst 1, 1) := by decide +kernel
theorem dX0_fillQueueBySum_35 : decode cX0_fillQueueBySum 35 = .ok (.isub, 1) := by decide +kernel
theorem dX0_fillQueueBySum_36 : decode cX0_fillQueueBySum 36 = .ok (.iaload, 1) := by decide +kernel
theorem dX0_fillQueueBySum_37 : decode cX0_fillQueueBySum 37 = .ok (.iconst 0, 1) := by decide +kernel
theorem dX0_fillQueueBySum_38 : decode cX0_fillQueueBySum 38 = .ok (.aload_n 0, 1) := by decide +kernel
theorem dX0_fillQueueBySum_39 : decode cX0_fillQueueBySum 39 = .ok (.getfield 13, 3) := by decide +kernel
theorem dX0_fillQueueBySum_42 : decode cX0_fillQueueBySum 42 = .ok (.invokevirtual 142, 3) := by decide +kernel
theorem dX0_fillQueueBySum_45 : decode cX0_fillQueueBySum 45 = .ok (.if_icmp .le 23, 3) := by decide +kernel
theorem dX0_fillQueueBySum_48 : decode cX0_fillQueueBySum 48 = .ok (.aload_n 0, 1) := by decide +kernel
theorem dX0_fillQueueBySum_49 : decode cX0_fillQueueBySum 49 = .ok (.getfield 35, 3) := by decide +kernel
theorem dX0_fillQueueBySum_52 : decode cX0_fillQueueBySum 52 = .ok (.iload_n 3, 1) := by decide +kernel
theorem dX0_fillQueueBySum_53 : decode cX0_fillQueueBySum 53 = .ok (.aload_n 0, 1) := by decide +kernel
theorem dX0_fillQueueBySum_54 : decode cX0_fillQueueBySum 54 = .ok (.getfield 35, 3) := by decide +kernel
theorem dX0_fillQueueBySum_57 : decode cX0_fillQueueBySum 57 = .ok (.iload_n 3, 1) := by decide +kernel
theorem dX0_fillQueueBySum_58 : decode cX0_fillQueueBySum 58 = .ok (.iconst 1, 1) := by decide +kernel
theorem dX0_fillQueueBySum_59 : decode cX0_fillQueueBySum 59 = .ok (.isub, 1) := by decide +kernel
theorem dX0_fillQueueBySum_60 : decode cX0_fillQueueBySum 60 = .ok (.iaload, 1) := by decide +kernel
theorem dX0_fillQueueBySum_61 : decode cX0_fillQueueBySum 61 = .ok (.iastore, 1) := by decide +kernel
theorem dX0_fillQueueBySum_62 : decode cX0_fillQueueBySum 62 = .ok (.iinc 3 (-1), 3) := by decide +kernel
theorem dX0_fillQueueBySum_65 : decode cX0_fillQueueBySum 65 = .ok (.goto (-42), 3) := by decide +kernel
theorem dX0_fillQueueBySum_68 : decode cX0_fillQueueBySum 68 = .ok (.aload_n 0, 1) := by decide +kernel
theorem dX0_fillQueueBySum_69 : decode cX0_fillQueueBySum 69 = .ok (.getfield 35, 3) := by decide +kernel
theorem dX0_fillQueueBySum_72 : decode cX0_fillQueueBySum 72 = .ok (.iload_n 3, 1) := by decide +kernel
theorem dX0_fillQueueBySum_73 : decode cX0_fillQueueBySum 73 = .ok (.iload_n 1, 1) := by decide +kernel
theorem dX0_fillQueueBySum_74 : decode cX0_fillQueueBySum 74 = .ok (.iastore, 1) := by decide +kernel
theorem dX0_fillQueueBySum_75 : decode cX0_fillQueueBySum 75 = .ok (.iinc 1 1, 3) := by decide +kernel
theorem dX0_fillQueueBySum_78 : decode cX0_fillQueueBySum 78 = .ok (.goto (-76), 3) := by decide +kernel
theorem dX0_fillQueueBySum_81 : decode cX0_fillQueueBySum 81 = .ok (.return_, 1) := by decide +kernel
set_option maxRecDepth 20000 in
theorem ggX0_fillByRule_X0_goesBefore : GoodIn wsX0_fillByRule wsX0_goesBefore := goodIn_r _ [6, 7, 8, 9, 5, 10, 11, 12, 13, 14, 15, 16, 17, 18, 19, 20, 21, 22, 23, 24, 25, 26, 27] (by decide +kernel) (by decide +kernel)
set_option maxRecDepth 20000 in
theorem gX0_fillByRule_X0_goesBefore : GoodIn wsX0_fillByRule (wsV RX0 163 RX0 yX0_goesBefore wsX0_goesBefore) := goodIn_app (goodIn_of _ (by decide +kernel)) ggX0_fillByRule_X0_goesBefore
theorem dX0_fillByRule_0 : decode cX0_fillByRule 0 = .ok (.iconst 0, 1) := by decide +kernel
theorem dX0_fillByRule_1 : decode cX0_fillByRule 1 = .ok (.istore 4, 2) := by decide +kernel
theorem dX0_fillByRule_3 : decode cX0_fillByRule 3 = .ok (.iload 4, 2) := by decide +kernel
theorem dX0_fillByRule_5 : decode cX0_fillByRule 5 = .ok (.aload_n 0, 1) := by decide +kernel
theorem dX0_fillByRule_6 : decode cX0_fillByRule 6 = .ok (.getfield 7, 3) := by decide +kernel
theorem dX0_fillByRule_9 : decode cX0_fillByRule 9 = .ok (.if_icmp .ge 57, 3) := by decide +kernel
theorem dX0_fillByRule_12 : decode cX0_fillByRule 12 = .ok (.iload 4, 2) := by decide +kernel
theorem dX0_fillByRule_14 : decode cX0_fillByRule 14 = .ok (.istore 5, 2) := by decide +kernel
theorem dX0_fillByRule_16 : decode cX0_fillByRule 16 = .ok (.iload 5, 2) := by decide +kernel
theorem dX0_fillByRule_18 : decode cX0_fillByRule 18 = .ok (.ifCond .le 36, 3) := by decide +kernel
theorem dX0_fillByRule_21 : decode cX0_fillByRule 21 = .ok (.aload_n 0, 1) := by decide +kernel
theorem dX0_fillByRule_22 : decode cX0_fillByRule 22 = .ok (.iload 4, 2) := by decide +kernel
theorem dX0_fillByRule_24 : decode cX0_fillByRule 24 = .ok (.aload_n 1, 1) := by decide +kernel
theorem dX0_fillByRule_25 : decode cX0_fillByRule 25 = .ok (.iload 5, 2) := by decide +kernel
theorem dX0_fillByRule_27 : decode cX0_fillByRule 27 = .ok (.iconst 1, 1) := by decide +kernel
theorem dX0_fillByRule_28 : decode cX0_fillByRule 28 = .ok (.isub, 1) := by decide +kernel
theorem dX0_fillByRule_29 : decode cX0_fillByRule 29 = .ok (.iaload, 1) := by decide +kernel
theorem dX0_fillByRule_30 : decode cX0_fillByRule 30 = .ok (.iload_n 2, 1) := by decide +kernel
theorem dX0_fillByRule_31 : decode cX0_fillByRule 31 = .ok (.iload_n 3, 1) := by decide +kernel
theorem dX0_fillByRule_32 : decode cX0_fillByRule 32 = .ok (.invokevirtual 163, 3) := by decide +kernel
theorem dX0_fillByRule_35 : decode cX0_fillByRule 35 = .ok (.ifCond .eq 19, 3) := by decide +kernel
theorem dX0_fillByRule_38 : decode cX0_fillByRule 38 = .ok (.aload_n 1, 1) := by decide +kernel
theorem dX0_fillByRule_39 : decode cX0_fillByRule 39 = .ok (.iload 5, 2) := by decide +kernel
theorem dX0_fillByRule_41 : decode cX0_fillByRule 41 = .ok (.aload_n 1, 1) := by decide +kernel
theorem dX0_fillByRule_42 : decode cX0_fillByRule 42 = .ok (.iload 5, 2) := by decide +kernel
theorem dX0_fillByRule_44 : decode cX0_fillByRule 44 = .ok (.iconst 1, 1) := by decide +kernel
theorem dX0_fillByRule_45 : decode cX0_fillByRule 45 = .ok (.isub, 1) := by decide +kernel
theorem dX0_fillByRule_46 : decode cX0_fillByRule 46 = .ok (.iaload, 1) := by decide +kernel
theorem dX0_fillByRule_47 : decode cX0_fillByRule 47 = .ok (.iastore, 1) := by decide +kernel
theorem dX0_fillByRule_48 : decode cX0_fillByRule 48 = .ok (.iinc 5 (-1), 3) := by decide +kernel
theorem dX0_fillByRule_51 : decode cX0_fillByRule 51 = .ok (.goto (-35), 3) := by decide +kernel
theorem dX0_fillByRule_54 : decode cX0_fillByRule 54 = .ok (.aload_n 1, 1) := by decide +kernel
theorem dX0_fillByRule_55 : decode cX0_fillByRule 55 = .ok (.iload 5, 2) := by decide +kernel
theorem dX0_fillByRule_57 : decode cX0_fillByRule 57 = .ok (.iload 4, 2) := by decide +kernel
theorem dX0_fillByRule_59 : decode cX0_fillByRule 59 = .ok (.iastore, 1) := by decide +kernel
theorem dX0_fillByRule_60 : decode cX0_fillByRule 60 = .ok (.iinc 4 1, 3) := by decide +kernel
theorem dX0_fillByRule_63 : decode cX0_fillByRule 63 = .ok (.goto (-60), 3) := by decide +kernel
theorem dX0_fillByRule_66 : decode cX0_fillByRule 66 = .ok (.return_, 1) := by decide +kernel
set_option maxRecDepth 20000 in
theorem ggX0_goesBefore_X0_timeOf : GoodIn wsX0_goesBefore wsX0_timeOf := goodIn_r _ [5, 6, 7, 8, 4, 9, 10, 11, 12, 13, 14, 15, 16, 17, 18, 19, 20, 21, 22] (by decide +kernel) (by decide +kernel)
set_option maxRecDepth 20000 in
theorem gX0_goesBefore_X0_timeOf : GoodIn wsX0_goesBefore (wsV RX0 114 RX0 yX0_timeOf wsX0_timeOf) := goodIn_app (goodIn_of _ (by decide +kernel)) ggX0_goesBefore_X0_timeOf
theorem dX0_goesBefore_0 : decode cX0_goesBefore 0 = .ok (.aload_n 0, 1) := by decide +kernel
theorem dX0_goesBefore_1 : decode cX0_goesBefore 1 = .ok (.iload_n 1, 1) := by decide +kernel
theorem dX0_goesBefore_2 : decode cX0_goesBefore 2 = .ok (.iload_n 3, 1) := by decide +kernel
theorem dX0_goesBefore_3 : decode cX0_goesBefore 3 = .ok (.invokevirtual 114, 3) := by decide +kernel
theorem dX0_goesBefore_6 : decode cX0_goesBefore 6 = .ok (.aload_n 0, 1) := by decide +kernel
theorem dX0_goesBefore_7 : decode cX0_goesBefore 7 = .ok (.iload_n 1, 1) := by decide +kernel
theorem dX0_goesBefore_8 : decode cX0_goesBefore 8 = .ok (.iload 4, 2) := by decide +kernel
theorem dX0_goesBefore_10 : decode cX0_goesBefore 10 = .ok (.invokevirtual 114, 3) := by decide +kernel
theorem dX0_goesBefore_13 : decode cX0_goesBefore 13 = .ok (.if_icmp .gt 7, 3) := by decide +kernel
theorem dX0_goesBefore_16 : decode cX0_goesBefore 16 = .ok (.iconst 1, 1) := by decide +kernel
theorem dX0_goesBefore_17 : decode cX0_goesBefore 17 = .ok (.goto 4, 3) := by decide +kernel
theorem dX0_goesBefore_20 : decode cX0_goesBefore 20 = .ok (.iconst 0, 1) := by decide +kernel
theorem dX0_goesBefore_21 : decode cX0_goesBefore 21 = .ok (.istore 5, 2) := by decide +kernel
theorem dX0_goesBefore_23 : decode cX0_goesBefore 23 = .ok (.aload_n 0, 1) := by decide +kernel
theorem dX0_goesBefore_24 : decode cX0_goesBefore 24 = .ok (.iload_n 2, 1) := by decide +kernel
theorem dX0_goesBefore_25 : decode cX0_goesBefore 25 = .ok (.iload_n 3, 1) := by decide +kernel
theorem dX0_goesBefore_26 : decode cX0_goesBefore 26 = .ok (.invokevirtual 114, 3) := by decide +kernel
theorem dX0_goesBefore_29 : decode cX0_goesBefore 29 = .ok (.aload_n 0, 1) := by decide +kernel
theorem dX0_goesBefore_30 : decode cX0_goesBefore 30 = .ok (.iload_n 2, 1) := by decide +kernel
theorem dX0_goesBefore_31 : decode cX0_goesBefore 31 = .ok (.iload 4, 2) := by decide +kernel
theorem dX0_goesBefore_33 : decode cX0_goesBefore 33 = .ok (.invokevirtual 114, 3) := by decide +kernel
theorem dX0_goesBefore_36 : decode cX0_goesBefore 36 = .ok (.if_icmp .gt 7, 3) := by decide +kernel
theorem dX0_goesBefore_39 : decode cX0_goesBefore 39 = .ok (.iconst 1, 1) := by decide +kernel
theorem dX0_goesBefore_40 : decode cX0_goesBefore 40 = .ok (.goto 4, 3) := by decide +kernel
theorem dX0_goesBefore_43 : decode cX0_goesBefore 43 = .ok (.iconst 0, 1) := by decide +kernel
theorem dX0_goesBefore_44 : decode cX0_goesBefore 44 = .ok (.istore 6, 2) := by decide +kernel
theorem dX0_goesBefore_46 : decode cX0_goesBefore 46 = .ok (.iload 5, 2) := by decide +kernel
theorem dX0_goesBefore_48 : decode cX0_goesBefore 48 = .ok (.iload 6, 2) := by decide +kernel
theorem dX0_goesBefore_50 : decode cX0_goesBefore 50 = .ok (.if_icmp .eq 6, 3) := by decide +kernel
theorem dX0_goesBefore_53 : decode cX0_goesBefore 53 = .ok (.iload 5, 2) := by decide +kernel
theorem dX0_goesBefore_55 : decode cX0_goesBefore 55 = .ok (.ireturn, 1) := by decide +kernel
theorem dX0_goesBefore_56 : decode cX0_goesBefore 56 = .ok (.iload 5, 2) := by decide +kernel
theorem dX0_goesBefore_58 : decode cX0_goesBefore 58 = .ok (.ifCond .eq 24, 3) := by decide +kernel
theorem dX0_goesBefore_61 : decode cX0_goesBefore 61 = .ok (.aload_n 0, 1) := by decide +kernel
theorem dX0_goesBefore_62 : decode cX0_goesBefore 62 = .ok (.iload_n 1, 1) := by decide +kernel
theorem dX0_goesBefore_63 : decode cX0_goesBefore 63 = .ok (.iload_n 3, 1) := by decide +kernel
theorem dX0_goesBefore_64 : decode cX0_goesBefore 64 = .ok (.invokevirtual 114, 3) := by decide +kernel
theorem dX0_goesBefore_67 : decode cX0_goesBefore 67 = .ok (.aload_n 0, 1) := by decide +kernel
theorem dX0_goesBefore_68 : decode cX0_goesBefore 68 = .ok (.iload_n 2, 1) := by decide +kernel
theorem dX0_goesBefore_69 : decode cX0_goesBefore 69 = .ok (.iload_n 3, 1) := by decide +kernel
theorem dX0_goesBefore_70 : decode cX0_goesBefore 70 = .ok (.invokevirtual 114, 3) := by decide +kernel
theorem dX0_goesBefore_73 : decode cX0_goesBefore 73 = .ok (.if_icmp .ge 7, 3) := by decide +kernel
theorem dX0_goesBefore_76 : decode cX0_goesBefore 76 = .ok (.iconst 1, 1) := by decide +kernel
theorem dX0_goesBefore_77 : decode cX0_goesBefore 77 = .ok (.goto 4, 3) := by decide +kernel
theorem dX0_goesBefore_80 : decode cX0_goesBefore 80 = .ok (.iconst 0, 1) := by decide +kernel
theorem dX0_goesBefore_81 : decode cX0_goesBefore 81 = .ok (.ireturn, 1) := by decide +kernel
theorem dX0_goesBefore_82 : decode cX0_goesBefore 82 = .ok (.aload_n 0, 1) := by decide +kernel
theorem dX0_goesBefore_83 : decode cX0_goesBefore 83 = .ok (.iload_n 1, 1) := by decide +kernel
theorem dX0_goesBefore_84 : decode cX0_goesBefore 84 = .ok (.iload 4, 2) := by decide +kernel
theorem dX0_goesBefore_86 : decode cX0_goesBefore 86 = .ok (.invokevirtual 114, 3) := by decide +kernel
theorem dX0_goesBefore_89 : decode cX0_goesBefore 89 = .ok (.aload_n 0, 1) := by decide +kernel
theorem dX0_goesBefore_90 : decode cX0_goesBefore 90 = .ok (.iload_n 2, 1) := by decide +kernel
theorem dX0_goesBefore_91 : decode cX0_goesBefore 91 = .ok (.iload 4, 2) := by decide +kernel
theorem dX0_goesBefore_93 : decode cX0_goesBefore 93 = .ok (.invokevirtual 114, 3) := by decide +kernel
theorem dX0_goesBefore_96 : decode cX0_goesBefore 96 = .ok (.if_icmp .le 7, 3) := by decide +kernel
theorem dX0_goesBefore_99 : decode cX0_goesBefore 99 = .ok (.iconst 1, 1) := by decide +kernel
theorem dX0_goesBefore_100 : decode cX0_goesBefore 100 = .ok (.goto 4, 3) := by decide +kernel
theorem dX0_goesBefore_103 : decode cX0_goesBefore 103 = .ok (.iconst 0, 1) := by decide +kernel
theorem dX0_goesBefore_104 : decode cX0_goesBefore 104 = .ok (.ireturn, 1) := by decide +kernel
set_option maxRecDepth 20000 in
theorem ggX0_leastOfPair_X0_fillByRule : GoodIn wsX0_leastOfPair wsX0_fillByRule := goodIn_r _ [11, 2, 12, 13, 14, 10, 15, 16, 17, 18, 19, 20, 21, 22, 23, 24, 25, 26, 27, 28, 29, 30, 31, 32, 33, 34, 35, 36] (by decide +kernel) (by decide +kernel)
set_option maxRecDepth 20000 in
theorem gX0_leastOfPair_X0_fillByRule : GoodIn wsX0_leastOfPair (wsV RX0 96 RX0 yX0_fillByRule wsX0_fillByRule) := goodIn_app (goodIn_of _ (by decide +kernel)) ggX0_leastOfPair_X0_fillByRule
set_option maxRecDepth 20000 in
theorem ggX0_leastOfPair_X0_timeOf : GoodIn wsX0_leastOfPair wsX0_timeOf := goodIn_r _ [19, 20, 21, 22, 10, 23, 24, 25, 26, 27, 28, 29, 30, 31, 32, 33, 34, 35, 36] (by decide +kernel) (by decide +kernel)
set_option maxRecDepth 20000 in
theorem gX0_leastOfPair_X0_timeOf : GoodIn wsX0_leastOfPair (wsV RX0 114 RX0 yX0_timeOf wsX0_timeOf) := goodIn_app (goodIn_of _ (by decide +kernel)) ggX0_leastOfPair_X0_timeOf
theorem dX0_leastOfPair_0 : decode cX0_leastOfPair 0 = .ok (.aload_n 0, 1) := by decide +kernel
theorem dX0_leastOfPair_1 : decode cX0_leastOfPair 1 = .ok (.aload_n 0, 1) := by decide +kernel
theorem dX0_leastOfPair_2 : decode cX0_leastOfPair 2 = .ok (.getfield 32, 3) := by decide +kernel
theorem dX0_leastOfPair_5 : decode cX0_leastOfPair 5 = .ok (.iload_n 1, 1) := by decide +kernel
theorem dX0_leastOfPair_6 : decode cX0_leastOfPair 6 = .ok (.iload_n 2, 1) := by decide +kernel
theorem dX0_leastOfPair_7 : decode cX0_leastOfPair 7 = .ok (.invokevirtual 96, 3) := by decide +kernel
theorem dX0_leastOfPair_10 : decode cX0_leastOfPair 10 = .ok (.iconst 0, 1) := by decide +kernel
theorem dX0_leastOfPair_11 : decode cX0_leastOfPair 11 = .ok (.istore_n 3, 1) := by decide +kernel
theorem dX0_leastOfPair_12 : decode cX0_leastOfPair 12 = .ok (.iconst 0, 1) := by decide +kernel
theorem dX0_leastOfPair_13 : decode cX0_leastOfPair 13 = .ok (.istore 4, 2) := by decide +kernel
theorem dX0_leastOfPair_15 : decode cX0_leastOfPair 15 = .ok (.iconst 0, 1) := by decide +kernel
theorem dX0_leastOfPair_16 : decode cX0_leastOfPair 16 = .ok (.istore 5, 2) := by decide +kernel
theorem dX0_leastOfPair_18 : decode cX0_leastOfPair 18 = .ok (.iload 5, 2) := by decide +kernel
theorem dX0_leastOfPair_20 : decode cX0_leastOfPair 20 = .ok (.aload_n 0, 1) := by decide +kernel
theorem dX0_leastOfPair_21 : decode cX0_leastOfPair 21 = .ok (.getfield 7, 3) := by decide +kernel
theorem dX0_leastOfPair_24 : decode cX0_leastOfPair 24 = .ok (.if_icmp .ge 45, 3) := by decide +kernel
theorem dX0_leastOfPair_27 : decode cX0_leastOfPair 27 = .ok (.iload_n 3, 1) := by decide +kernel
theorem dX0_leastOfPair_28 : decode cX0_leastOfPair 28 = .ok (.aload_n 0, 1) := by decide +kernel
theorem dX0_leastOfPair_29 : decode cX0_leastOfPair 29 = .ok (.aload_n 0, 1) := by decide +kernel
theorem dX0_leastOfPair_30 : decode cX0_leastOfPair 30 = .ok (.getfield 32, 3) := by decide +kernel
theorem dX0_leastOfPair_33 : decode cX0_leastOfPair 33 = .ok (.iload 5, 2) := by decide +kernel
theorem dX0_leastOfPair_35 : decode cX0_leastOfPair 35 = .ok (.iaload, 1) := by decide +kernel
theorem dX0_leastOfPair_36 : decode cX0_leastOfPair 36 = .ok (.iload_n 1, 1) := by decide +kernel
theorem dX0_leastOfPair_37 : decode cX0_leastOfPair 37 = .ok (.invokevirtual 114, 3) := by decide +kernel
theorem dX0_leastOfPair_40 : decode cX0_leastOfPair 40 = .ok (.iadd, 1) := by decide +kernel
theorem dX0_leastOfPair_41 : decode cX0_leastOfPair 41 = .ok (.istore_n 3, 1) := by decide +kernel
theorem dX0_leastOfPair_42 : decode cX0_leastOfPair 42 = .ok (.iload_n 3, 1) := by decide +kernel
theorem dX0_leastOfPair_43 : decode cX0_leastOfPair 43 = .ok (.iload 4, 2) := by decide +kernel
theorem dX0_leastOfPair_45 : decode cX0_leastOfPair 45 = .ok (.invokestatic 167, 3) := by decide +kernel
theorem dX0_leastOfPair_48 : decode cX0_leastOfPair 48 = .ok (.aload_n 0, 1) := by decide +kernel
theorem dX0_leastOfPair_49 : decode cX0_leastOfPair 49 = .ok (.aload_n 0, 1) := by decide +kernel
theorem dX0_leastOfPair_50 : decode cX0_leastOfPair 50 = .ok (.getfield 32, 3) := by decide +kernel
theorem dX0_leastOfPair_53 : decode cX0_leastOfPair 53 = .ok (.iload 5, 2) := by decide +kernel
theorem dX0_leastOfPair_55 : decode cX0_leastOfPair 55 = .ok (.iaload, 1) := by decide +kernel
theorem dX0_leastOfPair_56 : decode cX0_leastOfPair 56 = .ok (.iload_n 2, 1) := by decide +kernel
theorem dX0_leastOfPair_57 : decode cX0_leastOfPair 57 = .ok (.invokevirtual 114, 3) := by decide +kernel
theorem dX0_leastOfPair_60 : decode cX0_leastOfPair 60 = .ok (.iadd, 1) := by decide +kernel
theorem dX0_leastOfPair_61 : decode cX0_leastOfPair 61 = .ok (.istore 4, 2) := by decide +kernel
theorem dX0_leastOfPair_63 : decode cX0_leastOfPair 63 = .ok (.iinc 5 1, 3) := by decide +kernel
theorem dX0_leastOfPair_66 : decode cX0_leastOfPair 66 = .ok (.goto (-48), 3) := by decide +kernel
theorem dX0_leastOfPair_69 : decode cX0_leastOfPair 69 = .ok (.iload 4, 2) := by decide +kernel
theorem dX0_leastOfPair_71 : decode cX0_leastOfPair 71 = .ok (.ireturn, 1) := by decide +kernel
set_option maxRecDepth 20000 in
theorem ggX0_scheduleOrder_X0_scheduleJob : GoodIn wsX0_scheduleOrder wsX0_scheduleJob := goodIn_r _ [7, 8, 9, 10, 11, 12, 13, 14, 15, 16, 17, 6, 18, 19, 20, 21, 22, 23, 24, 25, 26, 27, 28, 29, 30, 35, 36, 37, 38, 39, 40, 41, 42, 43, 44, 45, 46, 47] (by decide +kernel) (by decide +kernel)
set_option maxRecDepth 20000 in
theorem gX0_scheduleOrder_X0_scheduleJob : GoodIn wsX0_scheduleOrder (wsV RX0 156 RX0 yX0_scheduleJob wsX0_scheduleJob) := goodIn_app (goodIn_of _ (by decide +kernel)) ggX0_scheduleOrder_X0_scheduleJob
set_option maxRecDepth 20000 in
theorem ggX0_scheduleOrder_X0_lastEnd : GoodIn wsX0_scheduleOrder wsX0_lastEnd := goodIn_r _ [34, 14, 8, 23, 24, 6, 25, 35, 36, 37, 38, 39, 40, 41, 42, 43, 44, 45, 46, 47] (by decide +kernel) (by decide +kernel)
set_option maxRecDepth 20000 in
theorem gX0_scheduleOrder_X0_lastEnd : GoodIn wsX0_scheduleOrder (wsV RX0 160 RX0 yX0_lastEnd wsX0_lastEnd) := goodIn_app (goodIn_of _ (by decide +kernel)) ggX0_scheduleOrder_X0_lastEnd
theorem dX0_scheduleOrder_0 : decode cX0_scheduleOrder 0 = .ok (.iconst 0, 1) := by decide +kernel
theorem dX0_scheduleOrder_1 : decode cX0_scheduleOrder 1 = .ok (.istore_n 2, 1) := by decide +kernel
theorem dX0_scheduleOrder_2 : decode cX0_scheduleOrder 2 = .ok (.iload_n 2, 1) := by decide +kernel
theorem dX0_scheduleOrder_3 : decode cX0_scheduleOrder 3 = .ok (.aload_n 0, 1) := by decide +kernel
theorem dX0_scheduleOrder_4 : decode cX0_scheduleOrder 4 = .ok (.getfield 7, 3) := by decide +kernel
theorem dX0_scheduleOrder_7 : decode cX0_scheduleOrder 7 = .ok (.if_icmp .ge 21, 3) := by decide +kernel
theorem dX0_scheduleOrder_10 : decode cX0_scheduleOrder 10 = .ok (.aload_n 0, 1) := by decide +kernel
theorem dX0_scheduleOrder_11 : decode cX0_scheduleOrder 11 = .ok (.iload_n 1, 1) := by decide +kernel
theorem dX0_scheduleOrder_12 : decode cX0_scheduleOrder 12 = .ok (.iload_n 2, 1) := by decide +kernel
theorem dX0_scheduleOrder_13 : decode cX0_scheduleOrder 13 = .ok (.aload_n 0, 1) := by decide +kernel
theorem dX0_scheduleOrder_14 : decode cX0_scheduleOrder 14 = .ok (.getfield 29, 3) := by decide +kernel
theorem dX0_scheduleOrder_17 : decode cX0_scheduleOrder 17 = .ok (.iload_n 2, 1) := by decide +kernel
theorem dX0_scheduleOrder_18 : decode cX0_scheduleOrder 18 = .ok (.iaload, 1) := by decide +kernel
theorem dX0_scheduleOrder_19 : decode cX0_scheduleOrder 19 = .ok (.invokevirtual 156, 3) := by decide +kernel
theorem dX0_scheduleOrder_22 : decode cX0_scheduleOrder 22 = .ok (.iinc 2 1, 3) := by decide +kernel
theorem dX0_scheduleOrder_25 : decode cX0_scheduleOrder 25 = .ok (.goto (-23), 3) := by decide +kernel
theorem dX0_scheduleOrder_28 : decode cX0_scheduleOrder 28 = .ok (.aload_n 0, 1) := by decide +kernel
theorem dX0_scheduleOrder_29 : decode cX0_scheduleOrder 29 = .ok (.aload_n 0, 1) := by decide +kernel
theorem dX0_scheduleOrder_30 : decode cX0_scheduleOrder 30 = .ok (.getfield 7, 3) := by decide +kernel
theorem dX0_scheduleOrder_33 : decode cX0_scheduleOrder 33 = .ok (.invokevirtual 160, 3) := by decide +kernel
theorem dX0_scheduleOrder_36 : decode cX0_scheduleOrder 36 = .ok (.ireturn, 1) := by decide +kernel
set_option maxRecDepth 20000 in
theorem ggX0_lastEnd_X0_cell : GoodIn wsX0_lastEnd wsX0_cell := goodIn_r _ [6] (by decide +kernel) (by decide +kernel)
set_option maxRecDepth 20000 in
theorem gX0_lastEnd_X0_cell : GoodIn wsX0_lastEnd (va_wsS RX0 66 yX0_cell wsX0_cell) := goodIn_app (goodIn_of _ (by decide +kernel)) ggX0_lastEnd_X0_cell
theorem dX0_lastEnd_0 : decode cX0_lastEnd 0 = .ok (.iload_n 1, 1) := by decide +kernel
theorem dX0_lastEnd_1 : decode cX0_lastEnd 1 = .ok (.iconst 1, 1) := by decide +kernel
theorem dX0_lastEnd_2 : decode cX0_lastEnd 2 = .ok (.if_icmp .ge 5, 3) := by decide +kernel
theorem dX0_lastEnd_5 : decode cX0_lastEnd 5 = .ok (.iconst 0, 1) := by decide +kernel
theorem dX0_lastEnd_6 : decode cX0_lastEnd 6 = .ok (.ireturn, 1) := by decide +kernel
theorem dX0_lastEnd_7 : decode cX0_lastEnd 7 = .ok (.aload_n 0, 1) := by decide +kernel
theorem dX0_lastEnd_8 : decode cX0_lastEnd 8 = .ok (.getfield 23, 3) := by decide +kernel
theorem dX0_lastEnd_11 : decode cX0_lastEnd 11 = .ok (.iload_n 1, 1) := by decide +kernel
theorem dX0_lastEnd_12 : decode cX0_lastEnd 12 = .ok (.iconst 1, 1) := by decide +kernel
theorem dX0_lastEnd_13 : decode cX0_lastEnd 13 = .ok (.isub, 1) := by decide +kernel
theorem dX0_lastEnd_14 : decode cX0_lastEnd 14 = .ok (.aload_n 0, 1) := by decide +kernel
theorem dX0_lastEnd_15 : decode cX0_lastEnd 15 = .ok (.getfield 13, 3) := by decide +kernel
theorem dX0_lastEnd_18 : decode cX0_lastEnd 18 = .ok (.iconst 1, 1) := by decide +kernel
theorem dX0_lastEnd_19 : decode cX0_lastEnd 19 = .ok (.isub, 1) := by decide +kernel
theorem dX0_lastEnd_20 : decode cX0_lastEnd 20 = .ok (.invokestatic 66, 3) := by decide +kernel
theorem dX0_lastEnd_23 : decode cX0_lastEnd 23 = .ok (.iaload, 1) := by decide +kernel
theorem dX0_lastEnd_24 : decode cX0_lastEnd 24 = .ok (.ireturn, 1) := by decide +kernel
set_option maxRecDepth 20000 in
theorem ggX0_scheduleJob_X0_beginWithoutWaiting : GoodIn wsX0_scheduleJob wsX0_beginWithoutWaiting := goodIn_r _ [12, 1, 2, 3, 4, 5, 13, 14, 15, 11, 16, 6, 7, 17, 18, 19, 20, 21, 22, 23, 24, 25, 26, 27, 28, 29, 30, 31, 32, 33, 34, 35, 36, 37] (by decide +kernel) (by decide +kernel)
set_option maxRecDepth 20000 in
theorem gX0_scheduleJob_X0_beginWithoutWaiting : GoodIn wsX0_scheduleJob (wsV RX0 170 RX0 yX0_beginWithoutWaiting wsX0_beginWithoutWaiting) := goodIn_app (goodIn_of _ (by decide +kernel)) ggX0_scheduleJob_X0_beginWithoutWaiting
set_option maxRecDepth 20000 in
theorem ggX0_scheduleJob_X0_freeFrom : GoodIn wsX0_scheduleJob wsX0_freeFrom := goodIn_r _ [16, 1, 6, 7, 17, 18, 11, 19, 25, 26, 27, 28, 29, 30, 31, 32, 33, 34, 35, 36, 37] (by decide +kernel) (by decide +kernel)
set_option maxRecDepth 20000 in
theorem gX0_scheduleJob_X0_freeFrom : GoodIn wsX0_scheduleJob (wsV RX0 173 RX0 yX0_freeFrom wsX0_freeFrom) := goodIn_app (goodIn_of _ (by decide +kernel)) ggX0_scheduleJob_X0_freeFrom
set_option maxRecDepth 20000 in
theorem ggX0_scheduleJob_X0_cell : GoodIn wsX0_scheduleJob wsX0_cell := goodIn_r _ [19] (by decide +kernel) (by decide +kernel)
set_option maxRecDepth 20000 in
theorem gX0_scheduleJob_X0_cell : GoodIn wsX0_scheduleJob (va_wsS RX0 66 yX0_cell wsX0_cell) := goodIn_app (goodIn_of _ (by decide +kernel)) ggX0_scheduleJob_X0_cell
set_option maxRecDepth 20000 in
theorem ggX0_scheduleJob_X0_timeOf : GoodIn wsX0_scheduleJob wsX0_timeOf := goodIn_r _ [23, 24, 17, 18, 11, 19, 25, 26, 27, 28, 29, 30, 31, 32, 33, 34, 35, 36, 37] (by decide +kernel) (by decide +kernel)
set_option maxRecDepth 20000 in
theorem gX0_scheduleJob_X0_timeOf : GoodIn wsX0_scheduleJob (wsV RX0 114 RX0 yX0_timeOf wsX0_timeOf) := goodIn_app (goodIn_of _ (by decide +kernel)) ggX0_scheduleJob_X0_timeOf
theorem dX0_scheduleJob_0 : decode cX0_scheduleJob 0 = .ok (.iload_n 1, 1) := by decide +kernel
theorem dX0_scheduleJob_1 : decode cX0_scheduleJob 1 = .ok (.iconst 2, 1) := by decide +kernel
theorem dX0_scheduleJob_2 : decode cX0_scheduleJob 2 = .ok (.if_icmp .ne 12, 3) := by decide +kernel
theorem dX0_scheduleJob_5 : decode cX0_scheduleJob 5 = .ok (.aload_n 0, 1) := by decide +kernel
theorem dX0_scheduleJob_6 : decode cX0_scheduleJob 6 = .ok (.iload_n 2, 1) := by decide +kernel
theorem dX0_scheduleJob_7 : decode cX0_scheduleJob 7 = .ok (.iload_n 3, 1) := by decide +kernel
theorem dX0_scheduleJob_8 : decode cX0_scheduleJob 8 = .ok (.invokevirtual 170, 3) := by decide +kernel
theorem dX0_scheduleJob_11 : decode cX0_scheduleJob 11 = .ok (.goto 4, 3) := by decide +kernel
theorem dX0_scheduleJob_14 : decode cX0_scheduleJob 14 = .ok (.iconst 0, 1) := by decide +kernel
theorem dX0_scheduleJob_15 : decode cX0_scheduleJob 15 = .ok (.istore 4, 2) := by decide +kernel
theorem dX0_scheduleJob_17 : decode cX0_scheduleJob 17 = .ok (.iconst 0, 1) := by decide +kernel
theorem dX0_scheduleJob_18 : decode cX0_scheduleJob 18 = .ok (.istore 5, 2) := by decide +kernel
theorem dX0_scheduleJob_20 : decode cX0_scheduleJob 20 = .ok (.iload 5, 2) := by decide +kernel
theorem dX0_scheduleJob_22 : decode cX0_scheduleJob 22 = .ok (.aload_n 0, 1) := by decide +kernel
theorem dX0_scheduleJob_23 : decode cX0_scheduleJob 23 = .ok (.getfield 13, 3) := by decide +kernel
theorem dX0_scheduleJob_26 : decode cX0_scheduleJob 26 = .ok (.if_icmp .ge 62, 3) := by decide +kernel
theorem dX0_scheduleJob_29 : decode cX0_scheduleJob 29 = .ok (.iload 4, 2) := by decide +kernel
theorem dX0_scheduleJob_31 : decode cX0_scheduleJob 31 = .ok (.aload_n 0, 1) := by decide +kernel
theorem dX0_scheduleJob_32 : decode cX0_scheduleJob 32 = .ok (.iload_n 1, 1) := by decide +kernel
theorem dX0_scheduleJob_33 : decode cX0_scheduleJob 33 = .ok (.iload_n 2, 1) := by decide +kernel
theorem dX0_scheduleJob_34 : decode cX0_scheduleJob 34 = .ok (.iload 5, 2) := by decide +kernel
theorem dX0_scheduleJob_36 : decode cX0_scheduleJob 36 = .ok (.invokevirtual 173, 3) := by decide +kernel
theorem dX0_scheduleJob_39 : decode cX0_scheduleJob 39 = .ok (.invokestatic 167, 3) := by decide +kernel
theorem dX0_scheduleJob_42 : decode cX0_scheduleJob 42 = .ok (.istore 6, 2) := by decide +kernel
theorem dX0_scheduleJob_44 : decode cX0_scheduleJob 44 = .ok (.aload_n 0, 1) := by decide +kernel
theorem dX0_scheduleJob_45 : decode cX0_scheduleJob 45 = .ok (.getfield 20, 3) := by decide +kernel
theorem dX0_scheduleJob_48 : decode cX0_scheduleJob 48 = .ok (.iload_n 2, 1) := by decide +kernel
theorem dX0_scheduleJob_49 : decode cX0_scheduleJob 49 = .ok (.iload 5, 2) := by decide +kernel
theorem dX0_scheduleJob_51 : decode cX0_scheduleJob 51 = .ok (.invokestatic 66, 3) := by decide +kernel
theorem dX0_scheduleJob_54 : decode cX0_scheduleJob 54 = .ok (.iload 6, 2) := by decide +kernel
theorem dX0_scheduleJob_56 : decode cX0_scheduleJob 56 = .ok (.iastore, 1) := by decide +kernel
theorem dX0_scheduleJob_57 : decode cX0_scheduleJob 57 = .ok (.iload 6, 2) := by decide +kernel
theorem dX0_scheduleJob_59 : decode cX0_scheduleJob 59 = .ok (.aload_n 0, 1) := by decide +kernel
theorem dX0_scheduleJob_60 : decode cX0_scheduleJob 60 = .ok (.iload_n 3, 1) := by decide +kernel
theorem dX0_scheduleJob_61 : decode cX0_scheduleJob 61 = .ok (.iload 5, 2) := by decide +kernel
theorem dX0_scheduleJob_63 : decode cX0_scheduleJob 63 = .ok (.invokevirtual 114, 3) := by decide +kernel
theorem dX0_scheduleJob_66 : decode cX0_scheduleJob 66 = .ok (.iadd, 1) := by decide +kernel
theorem dX0_scheduleJob_67 : decode cX0_scheduleJob 67 = .ok (.istore 4, 2) := by decide +kernel
theorem dX0_scheduleJob_69 : decode cX0_scheduleJob 69 = .ok (.aload_n 0, 1) := by decide +kernel
theorem dX0_scheduleJob_70 : decode cX0_scheduleJob 70 = .ok (.getfield 23, 3) := by decide +kernel
theorem dX0_scheduleJob_73 : decode cX0_scheduleJob 73 = .ok (.iload_n 2, 1) := by decide +kernel
theorem dX0_scheduleJob_74 : decode cX0_scheduleJob 74 = .ok (.iload 5, 2) := by decide +kernel
theorem dX0_scheduleJob_76 : decode cX0_scheduleJob 76 = .ok (.invokestatic 66, 3) := by decide +kernel
theorem dX0_scheduleJob_79 : decode cX0_scheduleJob 79 = .ok (.iload 4, 2) := by decide +kernel
theorem dX0_scheduleJob_81 : decode cX0_scheduleJob 81 = .ok (.iastore, 1) := by decide +kernel
theorem dX0_scheduleJob_82 : decode cX0_scheduleJob 82 = .ok (.iinc 5 1, 3) := by decide +kernel
theorem dX0_scheduleJob_85 : decode cX0_scheduleJob 85 = .ok (.goto (-65), 3) := by decide +kernel
theorem dX0_scheduleJob_88 : decode cX0_scheduleJob 88 = .ok (.return_, 1) := by decide +kernel
set_option maxRecDepth 20000 in
theorem ggX0_beginWithoutWaiting_X0_freeFrom : GoodIn wsX0_beginWithoutWaiting wsX0_freeFrom := goodIn_r _ [10, 1, 11, 12, 13, 14, 9, 15, 21, 22, 23, 24, 25, 26, 27, 28, 29, 30, 31, 32, 33] (by decide +kernel) (by decide +kernel)
set_option maxRecDepth 20000 in
theorem gX0_beginWithoutWaiting_X0_freeFrom : GoodIn wsX0_beginWithoutWaiting (wsV RX0 173 RX0 yX0_freeFrom wsX0_freeFrom) := goodIn_app (goodIn_of _ (by decide +kernel)) ggX0_beginWithoutWaiting_X0_freeFrom
set_option maxRecDepth 20000 in
theorem ggX0_beginWithoutWaiting_X0_timeOf : GoodIn wsX0_beginWithoutWaiting wsX0_timeOf := goodIn_r _ [19, 20, 13, 14, 9, 15, 21, 22, 23, 24, 25, 26, 27, 28, 29, 30, 31, 32, 33] (by decide +kernel) (by decide +kernel)
set_option maxRecDepth 20000 in
theorem gX0_beginWithoutWaiting_X0_timeOf : GoodIn wsX0_beginWithoutWaiting (wsV RX0 114 RX0 yX0_timeOf wsX0_timeOf) := goodIn_app (goodIn_of _ (by decide +kernel)) ggX0_beginWithoutWaiting_X0_timeOf
theorem dX0_beginWithoutWaiting_0 : decode cX0_beginWithoutWaiting 0 = .ok (.iconst 0, 1) := by decide +kernel
theorem dX0_beginWithoutWaiting_1 : decode cX0_beginWithoutWaiting 1 = .ok (.istore_n 3, 1) := by decide +kernel
theorem dX0_beginWithoutWaiting_2 : decode cX0_beginWithoutWaiting 2 = .ok (.iconst 0, 1) := by decide +kernel
theorem dX0_beginWithoutWaiting_3 : decode cX0_beginWithoutWaiting 3 = .ok (.istore 4, 2) := by decide +kernel
theorem dX0_beginWithoutWaiting_5 : decode cX0_beginWithoutWaiting 5 = .ok (.iconst 0, 1) := by decide +kernel
theorem dX0_beginWithoutWaiting_6 : decode cX0_beginWithoutWaiting 6 = .ok (.istore 5, 2) := by decide +kernel
theorem dX0_beginWithoutWaiting_8 : decode cX0_beginWithoutWaiting 8 = .ok (.iload 5, 2) := by decide +kernel
theorem dX0_beginWithoutWaiting_10 : decode cX0_beginWithoutWaiting 10 = .ok (.aload_n 0, 1) := by decide +kernel
theorem dX0_beginWithoutWaiting_11 : decode cX0_beginWithoutWaiting 11 = .ok (.getfield 13, 3) := by decide +kernel
theorem dX0_beginWithoutWaiting_14 : decode cX0_beginWithoutWaiting 14 = .ok (.if_icmp .ge 37, 3) := by decide +kernel
theorem dX0_beginWithoutWaiting_17 : decode cX0_beginWithoutWaiting 17 = .ok (.iload_n 3, 1) := by decide +kernel
theorem dX0_beginWithoutWaiting_18 : decode cX0_beginWithoutWaiting 18 = .ok (.aload_n 0, 1) := by decide +kernel
theorem dX0_beginWithoutWaiting_19 : decode cX0_beginWithoutWaiting 19 = .ok (.iconst 2, 1) := by decide +kernel
theorem dX0_beginWithoutWaiting_20 : decode cX0_beginWithoutWaiting 20 = .ok (.iload_n 1, 1) := by decide +kernel
theorem dX0_beginWithoutWaiting_21 : decode cX0_beginWithoutWaiting 21 = .ok (.iload 5, 2) := by decide +kernel
theorem dX0_beginWithoutWaiting_23 : decode cX0_beginWithoutWaiting 23 = .ok (.invokevirtual 173, 3) := by decide +kernel
theorem dX0_beginWithoutWaiting_26 : decode cX0_beginWithoutWaiting 26 = .ok (.iload 4, 2) := by decide +kernel
theorem dX0_beginWithoutWaiting_28 : decode cX0_beginWithoutWaiting 28 = .ok (.isub, 1) := by decide +kernel
theorem dX0_beginWithoutWaiting_29 : decode cX0_beginWithoutWaiting 29 = .ok (.invokestatic 167, 3) := by decide +kernel
theorem dX0_beginWithoutWaiting_32 : decode cX0_beginWithoutWaiting 32 = .ok (.istore_n 3, 1) := by decide +kernel
theorem dX0_beginWithoutWaiting_33 : decode cX0_beginWithoutWaiting 33 = .ok (.iload 4, 2) := by decide +kernel
theorem dX0_beginWithoutWaiting_35 : decode cX0_beginWithoutWaiting 35 = .ok (.aload_n 0, 1) := by decide +kernel
theorem dX0_beginWithoutWaiting_36 : decode cX0_beginWithoutWaiting 36 = .ok (.iload_n 2, 1) := by decide +kernel
theorem dX0_beginWithoutWaiting_37 : decode cX0_beginWithoutWaiting 37 = .ok (.iload 5, 2) := by decide +kernel
theorem dX0_beginWithoutWaiting_39 : decode cX0_beginWithoutWaiting 39 = .ok (.invokevirtual 114, 3) := by decide +kernel
theorem dX0_beginWithoutWaiting_42 : decode cX0_beginWithoutWaiting 42 = .ok (.iadd, 1) := by decide +kernel
theorem dX0_beginWithoutWaiting_43 : decode cX0_beginWithoutWaiting 43 = .ok (.istore 4, 2) := by decide +kernel
theorem dX0_beginWithoutWaiting_45 : decode cX0_beginWithoutWaiting 45 = .ok (.iinc 5 1, 3) := by decide +kernel
theorem dX0_beginWithoutWaiting_48 : decode cX0_beginWithoutWaiting 48 = .ok (.goto (-40), 3) := by decide +kernel
theorem dX0_beginWithoutWaiting_51 : decode cX0_beginWithoutWaiting 51 = .ok (.iload_n 3, 1) := by decide +kernel
theorem dX0_beginWithoutWaiting_52 : decode cX0_beginWithoutWaiting 52 = .ok (.ireturn, 1) := by decide +kernel
set_option maxRecDepth 20000 in
theorem ggX0_freeFrom_X0_cell : GoodIn wsX0_freeFrom wsX0_cell := goodIn_r _ [7] (by decide +kernel) (by decide +kernel)
set_option maxRecDepth 20000 in
theorem gX0_freeFrom_X0_cell : GoodIn wsX0_freeFrom (va_wsS RX0 66 yX0_cell wsX0_cell) := goodIn_app (goodIn_of _ (by decide +kernel)) ggX0_freeFrom_X0_cell
theorem dX0_freeFrom_0 : decode cX0_freeFrom 0 = .ok (.iload_n 2, 1) := by decide +kernel
theorem dX0_freeFrom_1 : decode cX0_freeFrom 1 = .ok (.iconst 1, 1) := by decide +kernel
theorem dX0_freeFrom_2 : decode cX0_freeFrom 2 = .ok (.if_icmp .ge 5, 3) := by decide +kernel
theorem dX0_freeFrom_5 : decode cX0_freeFrom 5 = .ok (.iconst 0, 1) := by decide +kernel
theorem dX0_freeFrom_6 : decode cX0_freeFrom 6 = .ok (.ireturn, 1) := by decide +kernel
theorem dX0_freeFrom_7 : decode cX0_freeFrom 7 = .ok (.iload_n 1, 1) := by decide +kernel
theorem dX0_freeFrom_8 : decode cX0_freeFrom 8 = .ok (.iconst 1, 1) := by decide +kernel
theorem dX0_freeFrom_9 : decode cX0_freeFrom 9 = .ok (.if_icmp .ne 28, 3) := by decide +kernel
theorem dX0_freeFrom_12 : decode cX0_freeFrom 12 = .ok (.iload_n 3, 1) := by decide +kernel
theorem dX0_freeFrom_13 : decode cX0_freeFrom 13 = .ok (.aload_n 0, 1) := by decide +kernel
theorem dX0_freeFrom_14 : decode cX0_freeFrom 14 = .ok (.getfield 13, 3) := by decide +kernel
theorem dX0_freeFrom_17 : decode cX0_freeFrom 17 = .ok (.iconst 1, 1) := by decide +kernel
theorem dX0_freeFrom_18 : decode cX0_freeFrom 18 = .ok (.isub, 1) := by decide +kernel
theorem dX0_freeFrom_19 : decode cX0_freeFrom 19 = .ok (.if_icmp .ge 18, 3) := by decide +kernel
theorem dX0_freeFrom_22 : decode cX0_freeFrom 22 = .ok (.aload_n 0, 1) := by decide +kernel
theorem dX0_freeFrom_23 : decode cX0_freeFrom 23 = .ok (.getfield 20, 3) := by decide +kernel
theorem dX0_freeFrom_26 : decode cX0_freeFrom 26 = .ok (.iload_n 2, 1) := by decide +kernel
theorem dX0_freeFrom_27 : decode cX0_freeFrom 27 = .ok (.iconst 1, 1) := by decide +kernel
theorem dX0_freeFrom_28 : decode cX0_freeFrom 28 = .ok (.isub, 1) := by decide +kernel
theorem dX0_freeFrom_29 : decode cX0_freeFrom 29 = .ok (.iload_n 3, 1) := by decide +kernel
theorem dX0_freeFrom_30 : decode cX0_freeFrom 30 = .ok (.iconst 1, 1) := by decide +kernel
theorem dX0_freeFrom_31 : decode cX0_freeFrom 31 = .ok (.iadd, 1) := by decide +kernel
theorem dX0_freeFrom_32 : decode cX0_freeFrom 32 = .ok (.invokestatic 66, 3) := by decide +kernel
theorem dX0_freeFrom_35 : decode cX0_freeFrom 35 = .ok (.iaload, 1) := by decide +kernel
theorem dX0_freeFrom_36 : decode cX0_freeFrom 36 = .ok (.ireturn, 1) := by decide +kernel
theorem dX0_freeFrom_37 : decode cX0_freeFrom 37 = .ok (.aload_n 0, 1) := by decide +kernel
theorem dX0_freeFrom_38 : decode cX0_freeFrom 38 = .ok (.getfield 23, 3) := by decide +kernel
theorem dX0_freeFrom_41 : decode cX0_freeFrom 41 = .ok (.iload_n 2, 1) := by decide +kernel
theorem dX0_freeFrom_42 : decode cX0_freeFrom 42 = .ok (.iconst 1, 1) := by decide +kernel
theorem dX0_freeFrom_43 : decode cX0_freeFrom 43 = .ok (.isub, 1) := by decide +kernel
theorem dX0_freeFrom_44 : decode cX0_freeFrom 44 = .ok (.iload_n 3, 1) := by decide +kernel
theorem dX0_freeFrom_45 : decode cX0_freeFrom 45 = .ok (.invokestatic 66, 3) := by decide +kernel
theorem dX0_freeFrom_48 : decode cX0_freeFrom 48 = .ok (.iaload, 1) := by decide +kernel
theorem dX0_freeFrom_49 : decode cX0_freeFrom 49 = .ok (.ireturn, 1) := by decide +kernel
set_option maxRecDepth 20000 in
theorem ggX0_fillTails_X0_cell : GoodIn wsX0_fillTails wsX0_cell := goodIn_r _ [12] (by decide +kernel) (by decide +kernel)
set_option maxRecDepth 20000 in
theorem gX0_fillTails_X0_cell : GoodIn wsX0_fillTails (va_wsS RX0 66 yX0_cell wsX0_cell) := goodIn_app (goodIn_of _ (by decide +kernel)) ggX0_fillTails_X0_cell
set_option maxRecDepth 20000 in
theorem ggX0_fillTails_X0_timeOf : GoodIn wsX0_fillTails wsX0_timeOf := goodIn_r _ [16, 17, 9, 10, 11, 12, 18, 19, 20, 21, 22, 23, 24, 25, 26, 27, 28, 29, 30] (by decide +kernel) (by decide +kernel)
set_option maxRecDepth 20000 in
theorem gX0_fillTails_X0_timeOf : GoodIn wsX0_fillTails (wsV RX0 114 RX0 yX0_timeOf wsX0_timeOf) := goodIn_app (goodIn_of _ (by decide +kernel)) ggX0_fillTails_X0_timeOf
theorem dX0_fillTails_0 : decode cX0_fillTails 0 = .ok (.aload_n 0, 1) := by decide +kernel
theorem dX0_fillTails_1 : decode cX0_fillTails 1 = .ok (.getfield 7, 3) := by decide +kernel
theorem dX0_fillTails_4 : decode cX0_fillTails 4 = .ok (.iconst 1, 1) := by decide +kernel
theorem dX0_fillTails_5 : decode cX0_fillTails 5 = .ok (.isub, 1) := by decide +kernel
theorem dX0_fillTails_6 : decode cX0_fillTails 6 = .ok (.istore_n 1, 1) := by decide +kernel
theorem dX0_fillTails_7 : decode cX0_fillTails 7 = .ok (.iload_n 1, 1) := by decide +kernel
theorem dX0_fillTails_8 : decode cX0_fillTails 8 = .ok (.ifCond .lt 101, 3) := by decide +kernel
theorem dX0_fillTails_11 : decode cX0_fillTails 11 = .ok (.aload_n 0, 1) := by decide +kernel
theorem dX0_fillTails_12 : decode cX0_fillTails 12 = .ok (.getfield 13, 3) := by decide +kernel
theorem dX0_fillTails_15 : decode cX0_fillTails 15 = .ok (.iconst 1, 1) := by decide +kernel
theorem dX0_fillTails_16 : decode cX0_fillTails 16 = .ok (.isub, 1) := by decide +kernel
theorem dX0_fillTails_17 : decode cX0_fillTails 17 = .ok (.istore_n 2, 1) := by decide +kernel
theorem dX0_fillTails_18 : decode cX0_fillTails 18 = .ok (.iload_n 2, 1) := by decide +kernel
theorem dX0_fillTails_19 : decode cX0_fillTails 19 = .ok (.ifCond .lt 84, 3) := by decide +kernel
theorem dX0_fillTails_22 : decode cX0_fillTails 22 = .ok (.iconst 0, 1) := by decide +kernel
theorem dX0_fillTails_23 : decode cX0_fillTails 23 = .ok (.istore_n 3, 1) := by decide +kernel
theorem dX0_fillTails_24 : decode cX0_fillTails 24 = .ok (.iload_n 2, 1) := by decide +kernel
theorem dX0_fillTails_25 : decode cX0_fillTails 25 = .ok (.aload_n 0, 1) := by decide +kernel
theorem dX0_fillTails_26 : decode cX0_fillTails 26 = .ok (.getfield 13, 3) := by decide +kernel
theorem dX0_fillTails_29 : decode cX0_fillTails 29 = .ok (.iconst 1, 1) := by decide +kernel
theorem dX0_fillTails_30 : decode cX0_fillTails 30 = .ok (.isub, 1) := by decide +kernel
theorem dX0_fillTails_31 : decode cX0_fillTails 31 = .ok (.if_icmp .ge 16, 3) := by decide +kernel
theorem dX0_fillTails_34 : decode cX0_fillTails 34 = .ok (.aload_n 0, 1) := by decide +kernel
theorem dX0_fillTails_35 : decode cX0_fillTails 35 = .ok (.getfield 26, 3) := by decide +kernel
theorem dX0_fillTails_38 : decode cX0_fillTails 38 = .ok (.iload_n 1, 1) := by decide +kernel
theorem dX0_fillTails_39 : decode cX0_fillTails 39 = .ok (.iload_n 2, 1) := by decide +kernel
theorem dX0_fillTails_40 : decode cX0_fillTails 40 = .ok (.iconst 1, 1) := by decide +kernel
theorem dX0_fillTails_41 : decode cX0_fillTails 41 = .ok (.iadd, 1) := by decide +kernel
theorem dX0_fillTails_42 : decode cX0_fillTails 42 = .ok (.invokestatic 66, 3) := by decide +kernel
theorem dX0_fillTails_45 : decode cX0_fillTails 45 = .ok (.iaload, 1) := by decide +kernel
theorem dX0_fillTails_46 : decode cX0_fillTails 46 = .ok (.istore_n 3, 1) := by decide +kernel
theorem dX0_fillTails_47 : decode cX0_fillTails 47 = .ok (.iload_n 1, 1) := by decide +kernel
theorem dX0_fillTails_48 : decode cX0_fillTails 48 = .ok (.aload_n 0, 1) := by decide +kernel
theorem dX0_fillTails_49 : decode cX0_fillTails 49 = .ok (.getfield 7, 3) := by decide +kernel
theorem dX0_fillTails_52 : decode cX0_fillTails 52 = .ok (.iconst 1, 1) := by decide +kernel
theorem dX0_fillTails_53 : decode cX0_fillTails 53 = .ok (.isub, 1) := by decide +kernel
theorem dX0_fillTails_54 : decode cX0_fillTails 54 = .ok (.if_icmp .ge 20, 3) := by decide +kernel
theorem dX0_fillTails_57 : decode cX0_fillTails 57 = .ok (.iload_n 3, 1) := by decide +kernel
theorem dX0_fillTails_58 : decode cX0_fillTails 58 = .ok (.aload_n 0, 1) := by decide +kernel
theorem dX0_fillTails_59 : decode cX0_fillTails 59 = .ok (.getfield 26, 3) := by decide +kernel
theorem dX0_fillTails_62 : decode cX0_fillTails 62 = .ok (.iload_n 1, 1) := by decide +kernel
theorem dX0_fillTails_63 : decode cX0_fillTails 63 = .ok (.iconst 1, 1) := by decide +kernel
theorem dX0_fillTails_64 : decode cX0_fillTails 64 = .ok (.iadd, 1) := by decide +kernel
theorem dX0_fillTails_65 : decode cX0_fillTails 65 = .ok (.iload_n 2, 1) := by decide +kernel
theorem dX0_fillTails_66 : decode cX0_fillTails 66 = .ok (.invokestatic 66, 3) := by decide +kernel
theorem dX0_fillTails_69 : decode cX0_fillTails 69 = .ok (.iaload, 1) := by decide +kernel
theorem dX0_fillTails_70 : decode cX0_fillTails 70 = .ok (.invokestatic 167, 3) := by decide +kernel
theorem dX0_fillTails_73 : decode cX0_fillTails 73 = .ok (.istore_n 3, 1) := by decide +kernel
theorem dX0_fillTails_74 : decode cX0_fillTails 74 = .ok (.aload_n 0, 1) := by decide +kernel
theorem dX0_fillTails_75 : decode cX0_fillTails 75 = .ok (.getfield 26, 3) := by decide +kernel
theorem dX0_fillTails_78 : decode cX0_fillTails 78 = .ok (.iload_n 1, 1) := by decide +kernel
theorem dX0_fillTails_79 : decode cX0_fillTails 79 = .ok (.iload_n 2, 1) := by decide +kernel
theorem dX0_fillTails_80 : decode cX0_fillTails 80 = .ok (.invokestatic 66, 3) := by decide +kernel
theorem dX0_fillTails_83 : decode cX0_fillTails 83 = .ok (.aload_n 0, 1) := by decide +kernel
theorem dX0_fillTails_84 : decode cX0_fillTails 84 = .ok (.aload_n 0, 1) := by decide +kernel
theorem dX0_fillTails_85 : decode cX0_fillTails 85 = .ok (.getfield 29, 3) := by decide +kernel
theorem dX0_fillTails_88 : decode cX0_fillTails 88 = .ok (.iload_n 1, 1) := by decide +kernel
theorem dX0_fillTails_89 : decode cX0_fillTails 89 = .ok (.iaload, 1) := by decide +kernel
theorem dX0_fillTails_90 : decode cX0_fillTails 90 = .ok (.iload_n 2, 1) := by decide +kernel
theorem dX0_fillTails_91 : decode cX0_fillTails 91 = .ok (.invokevirtual 114, 3) := by decide +kernel
theorem dX0_fillTails_94 : decode cX0_fillTails 94 = .ok (.iload_n 3, 1) := by decide +kernel
theorem dX0_fillTails_95 : decode cX0_fillTails 95 = .ok (.iadd, 1) := by decide +kernel
theorem dX0_fillTails_96 : decode cX0_fillTails 96 = .ok (.iastore, 1) := by decide +kernel
theorem dX0_fillTails_97 : decode cX0_fillTails 97 = .ok (.iinc 2 (-1), 3) := by decide +kernel
theorem dX0_fillTails_100 : decode cX0_fillTails 100 = .ok (.goto (-82), 3) := by decide +kernel
theorem dX0_fillTails_103 : decode cX0_fillTails 103 = .ok (.iinc 1 (-1), 3) := by decide +kernel
theorem dX0_fillTails_106 : decode cX0_fillTails 106 = .ok (.goto (-99), 3) := by decide +kernel
theorem dX0_fillTails_109 : decode cX0_fillTails 109 = .ok (.return_, 1) := by decide +kernel
theorem dX0_forgetBestOrders_0 : decode cX0_forgetBestOrders 0 = .ok (.iconst 0, 1) := by decide +kernel
theorem dX0_forgetBestOrders_1 : decode cX0_forgetBestOrders 1 = .ok (.istore_n 1, 1) := by decide +kernel
theorem dX0_forgetBestOrders_2 : decode cX0_forgetBestOrders 2 = .ok (.iload_n 1, 1) := by decide +kernel
theorem dX0_forgetBestOrders_3 : decode cX0_forgetBestOrders 3 = .ok (.iconst 3, 1) := by decide +kernel
theorem dX0_forgetBestOrders_4 : decode cX0_forgetBestOrders 4 = .ok (.if_icmp .ge 16, 3) := by decide +kernel
theorem dX0_forgetBestOrders_7 : decode cX0_forgetBestOrders 7 = .ok (.aload_n 0, 1) := by decide +kernel
theorem dX0_forgetBestOrders_8 : decode cX0_forgetBestOrders 8 = .ok (.getfield 38, 3) := by decide +kernel
theorem dX0_forgetBestOrders_11 : decode cX0_forgetBestOrders 11 = .ok (.iload_n 1, 1) := by decide +kernel
theorem dX0_forgetBestOrders_12 : decode cX0_forgetBestOrders 12 = .ok (.iconst 0, 1) := by decide +kernel
theorem dX0_forgetBestOrders_13 : decode cX0_forgetBestOrders 13 = .ok (.bastore, 1) := by decide +kernel
theorem dX0_forgetBestOrders_14 : decode cX0_forgetBestOrders 14 = .ok (.iinc 1 1, 3) := by decide +kernel
theorem dX0_forgetBestOrders_17 : decode cX0_forgetBestOrders 17 = .ok (.goto (-15), 3) := by decide +kernel
theorem dX0_forgetBestOrders_20 : decode cX0_forgetBestOrders 20 = .ok (.return_, 1) := by decide +kernel
set_option maxRecDepth 20000 in
theorem ggX0_findBestOrder_X0_scheduleJob : GoodIn wsX0_findBestOrder wsX0_scheduleJob := goodIn_r _ [9, 10, 11, 12, 13, 14, 15, 16, 17, 18, 19, 8, 20, 21, 22, 23, 24, 25, 26, 27, 28, 29, 30, 31, 32, 55, 56, 57, 58, 59, 60, 61, 62, 63, 64, 65, 66, 67] (by decide +kernel) (by decide +kernel)
set_option maxRecDepth 20000 in
theorem gX0_findBestOrder_X0_scheduleJob : GoodIn wsX0_findBestOrder (wsV RX0 156 RX0 yX0_scheduleJob wsX0_scheduleJob) := goodIn_app (goodIn_of _ (by decide +kernel)) ggX0_findBestOrder_X0_scheduleJob
set_option maxRecDepth 20000 in
theorem ggX0_findBestOrder_X0_lastEnd : GoodIn wsX0_findBestOrder wsX0_lastEnd := goodIn_r _ [36, 16, 10, 25, 26, 8, 27, 55, 56, 57, 58, 59, 60, 61, 62, 63, 64, 65, 66, 67] (by decide +kernel) (by decide +kernel)
set_option maxRecDepth 20000 in
theorem gX0_findBestOrder_X0_lastEnd : GoodIn wsX0_findBestOrder (wsV RX0 160 RX0 yX0_lastEnd wsX0_lastEnd) := goodIn_app (goodIn_of _ (by decide +kernel)) ggX0_findBestOrder_X0_lastEnd
set_option maxRecDepth 20000 in
theorem ggX0_findBestOrder_X0_countTrial : GoodIn wsX0_findBestOrder wsX0_countTrial := goodIn_r _ [40, 2, 41, 4, 42, 3, 43, 44, 45, 46, 55, 56, 57, 58, 59, 60, 61, 62, 63, 64, 65, 66, 67] (by decide +kernel) (by decide +kernel)
set_option maxRecDepth 20000 in
theorem gX0_findBestOrder_X0_countTrial : GoodIn wsX0_findBestOrder (wsV RX0 176 RX0 yX0_countTrial wsX0_countTrial) := goodIn_app (goodIn_of _ (by decide +kernel)) ggX0_findBestOrder_X0_countTrial
set_option maxRecDepth 20000 in
theorem ggX0_findBestOrder_X0_stepTrial : GoodIn wsX0_findBestOrder wsX0_stepTrial := goodIn_r _ [50, 3, 4, 51, 52, 53, 8, 54, 55, 56, 57, 58, 59, 60, 61, 62, 63, 64, 65, 66, 67] (by decide +kernel) (by decide +kernel)
set_option maxRecDepth 20000 in
theorem gX0_findBestOrder_X0_stepTrial : GoodIn wsX0_findBestOrder (wsV RX0 180 RX0 yX0_stepTrial wsX0_stepTrial) := goodIn_app (goodIn_of _ (by decide +kernel)) ggX0_findBestOrder_X0_stepTrial
theorem dX0_findBestOrder_0 : decode cX0_findBestOrder 0 = .ok (.aload_n 0, 1) := by decide +kernel
theorem dX0_findBestOrder_1 : decode cX0_findBestOrder 1 = .ok (.getfield 38, 3) := by decide +kernel
theorem dX0_findBestOrder_4 : decode cX0_findBestOrder 4 = .ok (.iload_n 1, 1) := by decide +kernel
theorem dX0_findBestOrder_5 : decode cX0_findBestOrder 5 = .ok (.baload, 1) := by decide +kernel
theorem dX0_findBestOrder_6 : decode cX0_findBestOrder 6 = .ok (.ifCond .eq 4, 3) := by decide +kernel
theorem dX0_findBestOrder_9 : decode cX0_findBestOrder 9 = .ok (.return_, 1) := by decide +kernel
theorem dX0_findBestOrder_10 : decode cX0_findBestOrder 10 = .ok (.aload_n 0, 1) := by decide +kernel
theorem dX0_findBestOrder_11 : decode cX0_findBestOrder 11 = .ok (.getfield 45, 3) := by decide +kernel
theorem dX0_findBestOrder_14 : decode cX0_findBestOrder 14 = .ok (.iload_n 1, 1) := by decide +kernel
theorem dX0_findBestOrder_15 : decode cX0_findBestOrder 15 = .ok (.iconst 0, 1) := by decide +kernel
theorem dX0_findBestOrder_16 : decode cX0_findBestOrder 16 = .ok (.iastore, 1) := by decide +kernel
theorem dX0_findBestOrder_17 : decode cX0_findBestOrder 17 = .ok (.iconst 0, 1) := by decide +kernel
theorem dX0_findBestOrder_18 : decode cX0_findBestOrder 18 = .ok (.istore_n 2, 1) := by decide +kernel
theorem dX0_findBestOrder_19 : decode cX0_findBestOrder 19 = .ok (.iload_n 2, 1) := by decide +kernel
theorem dX0_findBestOrder_20 : decode cX0_findBestOrder 20 = .ok (.aload_n 0, 1) := by decide +kernel
theorem dX0_findBestOrder_21 : decode cX0_findBestOrder 21 = .ok (.getfield 7, 3) := by decide +kernel
theorem dX0_findBestOrder_24 : decode cX0_findBestOrder 24 = .ok (.if_icmp .ge 16, 3) := by decide +kernel
theorem dX0_findBestOrder_27 : decode cX0_findBestOrder 27 = .ok (.aload_n 0, 1) := by decide +kernel
theorem dX0_findBestOrder_28 : decode cX0_findBestOrder 28 = .ok (.getfield 32, 3) := by decide +kernel
theorem dX0_findBestOrder_31 : decode cX0_findBestOrder 31 = .ok (.iload_n 2, 1) := by decide +kernel
theorem dX0_findBestOrder_32 : decode cX0_findBestOrder 32 = .ok (.iload_n 2, 1) := by decide +kernel
theorem dX0_findBestOrder_33 : decode cX0_findBestOrder 33 = .ok (.iastore, 1) := by decide +kernel
theorem dX0_findBestOrder_34 : decode cX0_findBestOrder 34 = .ok (.iinc 2 1, 3) := by decide +kernel
theorem dX0_findBestOrder_37 : decode cX0_findBestOrder 37 = .ok (.goto (-18), 3) := by decide +kernel
theorem dX0_findBestOrder_40 : decode cX0_findBestOrder 40 = .ok (.iconst 0, 1) := by decide +kernel
theorem dX0_findBestOrder_41 : decode cX0_findBestOrder 41 = .ok (.istore_n 2, 1) := by decide +kernel
theorem dX0_findBestOrder_42 : decode cX0_findBestOrder 42 = .ok (.iconst 0, 1) := by decide +kernel
theorem dX0_findBestOrder_43 : decode cX0_findBestOrder 43 = .ok (.istore_n 3, 1) := by decide +kernel
theorem dX0_findBestOrder_44 : decode cX0_findBestOrder 44 = .ok (.iload_n 3, 1) := by decide +kernel
theorem dX0_findBestOrder_45 : decode cX0_findBestOrder 45 = .ok (.sipush 5040, 3) := by decide +kernel
theorem dX0_findBestOrder_48 : decode cX0_findBestOrder 48 = .ok (.if_icmp .ge 63, 3) := by decide +kernel
theorem dX0_findBestOrder_51 : decode cX0_findBestOrder 51 = .ok (.iload_n 2, 1) := by decide +kernel
theorem dX0_findBestOrder_52 : decode cX0_findBestOrder 52 = .ok (.ifCond .lt 59, 3) := by decide +kernel
theorem dX0_findBestOrder_55 : decode cX0_findBestOrder 55 = .ok (.iload_n 2, 1) := by decide +kernel
theorem dX0_findBestOrder_56 : decode cX0_findBestOrder 56 = .ok (.istore 4, 2) := by decide +kernel
theorem dX0_findBestOrder_58 : decode cX0_findBestOrder 58 = .ok (.iload 4, 2) := by decide +kernel
theorem dX0_findBestOrder_60 : decode cX0_findBestOrder 60 = .ok (.aload_n 0, 1) := by decide +kernel
theorem dX0_findBestOrder_61 : decode cX0_findBestOrder 61 = .ok (.getfield 7, 3) := by decide +kernel
theorem dX0_findBestOrder_64 : decode cX0_findBestOrder 64 = .ok (.if_icmp .ge 23, 3) := by decide +kernel
theorem dX0_findBestOrder_67 : decode cX0_findBestOrder 67 = .ok (.aload_n 0, 1) := by decide +kernel
theorem dX0_findBestOrder_68 : decode cX0_findBestOrder 68 = .ok (.iload_n 1, 1) := by decide +kernel
theorem dX0_findBestOrder_69 : decode cX0_findBestOrder 69 = .ok (.iload 4, 2) := by decide +kernel
theorem dX0_findBestOrder_71 : decode cX0_findBestOrder 71 = .ok (.aload_n 0, 1) := by decide +kernel
theorem dX0_findBestOrder_72 : decode cX0_findBestOrder 72 = .ok (.getfield 32, 3) := by decide +kernel
theorem dX0_findBestOrder_75 : decode cX0_findBestOrder 75 = .ok (.iload 4, 2) := by decide +kernel
theorem dX0_findBestOrder_77 : decode cX0_findBestOrder 77 = .ok (.iaload, 1) := by decide +kernel
theorem dX0_findBestOrder_78 : decode cX0_findBestOrder 78 = .ok (.invokevirtual 156, 3) := by decide +kernel
theorem dX0_findBestOrder_81 : decode cX0_findBestOrder 81 = .ok (.iinc 4 1, 3) := by decide +kernel
theorem dX0_findBestOrder_84 : decode cX0_findBestOrder 84 = .ok (.goto (-26), 3) := by decide +kernel
theorem dX0_findBestOrder_87 : decode cX0_findBestOrder 87 = .ok (.aload_n 0, 1) := by decide +kernel
theorem dX0_findBestOrder_88 : decode cX0_findBestOrder 88 = .ok (.iload_n 1, 1) := by decide +kernel
theorem dX0_findBestOrder_89 : decode cX0_findBestOrder 89 = .ok (.aload_n 0, 1) := by decide +kernel
theorem dX0_findBestOrder_90 : decode cX0_findBestOrder 90 = .ok (.aload_n 0, 1) := by decide +kernel
theorem dX0_findBestOrder_91 : decode cX0_findBestOrder 91 = .ok (.getfield 7, 3) := by decide +kernel
theorem dX0_findBestOrder_94 : decode cX0_findBestOrder 94 = .ok (.invokevirtual 160, 3) := by decide +kernel
theorem dX0_findBestOrder_97 : decode cX0_findBestOrder 97 = .ok (.invokevirtual 176, 3) := by decide +kernel
theorem dX0_findBestOrder_100 : decode cX0_findBestOrder 100 = .ok (.aload_n 0, 1) := by decide +kernel
theorem dX0_findBestOrder_101 : decode cX0_findBestOrder 101 = .ok (.invokevirtual 180, 3) := by decide +kernel
theorem dX0_findBestOrder_104 : decode cX0_findBestOrder 104 = .ok (.istore_n 2, 1) := by decide +kernel
theorem dX0_findBestOrder_105 : decode cX0_findBestOrder 105 = .ok (.iinc 3 1, 3) := by decide +kernel
theorem dX0_findBestOrder_108 : decode cX0_findBestOrder 108 = .ok (.goto (-64), 3) := by decide +kernel
theorem dX0_findBestOrder_111 : decode cX0_findBestOrder 111 = .ok (.aload_n 0, 1) := by decide +kernel
theorem dX0_findBestOrder_112 : decode cX0_findBestOrder 112 = .ok (.getfield 38, 3) := by decide +kernel
theorem dX0_findBestOrder_115 : decode cX0_findBestOrder 115 = .ok (.iload_n 1, 1) := by decide +kernel
theorem dX0_findBestOrder_116 : decode cX0_findBestOrder 116 = .ok (.iconst 1, 1) := by decide +kernel
theorem dX0_findBestOrder_117 : decode cX0_findBestOrder 117 = .ok (.bastore, 1) := by decide +kernel
theorem dX0_findBestOrder_118 : decode cX0_findBestOrder 118 = .ok (.return_, 1) := by decide +kernel
theorem dX0_countTrial_0 : decode cX0_countTrial 0 = .ok (.aload_n 0, 1) := by decide +kernel
theorem dX0_countTrial_1 : decode cX0_countTrial 1 = .ok (.getfield 45, 3) := by decide +kernel
theorem dX0_countTrial_4 : decode cX0_countTrial 4 = .ok (.iload_n 1, 1) := by decide +kernel
theorem dX0_countTrial_5 : decode cX0_countTrial 5 = .ok (.iaload, 1) := by decide +kernel
theorem dX0_countTrial_6 : decode cX0_countTrial 6 = .ok (.ifCond .eq 13, 3) := by decide +kernel
theorem dX0_countTrial_9 : decode cX0_countTrial 9 = .ok (.iload_n 2, 1) := by decide +kernel
theorem dX0_countTrial_10 : decode cX0_countTrial 10 = .ok (.aload_n 0, 1) := by decide +kernel
theorem dX0_countTrial_11 : decode cX0_countTrial 11 = .ok (.getfield 42, 3) := by decide +kernel
theorem dX0_countTrial_14 : decode cX0_countTrial 14 = .ok (.iload_n 1, 1) := by decide +kernel
theorem dX0_countTrial_15 : decode cX0_countTrial 15 = .ok (.iaload, 1) := by decide +kernel
theorem dX0_countTrial_16 : decode cX0_countTrial 16 = .ok (.if_icmp .ge 37, 3) := by decide +kernel
theorem dX0_countTrial_19 : decode cX0_countTrial 19 = .ok (.aload_n 0, 1) := by decide +kernel
theorem dX0_countTrial_20 : decode cX0_countTrial 20 = .ok (.getfield 42, 3) := by decide +kernel
theorem dX0_countTrial_23 : decode cX0_countTrial 23 = .ok (.iload_n 1, 1) := by decide +kernel
theorem dX0_countTrial_24 : decode cX0_countTrial 24 = .ok (.iload_n 2, 1) := by decide +kernel
theorem dX0_countTrial_25 : decode cX0_countTrial 25 = .ok (.iastore, 1) := by decide +kernel
theorem dX0_countTrial_26 : decode cX0_countTrial 26 = .ok (.aload_n 0, 1) := by decide +kernel
theorem dX0_countTrial_27 : decode cX0_countTrial 27 = .ok (.getfield 45, 3) := by decide +kernel
theorem dX0_countTrial_30 : decode cX0_countTrial 30 = .ok (.iload_n 1, 1) := by decide +kernel
theorem dX0_countTrial_31 : decode cX0_countTrial 31 = .ok (.iconst 0, 1) := by decide +kernel
theorem dX0_countTrial_32 : decode cX0_countTrial 32 = .ok (.iastore, 1) := by decide +kernel
theorem dX0_countTrial_33 : decode cX0_countTrial 33 = .ok (.aload_n 0, 1) := by decide +kernel
theorem dX0_countTrial_34 : decode cX0_countTrial 34 = .ok (.getfield 32, 3) := by decide +kernel
theorem dX0_countTrial_37 : decode cX0_countTrial 37 = .ok (.iconst 0, 1) := by decide +kernel
theorem dX0_countTrial_38 : decode cX0_countTrial 38 = .ok (.aload_n 0, 1) := by decide +kernel
theorem dX0_countTrial_39 : decode cX0_countTrial 39 = .ok (.getfield 48, 3) := by decide +kernel
theorem dX0_countTrial_42 : decode cX0_countTrial 42 = .ok (.iload_n 1, 1) := by decide +kernel
theorem dX0_countTrial_43 : decode cX0_countTrial 43 = .ok (.bipush 7, 2) := by decide +kernel
theorem dX0_countTrial_45 : decode cX0_countTrial 45 = .ok (.imul, 1) := by decide +kernel
theorem dX0_countTrial_46 : decode cX0_countTrial 46 = .ok (.aload_n 0, 1) := by decide +kernel
theorem dX0_countTrial_47 : decode cX0_countTrial 47 = .ok (.getfield 7, 3) := by decide +kernel
theorem dX0_countTrial_50 : decode cX0_countTrial 50 = .ok (.invokestatic 150, 3) := by decide +kernel
theorem dX0_countTrial_53 : decode cX0_countTrial 53 = .ok (.iload_n 2, 1) := by decide +kernel
theorem dX0_countTrial_54 : decode cX0_countTrial 54 = .ok (.aload_n 0, 1) := by decide +kernel
theorem dX0_countTrial_55 : decode cX0_countTrial 55 = .ok (.getfield 42, 3) := by decide +kernel
theorem dX0_countTrial_58 : decode cX0_countTrial 58 = .ok (.iload_n 1, 1) := by decide +kernel
theorem dX0_countTrial_59 : decode cX0_countTrial 59 = .ok (.iaload, 1) := by decide +kernel
theorem dX0_countTrial_60 : decode cX0_countTrial 60 = .ok (.if_icmp .ne 13, 3) := by decide +kernel
theorem dX0_countTrial_63 : decode cX0_countTrial 63 = .ok (.aload_n 0, 1) := by decide +kernel
theorem dX0_countTrial_64 : decode cX0_countTrial 64 = .ok (.getfield 45, 3) := by decide +kernel
theorem dX0_countTrial_67 : decode cX0_countTrial 67 = .ok (.iload_n 1, 1) := by decide +kernel
theorem dX0_countTrial_68 : decode cX0_countTrial 68 = .ok (.dup2, 1) := by decide +kernel
theorem dX0_countTrial_69 : decode cX0_countTrial 69 = .ok (.iaload, 1) := by decide +kernel
theorem dX0_countTrial_70 : decode cX0_countTrial 70 = .ok (.iconst 1, 1) := by decide +kernel
theorem dX0_countTrial_71 : decode cX0_countTrial 71 = .ok (.iadd, 1) := by decide +kernel
theorem dX0_countTrial_72 : decode cX0_countTrial 72 = .ok (.iastore, 1) := by decide +kernel
theorem dX0_countTrial_73 : decode cX0_countTrial 73 = .ok (.return_, 1) := by decide +kernel
set_option maxRecDepth 20000 in
theorem ggX0_stepTrial_X0_swapInTrial : GoodIn wsX0_stepTrial wsX0_swapInTrial := goodIn_r _ [7, 2, 8, 9, 10, 11, 12, 13, 14, 15, 16, 17, 18, 19, 20] (by decide +kernel) (by decide +kernel)
set_option maxRecDepth 20000 in
theorem gX0_stepTrial_X0_swapInTrial : GoodIn wsX0_stepTrial (wsV RX0 184 RX0 yX0_swapInTrial wsX0_swapInTrial) := goodIn_app (goodIn_of _ (by decide +kernel)) ggX0_stepTrial_X0_swapInTrial
theorem dX0_stepTrial_0 : decode cX0_stepTrial 0 = .ok (.aload_n 0, 1) := by decide +kernel
theorem dX0_stepTrial_1 : decode cX0_stepTrial 1 = .ok (.getfield 7, 3) := by decide +kernel
theorem dX0_stepTrial_4 : decode cX0_stepTrial 4 = .ok (.iconst 2, 1) := by decide +kernel
theorem dX0_stepTrial_5 : decode cX0_stepTrial 5 = .ok (.isub, 1) := by decide +kernel
theorem dX0_stepTrial_6 : decode cX0_stepTrial 6 = .ok (.istore_n 1, 1) := by decide +kernel
theorem dX0_stepTrial_7 : decode cX0_stepTrial 7 = .ok (.iload_n 1, 1) := by decide +kernel
theorem dX0_stepTrial_8 : decode cX0_stepTrial 8 = .ok (.ifCond .lt 26, 3) := by decide +kernel
theorem dX0_stepTrial_11 : decode cX0_stepTrial 11 = .ok (.aload_n 0, 1) := by decide +kernel
theorem dX0_stepTrial_12 : decode cX0_stepTrial 12 = .ok (.getfield 32, 3) := by decide +kernel
theorem dX0_stepTrial_15 : decode cX0_stepTrial 15 = .ok (.iload_n 1, 1) := by decide +kernel
theorem dX0_stepTrial_16 : decode cX0_stepTrial 16 = .ok (.iaload, 1) := by decide +kernel
theorem dX0_stepTrial_17 : decode cX0_stepTrial 17 = .ok (.aload_n 0, 1) := by decide +kernel
theorem dX0_stepTrial_18 : decode cX0_stepTrial 18 = .ok (.getfield 32, 3) := by decide +kernel
theorem dX0_stepTrial_21 : decode cX0_stepTrial 21 = .ok (.iload_n 1, 1) := by decide +kernel
theorem dX0_stepTrial_22 : decode cX0_stepTrial 22 = .ok (.iconst 1, 1) := by decide +kernel
theorem dX0_stepTrial_23 : decode cX0_stepTrial 23 = .ok (.iadd, 1) := by decide +kernel
theorem dX0_stepTrial_24 : decode cX0_stepTrial 24 = .ok (.iaload, 1) := by decide +kernel
theorem dX0_stepTrial_25 : decode cX0_stepTrial 25 = .ok (.if_icmp .le 9, 3) := by decide +kernel
theorem dX0_stepTrial_28 : decode cX0_stepTrial 28 = .ok (.iinc 1 (-1), 3) := by decide +kernel
theorem dX0_stepTrial_31 : decode cX0_stepTrial 31 = .ok (.goto (-24), 3) := by decide +kernel
theorem dX0_stepTrial_34 : decode cX0_stepTrial 34 = .ok (.iload_n 1, 1) := by decide +kernel
theorem dX0_stepTrial_35 : decode cX0_stepTrial 35 = .ok (.ifCond .ge 5, 3) := by decide +kernel
theorem dX0_stepTrial_38 : decode cX0_stepTrial 38 = .ok (.iconst (-1), 1) := by decide +kernel
theorem dX0_stepTrial_39 : decode cX0_stepTrial 39 = .ok (.ireturn, 1) := by decide +kernel
theorem dX0_stepTrial_40 : decode cX0_stepTrial 40 = .ok (.aload_n 0, 1) := by decide +kernel
theorem dX0_stepTrial_41 : decode cX0_stepTrial 41 = .ok (.getfield 7, 3) := by decide +kernel
theorem dX0_stepTrial_44 : decode cX0_stepTrial 44 = .ok (.iconst 1, 1) := by decide +kernel
theorem dX0_stepTrial_45 : decode cX0_stepTrial 45 = .ok (.isub, 1) := by decide +kernel
theorem dX0_stepTrial_46 : decode cX0_stepTrial 46 = .ok (.istore_n 2, 1) := by decide +kernel
theorem dX0_stepTrial_47 : decode cX0_stepTrial 47 = .ok (.iload_n 2, 1) := by decide +kernel
theorem dX0_stepTrial_48 : decode cX0_stepTrial 48 = .ok (.iload_n 1, 1) := by decide +kernel
theorem dX0_stepTrial_49 : decode cX0_stepTrial 49 = .ok (.iconst 1, 1) := by decide +kernel
theorem dX0_stepTrial_50 : decode cX0_stepTrial 50 = .ok (.iadd, 1) := by decide +kernel
theorem dX0_stepTrial_51 : decode cX0_stepTrial 51 = .ok (.if_icmp .le 24, 3) := by decide +kernel
theorem dX0_stepTrial_54 : decode cX0_stepTrial 54 = .ok (.aload_n 0, 1) := by decide +kernel
theorem dX0_stepTrial_55 : decode cX0_stepTrial 55 = .ok (.getfield 32, 3) := by decide +kernel
theorem dX0_stepTrial_58 : decode cX0_stepTrial 58 = .ok (.iload_n 2, 1) := by decide +kernel
theorem dX0_stepTrial_59 : decode cX0_stepTrial 59 = .ok (.iaload, 1) := by decide +kernel
theorem dX0_stepTrial_60 : decode cX0_stepTrial 60 = .ok (.aload_n 0, 1) := by decide +kernel
theorem dX0_stepTrial_61 : decode cX0_stepTrial 61 = .ok (.getfield 32, 3) := by decide +kernel
theorem dX0_stepTrial_64 : decode cX0_stepTrial 64 = .ok (.iload_n 1, 1) := by decide +kernel
theorem dX0_stepTrial_65 : decode cX0_stepTrial 65 = .ok (.iaload, 1) := by decide +kernel
theorem dX0_stepTrial_66 : decode cX0_stepTrial 66 = .ok (.if_icmp .ge 9, 3) := by decide +kernel
theorem dX0_stepTrial_69 : decode cX0_stepTrial 69 = .ok (.iinc 2 (-1), 3) := by decide +kernel
theorem dX0_stepTrial_72 : decode cX0_stepTrial 72 = .ok (.goto (-25), 3) := by decide +kernel
theorem dX0_stepTrial_75 : decode cX0_stepTrial 75 = .ok (.aload_n 0, 1) := by decide +kernel
theorem dX0_stepTrial_76 : decode cX0_stepTrial 76 = .ok (.iload_n 1, 1) := by decide +kernel
theorem dX0_stepTrial_77 : decode cX0_stepTrial 77 = .ok (.iload_n 2, 1) := by decide +kernel
theorem dX0_stepTrial_78 : decode cX0_stepTrial 78 = .ok (.invokevirtual 184, 3) := by decide +kernel
theorem dX0_stepTrial_81 : decode cX0_stepTrial 81 = .ok (.iload_n 1, 1) := by decide +kernel
theorem dX0_stepTrial_82 : decode cX0_stepTrial 82 = .ok (.iconst 1, 1) := by decide +kernel
theorem dX0_stepTrial_83 : decode cX0_stepTrial 83 = .ok (.iadd, 1) := by decide +kernel
theorem dX0_stepTrial_84 : decode cX0_stepTrial 84 = .ok (.istore_n 3, 1) := by decide +kernel
theorem dX0_stepTrial_85 : decode cX0_stepTrial 85 = .ok (.aload_n 0, 1) := by decide +kernel
theorem dX0_stepTrial_86 : decode cX0_stepTrial 86 = .ok (.getfield 7, 3) := by decide +kernel
theorem dX0_stepTrial_89 : decode cX0_stepTrial 89 = .ok (.iconst 1, 1) := by decide +kernel
theorem dX0_stepTrial_90 : decode cX0_stepTrial 90 = .ok (.isub, 1) := by decide +kernel
theorem dX0_stepTrial_91 : decode cX0_stepTrial 91 = .ok (.istore 4, 2) := by decide +kernel
theorem dX0_stepTrial_93 : decode cX0_stepTrial 93 = .ok (.iload_n 3, 1) := by decide +kernel
theorem dX0_stepTrial_94 : decode cX0_stepTrial 94 = .ok (.iload 4, 2) := by decide +kernel
theorem dX0_stepTrial_96 : decode cX0_stepTrial 96 = .ok (.if_icmp .ge 19, 3) := by decide +kernel
theorem dX0_stepTrial_99 : decode cX0_stepTrial 99 = .ok (.aload_n 0, 1) := by decide +kernel
theorem dX0_stepTrial_100 : decode cX0_stepTrial 100 = .ok (.iload_n 3, 1) := by decide +kernel
theorem dX0_stepTrial_101 : decode cX0_stepTrial 101 = .ok (.iload 4, 2) := by decide +kernel
theorem dX0_stepTrial_103 : decode cX0_stepTrial 103 = .ok (.invokevirtual 184, 3) := by decide +kernel
theorem dX0_stepTrial_106 : decode cX0_stepTrial 106 = .ok (.iinc 3 1, 3) := by decide +kernel
theorem dX0_stepTrial_109 : decode cX0_stepTrial 109 = .ok (.iinc 4 (-1), 3) := by decide +kernel
theorem dX0_stepTrial_112 : decode cX0_stepTrial 112 = .ok (.goto (-19), 3) := by decide +kernel
theorem dX0_stepTrial_115 : decode cX0_stepTrial 115 = .ok (.iload_n 1, 1) := by decide +kernel
theorem dX0_stepTrial_116 : decode cX0_stepTrial 116 = .ok (.ireturn, 1) := by decide +kernel
theorem dX0_swapInTrial_0 : decode cX0_swapInTrial 0 = .ok (.aload_n 0, 1) := by decide +kernel
theorem dX0_swapInTrial_1 : decode cX0_swapInTrial 1 = .ok (.getfield 32, 3) := by decide +kernel
theorem dX0_swapInTrial_4 : decode cX0_swapInTrial 4 = .ok (.iload_n 1, 1) := by decide +kernel
theorem dX0_swapInTrial_5 : decode cX0_swapInTrial 5 = .ok (.iaload, 1) := by decide +kernel
theorem dX0_swapInTrial_6 : decode cX0_swapInTrial 6 = .ok (.istore_n 3, 1) := by decide +kernel
theorem dX0_swapInTrial_7 : decode cX0_swapInTrial 7 = .ok (.aload_n 0, 1) := by decide +kernel
theorem dX0_swapInTrial_8 : decode cX0_swapInTrial 8 = .ok (.getfield 32, 3) := by decide +kernel
theorem dX0_swapInTrial_11 : decode cX0_swapInTrial 11 = .ok (.iload_n 1, 1) := by decide +kernel
theorem dX0_swapInTrial_12 : decode cX0_swapInTrial 12 = .ok (.aload_n 0, 1) := by decide +kernel
theorem dX0_swapInTrial_13 : decode cX0_swapInTrial 13 = .ok (.getfield 32, 3) := by decide +kernel
theorem dX0_swapInTrial_16 : decode cX0_swapInTrial 16 = .ok (.iload_n 2, 1) := by decide +kernel
theorem dX0_swapInTrial_17 : decode cX0_swapInTrial 17 = .ok (.iaload, 1) := by decide +kernel
theorem dX0_swapInTrial_18 : decode cX0_swapInTrial 18 = .ok (.iastore, 1) := by decide +kernel
theorem dX0_swapInTrial_19 : decode cX0_swapInTrial 19 = .ok (.aload_n 0, 1) := by decide +kernel
theorem dX0_swapInTrial_20 : decode cX0_swapInTrial 20 = .ok (.getfield 32, 3) := by decide +kernel
theorem dX0_swapInTrial_23 : decode cX0_swapInTrial 23 = .ok (.iload_n 2, 1) := by decide +kernel
theorem dX0_swapInTrial_24 : decode cX0_swapInTrial 24 = .ok (.iload_n 3, 1) := by decide +kernel
theorem dX0_swapInTrial_25 : decode cX0_swapInTrial 25 = .ok (.iastore, 1) := by decide +kernel
theorem dX0_swapInTrial_26 : decode cX0_swapInTrial 26 = .ok (.return_, 1) := by decide +kernel
end
section
theorem dX1_init_0 : decode cX1_init 0 = .ok (.aload_n 0, 1) := by decide +kernel
theorem dX1_init_1 : decode cX1_init 1 = .ok (.invokespecial 1, 3) := by decide +kernel
theorem dX1_init_4 : decode cX1_init 4 = .ok (.aload_n 0, 1) := by decide +kernel
theorem dX1_init_5 : decode cX1_init 5 = .ok (.iconst 2, 1) := by decide +kernel
theorem dX1_init_6 : decode cX1_init 6 = .ok (.putfield 7, 3) := by decide +kernel
theorem dX1_init_9 : decode cX1_init 9 = .ok (.aload_n 0, 1) := by decide +kernel
theorem dX1_init_10 : decode cX1_init 10 = .ok (.bipush 35, 2) := by decide +kernel
theorem dX1_init_12 : decode cX1_init 12 = .ok (.newarray .int, 2) := by decide +kernel
theorem dX1_init_14 : decode cX1_init 14 = .ok (.putfield 13, 3) := by decide +kernel
theorem dX1_init_17 : decode cX1_init 17 = .ok (.aload_n 0, 1) := by decide +kernel
theorem dX1_init_18 : decode cX1_init 18 = .ok (.bipush 7, 2) := by decide +kernel
theorem dX1_init_20 : decode cX1_init 20 = .ok (.newarray .int, 2) := by decide +kernel
theorem dX1_init_22 : decode cX1_init 22 = .ok (.putfield 17, 3) := by decide +kernel
theorem dX1_init_25 : decode cX1_init 25 = .ok (.aload_n 0, 1) := by decide +kernel
theorem dX1_init_26 : decode cX1_init 26 = .ok (.bipush 35, 2) := by decide +kernel
theorem dX1_init_28 : decode cX1_init 28 = .ok (.newarray .int, 2) := by decide +kernel
theorem dX1_init_30 : decode cX1_init 30 = .ok (.putfield 20, 3) := by decide +kernel
theorem dX1_init_33 : decode cX1_init 33 = .ok (.aload_n 0, 1) := by decide +kernel
theorem dX1_init_34 : decode cX1_init 34 = .ok (.bipush 40, 2) := by decide +kernel
theorem dX1_init_36 : decode cX1_init 36 = .ok (.newarray .int, 2) := by decide +kernel
theorem dX1_init_38 : decode cX1_init 38 = .ok (.putfield 23, 3) := by decide +kernel
theorem dX1_init_41 : decode cX1_init 41 = .ok (.aload_n 0, 1) := by decide +kernel
theorem dX1_init_42 : decode cX1_init 42 = .ok (.bipush 7, 2) := by decide +kernel
theorem dX1_init_44 : decode cX1_init 44 = .ok (.newarray .int, 2) := by decide +kernel
theorem dX1_init_46 : decode cX1_init 46 = .ok (.putfield 26, 3) := by decide +kernel
theorem dX1_init_49 : decode cX1_init 49 = .ok (.aload_n 0, 1) := by decide +kernel
theorem dX1_init_50 : decode cX1_init 50 = .ok (.bipush 7, 2) := by decide +kernel
theorem dX1_init_52 : decode cX1_init 52 = .ok (.newarray .int, 2) := by decide +kernel
theorem dX1_init_54 : decode cX1_init 54 = .ok (.putfield 29, 3) := by decide +kernel
theorem dX1_init_57 : decode cX1_init 57 = .ok (.aload_n 0, 1) := by decide +kernel
theorem dX1_init_58 : decode cX1_init 58 = .ok (.iconst 0, 1) := by decide +kernel
theorem dX1_init_59 : decode cX1_init 59 = .ok (.putfield 32, 3) := by decide +kernel
theorem dX1_init_62 : decode cX1_init 62 = .ok (.return_, 1) := by decide +kernel
theorem dX1_thrown_0 : decode cX1_thrown 0 = .ok (.aload_n 0, 1) := by decide +kernel
theorem dX1_thrown_1 : decode cX1_thrown 1 = .ok (.getfield 32, 3) := by decide +kernel
theorem dX1_thrown_4 : decode cX1_thrown 4 = .ok (.ireturn, 1) := by decide +kernel
theorem dX1_fails_0 : decode cX1_fails 0 = .ok (.aload_n 0, 1) := by decide +kernel
theorem dX1_fails_1 : decode cX1_fails 1 = .ok (.iload_n 1, 1) := by decide +kernel
theorem dX1_fails_2 : decode cX1_fails 2 = .ok (.putfield 32, 3) := by decide +kernel
theorem dX1_fails_5 : decode cX1_fails 5 = .ok (.iconst 0, 1) := by decide +kernel
theorem dX1_fails_6 : decode cX1_fails 6 = .ok (.ireturn, 1) := by decide +kernel
theorem dX1_in_0 : decode cX1_in 0 = .ok (.iload_n 0, 1) := by decide +kernel
theorem dX1_in_1 : decode cX1_in 1 = .ok (.iload_n 1, 1) := by decide +kernel
theorem dX1_in_2 : decode cX1_in 2 = .ok (.if_icmp .lt 12, 3) := by decide +kernel
theorem dX1_in_5 : decode cX1_in 5 = .ok (.iload_n 0, 1) := by decide +kernel
theorem dX1_in_6 : decode cX1_in 6 = .ok (.iload_n 2, 1) := by decide +kernel
theorem dX1_in_7 : decode cX1_in 7 = .ok (.if_icmp .gt 7, 3) := by decide +kernel
theorem dX1_in_10 : decode cX1_in 10 = .ok (.iconst 1, 1) := by decide +kernel
theorem dX1_in_11 : decode cX1_in 11 = .ok (.goto 4, 3) := by decide +kernel
theorem dX1_in_14 : decode cX1_in 14 = .ok (.iconst 0, 1) := by decide +kernel
theorem dX1_in_15 : decode cX1_in 15 = .ok (.ireturn, 1) := by decide +kernel
set_option maxRecDepth 20000 in
theorem ggX1_isOf_X1_in : GoodIn wsX1_isOf wsX1_in := goodIn_r _ [6] (by decide +kernel) (by decide +kernel)
set_option maxRecDepth 20000 in
theorem gX1_isOf_X1_in : GoodIn wsX1_isOf (va_wsS RX1 38 yX1_in wsX1_in) := goodIn_app (goodIn_of _ (by decide +kernel)) ggX1_isOf_X1_in
theorem dX1_isOf_0 : decode cX1_isOf 0 = .ok (.iload_n 1, 1) := by decide +kernel
theorem dX1_isOf_1 : decode cX1_isOf 1 = .ok (.iconst 0, 1) := by decide +kernel
theorem dX1_isOf_2 : decode cX1_isOf 2 = .ok (.aload_n 0, 1) := by decide +kernel
theorem dX1_isOf_3 : decode cX1_isOf 3 = .ok (.getfield 35, 3) := by decide +kernel
theorem dX1_isOf_6 : decode cX1_isOf 6 = .ok (.iconst 1, 1) := by decide +kernel
theorem dX1_isOf_7 : decode cX1_isOf 7 = .ok (.isub, 1) := by decide +kernel
theorem dX1_isOf_8 : decode cX1_isOf 8 = .ok (.invokestatic 38, 3) := by decide +kernel
theorem dX1_isOf_11 : decode cX1_isOf 11 = .ok (.ifCond .eq 21, 3) := by decide +kernel
theorem dX1_isOf_14 : decode cX1_isOf 14 = .ok (.iload_n 2, 1) := by decide +kernel
theorem dX1_isOf_15 : decode cX1_isOf 15 = .ok (.iconst 0, 1) := by decide +kernel
theorem dX1_isOf_16 : decode cX1_isOf 16 = .ok (.aload_n 0, 1) := by decide +kernel
theorem dX1_isOf_17 : decode cX1_isOf 17 = .ok (.getfield 7, 3) := by decide +kernel
theorem dX1_isOf_20 : decode cX1_isOf 20 = .ok (.iconst 1, 1) := by decide +kernel
theorem dX1_isOf_21 : decode cX1_isOf 21 = .ok (.isub, 1) := by decide +kernel
theorem dX1_isOf_22 : decode cX1_isOf 22 = .ok (.invokestatic 38, 3) := by decide +kernel
theorem dX1_isOf_25 : decode cX1_isOf 25 = .ok (.ifCond .eq 7, 3) := by decide +kernel
theorem dX1_isOf_28 : decode cX1_isOf 28 = .ok (.iconst 1, 1) := by decide +kernel
theorem dX1_isOf_29 : decode cX1_isOf 29 = .ok (.goto 4, 3) := by decide +kernel
theorem dX1_isOf_32 : decode cX1_isOf 32 = .ok (.iconst 0, 1) := by decide +kernel
theorem dX1_isOf_33 : decode cX1_isOf 33 = .ok (.ireturn, 1) := by decide +kernel
theorem dX1_timeOf_0 : decode cX1_timeOf 0 = .ok (.aload_n 0, 1) := by decide +kernel
theorem dX1_timeOf_1 : decode cX1_timeOf 1 = .ok (.getfield 13, 3) := by decide +kernel
theorem dX1_timeOf_4 : decode cX1_timeOf 4 = .ok (.iconst 5, 1) := by decide +kernel
theorem dX1_timeOf_5 : decode cX1_timeOf 5 = .ok (.iload_n 1, 1) := by decide +kernel
theorem dX1_timeOf_6 : decode cX1_timeOf 6 = .ok (.imul, 1) := by decide +kernel
theorem dX1_timeOf_7 : decode cX1_timeOf 7 = .ok (.iload_n 2, 1) := by decide +kernel
theorem dX1_timeOf_8 : decode cX1_timeOf 8 = .ok (.iadd, 1) := by decide +kernel
theorem dX1_timeOf_9 : decode cX1_timeOf 9 = .ok (.iaload, 1) := by decide +kernel
theorem dX1_timeOf_10 : decode cX1_timeOf 10 = .ok (.ireturn, 1) := by decide +kernel
theorem dX1_addJob_0 : decode cX1_addJob 0 = .ok (.aload_n 0, 1) := by decide +kernel
theorem dX1_addJob_1 : decode cX1_addJob 1 = .ok (.aload_n 0, 1) := by decide +kernel
theorem dX1_addJob_2 : decode cX1_addJob 2 = .ok (.getfield 35, 3) := by decide +kernel
theorem dX1_addJob_5 : decode cX1_addJob 5 = .ok (.bipush 7, 2) := by decide +kernel
theorem dX1_addJob_7 : decode cX1_addJob 7 = .ok (.if_icmp .ne 7, 3) := by decide +kernel
theorem dX1_addJob_10 : decode cX1_addJob 10 = .ok (.iconst 1, 1) := by decide +kernel
theorem dX1_addJob_11 : decode cX1_addJob 11 = .ok (.goto 4, 3) := by decide +kernel
theorem dX1_addJob_14 : decode cX1_addJob 14 = .ok (.iconst 0, 1) := by decide +kernel
theorem dX1_addJob_15 : decode cX1_addJob 15 = .ok (.putfield 32, 3) := by decide +kernel
theorem dX1_addJob_18 : decode cX1_addJob 18 = .ok (.aload_n 0, 1) := by decide +kernel
theorem dX1_addJob_19 : decode cX1_addJob 19 = .ok (.getfield 32, 3) := by decide +kernel
theorem dX1_addJob_22 : decode cX1_addJob 22 = .ok (.ifCond .le 5, 3) := by decide +kernel
theorem dX1_addJob_25 : decode cX1_addJob 25 = .ok (.iconst 0, 1) := by decide +kernel
theorem dX1_addJob_26 : decode cX1_addJob 26 = .ok (.ireturn, 1) := by decide +kernel
theorem dX1_addJob_27 : decode cX1_addJob 27 = .ok (.aload_n 0, 1) := by decide +kernel
theorem dX1_addJob_28 : decode cX1_addJob 28 = .ok (.getfield 17, 3) := by decide +kernel
theorem dX1_addJob_31 : decode cX1_addJob 31 = .ok (.aload_n 0, 1) := by decide +kernel
theorem dX1_addJob_32 : decode cX1_addJob 32 = .ok (.getfield 35, 3) := by decide +kernel
theorem dX1_addJob_35 : decode cX1_addJob 35 = .ok (.aload_n 0, 1) := by decide +kernel
theorem dX1_addJob_36 : decode cX1_addJob 36 = .ok (.getfield 35, 3) := by decide +kernel
theorem dX1_addJob_39 : decode cX1_addJob 39 = .ok (.iastore, 1) := by decide +kernel
theorem dX1_addJob_40 : decode cX1_addJob 40 = .ok (.aload_n 0, 1) := by decide +kernel
theorem dX1_addJob_41 : decode cX1_addJob 41 = .ok (.dup, 1) := by decide +kernel
theorem dX1_addJob_42 : decode cX1_addJob 42 = .ok (.getfield 35, 3) := by decide +kernel
theorem dX1_addJob_45 : decode cX1_addJob 45 = .ok (.iconst 1, 1) := by decide +kernel
theorem dX1_addJob_46 : decode cX1_addJob 46 = .ok (.iadd, 1) := by decide +kernel
theorem dX1_addJob_47 : decode cX1_addJob 47 = .ok (.putfield 35, 3) := by decide +kernel
theorem dX1_addJob_50 : decode cX1_addJob 50 = .ok (.aload_n 0, 1) := by decide +kernel
theorem dX1_addJob_51 : decode cX1_addJob 51 = .ok (.getfield 35, 3) := by decide +kernel
theorem dX1_addJob_54 : decode cX1_addJob 54 = .ok (.iconst 1, 1) := by decide +kernel
theorem dX1_addJob_55 : decode cX1_addJob 55 = .ok (.isub, 1) := by decide +kernel
theorem dX1_addJob_56 : decode cX1_addJob 56 = .ok (.ireturn, 1) := by decide +kernel
set_option maxRecDepth 20000 in
theorem ggX1_setMachines_X1_in : GoodIn wsX1_setMachines wsX1_in := goodIn_r _ [7] (by decide +kernel) (by decide +kernel)
set_option maxRecDepth 20000 in
theorem gX1_setMachines_X1_in : GoodIn wsX1_setMachines (va_wsS RX1 38 yX1_in wsX1_in) := goodIn_app (goodIn_of _ (by decide +kernel)) ggX1_setMachines_X1_in
theorem dX1_setMachines_0 : decode cX1_setMachines 0 = .ok (.aload_n 0, 1) := by decide +kernel
theorem dX1_setMachines_1 : decode cX1_setMachines 1 = .ok (.iload_n 1, 1) := by decide +kernel
theorem dX1_setMachines_2 : decode cX1_setMachines 2 = .ok (.iconst 1, 1) := by decide +kernel
theorem dX1_setMachines_3 : decode cX1_setMachines 3 = .ok (.iconst 5, 1) := by decide +kernel
theorem dX1_setMachines_4 : decode cX1_setMachines 4 = .ok (.invokestatic 38, 3) := by decide +kernel
theorem dX1_setMachines_7 : decode cX1_setMachines 7 = .ok (.ifCond .eq 7, 3) := by decide +kernel
theorem dX1_setMachines_10 : decode cX1_setMachines 10 = .ok (.iconst 0, 1) := by decide +kernel
theorem dX1_setMachines_11 : decode cX1_setMachines 11 = .ok (.goto 4, 3) := by decide +kernel
theorem dX1_setMachines_14 : decode cX1_setMachines 14 = .ok (.iconst 1, 1) := by decide +kernel
theorem dX1_setMachines_15 : decode cX1_setMachines 15 = .ok (.putfield 32, 3) := by decide +kernel
theorem dX1_setMachines_18 : decode cX1_setMachines 18 = .ok (.aload_n 0, 1) := by decide +kernel
theorem dX1_setMachines_19 : decode cX1_setMachines 19 = .ok (.getfield 32, 3) := by decide +kernel
theorem dX1_setMachines_22 : decode cX1_setMachines 22 = .ok (.ifCond .le 5, 3) := by decide +kernel
theorem dX1_setMachines_25 : decode cX1_setMachines 25 = .ok (.iconst 0, 1) := by decide +kernel
theorem dX1_setMachines_26 : decode cX1_setMachines 26 = .ok (.ireturn, 1) := by decide +kernel
theorem dX1_setMachines_27 : decode cX1_setMachines 27 = .ok (.aload_n 0, 1) := by decide +kernel
theorem dX1_setMachines_28 : decode cX1_setMachines 28 = .ok (.getfield 7, 3) := by decide +kernel
theorem dX1_setMachines_31 : decode cX1_setMachines 31 = .ok (.istore_n 2, 1) := by decide +kernel
theorem dX1_setMachines_32 : decode cX1_setMachines 32 = .ok (.aload_n 0, 1) := by decide +kernel
theorem dX1_setMachines_33 : decode cX1_setMachines 33 = .ok (.iload_n 1, 1) := by decide +kernel
theorem dX1_setMachines_34 : decode cX1_setMachines 34 = .ok (.putfield 7, 3) := by decide +kernel
theorem dX1_setMachines_37 : decode cX1_setMachines 37 = .ok (.iconst 0, 1) := by decide +kernel
theorem dX1_setMachines_38 : decode cX1_setMachines 38 = .ok (.istore_n 3, 1) := by decide +kernel
theorem dX1_setMachines_39 : decode cX1_setMachines 39 = .ok (.iload_n 3, 1) := by decide +kernel
theorem dX1_setMachines_40 : decode cX1_setMachines 40 = .ok (.bipush 35, 2) := by decide +kernel
theorem dX1_setMachines_42 : decode cX1_setMachines 42 = .ok (.if_icmp .ge 35, 3) := by decide +kernel
theorem dX1_setMachines_45 : decode cX1_setMachines 45 = .ok (.aload_n 0, 1) := by decide +kernel
theorem dX1_setMachines_46 : decode cX1_setMachines 46 = .ok (.getfield 13, 3) := by decide +kernel
theorem dX1_setMachines_49 : decode cX1_setMachines 49 = .ok (.iload_n 3, 1) := by decide +kernel
theorem dX1_setMachines_50 : decode cX1_setMachines 50 = .ok (.iload_n 3, 1) := by decide +kernel
theorem dX1_setMachines_51 : decode cX1_setMachines 51 = .ok (.iconst 5, 1) := by decide +kernel
theorem dX1_setMachines_52 : decode cX1_setMachines 52 = .ok (.irem, 1) := by decide +kernel
theorem dX1_setMachines_53 : decode cX1_setMachines 53 = .ok (.aload_n 0, 1) := by decide +kernel
theorem dX1_setMachines_54 : decode cX1_setMachines 54 = .ok (.getfield 7, 3) := by decide +kernel
theorem dX1_setMachines_57 : decode cX1_setMachines 57 = .ok (.if_icmp .ge 12, 3) := by decide +kernel
theorem dX1_setMachines_60 : decode cX1_setMachines 60 = .ok (.aload_n 0, 1) := by decide +kernel
theorem dX1_setMachines_61 : decode cX1_setMachines 61 = .ok (.getfield 13, 3) := by decide +kernel
theorem dX1_setMachines_64 : decode cX1_setMachines 64 = .ok (.iload_n 3, 1) := by decide +kernel
theorem dX1_setMachines_65 : decode cX1_setMachines 65 = .ok (.iaload, 1) := by decide +kernel
theorem dX1_setMachines_66 : decode cX1_setMachines 66 = .ok (.goto 4, 3) := by decide +kernel
theorem dX1_setMachines_69 : decode cX1_setMachines 69 = .ok (.iconst 0, 1) := by decide +kernel
theorem dX1_setMachines_70 : decode cX1_setMachines 70 = .ok (.iastore, 1) := by decide +kernel
theorem dX1_setMachines_71 : decode cX1_setMachines 71 = .ok (.iinc 3 1, 3) := by decide +kernel
theorem dX1_setMachines_74 : decode cX1_setMachines 74 = .ok (.goto (-35), 3) := by decide +kernel
theorem dX1_setMachines_77 : decode cX1_setMachines 77 = .ok (.iload_n 2, 1) := by decide +kernel
theorem dX1_setMachines_78 : decode cX1_setMachines 78 = .ok (.ireturn, 1) := by decide +kernel
set_option maxRecDepth 20000 in
theorem ggX1_setTime_X1_isOf : GoodIn wsX1_setTime wsX1_isOf := goodIn_r _ [7, 8, 9, 10, 11, 6, 12, 17, 18, 19, 20, 21, 22, 23, 24, 25, 26] (by decide +kernel) (by decide +kernel)
set_option maxRecDepth 20000 in
theorem gX1_setTime_X1_isOf : GoodIn wsX1_setTime (wsV RX1 42 RX1 yX1_isOf wsX1_isOf) := goodIn_app (goodIn_of _ (by decide +kernel)) ggX1_setTime_X1_isOf
set_option maxRecDepth 20000 in
theorem ggX1_setTime_X1_in : GoodIn wsX1_setTime wsX1_in := goodIn_r _ [12] (by decide +kernel) (by decide +kernel)
set_option maxRecDepth 20000 in
theorem gX1_setTime_X1_in : GoodIn wsX1_setTime (va_wsS RX1 38 yX1_in wsX1_in) := goodIn_app (goodIn_of _ (by decide +kernel)) ggX1_setTime_X1_in
set_option maxRecDepth 20000 in
theorem ggX1_setTime_X1_timeOf : GoodIn wsX1_setTime wsX1_timeOf := goodIn_r _ [16, 2, 17, 18, 19, 20, 21, 22, 23, 24, 25, 26] (by decide +kernel) (by decide +kernel)
set_option maxRecDepth 20000 in
theorem gX1_setTime_X1_timeOf : GoodIn wsX1_setTime (wsV RX1 46 RX1 yX1_timeOf wsX1_timeOf) := goodIn_app (goodIn_of _ (by decide +kernel)) ggX1_setTime_X1_timeOf
theorem dX1_setTime_0 : decode cX1_setTime 0 = .ok (.aload_n 0, 1) := by decide +kernel
theorem dX1_setTime_1 : decode cX1_setTime 1 = .ok (.aload_n 0, 1) := by decide +kernel
theorem dX1_setTime_2 : decode cX1_setTime 2 = .ok (.iload_n 1, 1) := by decide +kernel
theorem dX1_setTime_3 : decode cX1_setTime 3 = .ok (.iload_n 2, 1) := by decide +kernel
theorem dX1_setTime_4 : decode cX1_setTime 4 = .ok (.invokevirtual 42, 3) := by decide +kernel
theorem dX1_setTime_7 : decode cX1_setTime 7 = .ok (.ifCond .ne 7, 3) := by decide +kernel
theorem dX1_setTime_10 : decode cX1_setTime 10 = .ok (.iconst 1, 1) := by decide +kernel
theorem dX1_setTime_11 : decode cX1_setTime 11 = .ok (.goto 18, 3) := by decide +kernel
theorem dX1_setTime_14 : decode cX1_setTime 14 = .ok (.iload_n 3, 1) := by decide +kernel
theorem dX1_setTime_15 : decode cX1_setTime 15 = .ok (.iconst 0, 1) := by decide +kernel
theorem dX1_setTime_16 : decode cX1_setTime 16 = .ok (.bipush 99, 2) := by decide +kernel
theorem dX1_setTime_18 : decode cX1_setTime 18 = .ok (.invokestatic 38, 3) := by decide +kernel
theorem dX1_setTime_21 : decode cX1_setTime 21 = .ok (.ifCond .eq 7, 3) := by decide +kernel
theorem dX1_setTime_24 : decode cX1_setTime 24 = .ok (.iconst 0, 1) := by decide +kernel
theorem dX1_setTime_25 : decode cX1_setTime 25 = .ok (.goto 4, 3) := by decide +kernel
theorem dX1_setTime_28 : decode cX1_setTime 28 = .ok (.iconst 2, 1) := by decide +kernel
theorem dX1_setTime_29 : decode cX1_setTime 29 = .ok (.putfield 32, 3) := by decide +kernel
theorem dX1_setTime_32 : decode cX1_setTime 32 = .ok (.aload_n 0, 1) := by decide +kernel
theorem dX1_setTime_33 : decode cX1_setTime 33 = .ok (.getfield 32, 3) := by decide +kernel
theorem dX1_setTime_36 : decode cX1_setTime 36 = .ok (.ifCond .le 5, 3) := by decide +kernel
theorem dX1_setTime_39 : decode cX1_setTime 39 = .ok (.iconst 0, 1) := by decide +kernel
theorem dX1_setTime_40 : decode cX1_setTime 40 = .ok (.ireturn, 1) := by decide +kernel
theorem dX1_setTime_41 : decode cX1_setTime 41 = .ok (.aload_n 0, 1) := by decide +kernel
theorem dX1_setTime_42 : decode cX1_setTime 42 = .ok (.iload_n 1, 1) := by decide +kernel
theorem dX1_setTime_43 : decode cX1_setTime 43 = .ok (.iload_n 2, 1) := by decide +kernel
theorem dX1_setTime_44 : decode cX1_setTime 44 = .ok (.invokevirtual 46, 3) := by decide +kernel
theorem dX1_setTime_47 : decode cX1_setTime 47 = .ok (.istore 4, 2) := by decide +kernel
theorem dX1_setTime_49 : decode cX1_setTime 49 = .ok (.aload_n 0, 1) := by decide +kernel
theorem dX1_setTime_50 : decode cX1_setTime 50 = .ok (.getfield 13, 3) := by decide +kernel
theorem dX1_setTime_53 : decode cX1_setTime 53 = .ok (.iconst 5, 1) := by decide +kernel
theorem dX1_setTime_54 : decode cX1_setTime 54 = .ok (.iload_n 1, 1) := by decide +kernel
theorem dX1_setTime_55 : decode cX1_setTime 55 = .ok (.imul, 1) := by decide +kernel
theorem dX1_setTime_56 : decode cX1_setTime 56 = .ok (.iload_n 2, 1) := by decide +kernel
theorem dX1_setTime_57 : decode cX1_setTime 57 = .ok (.iadd, 1) := by decide +kernel
theorem dX1_setTime_58 : decode cX1_setTime 58 = .ok (.iload_n 3, 1) := by decide +kernel
theorem dX1_setTime_59 : decode cX1_setTime 59 = .ok (.iastore, 1) := by decide +kernel
theorem dX1_setTime_60 : decode cX1_setTime 60 = .ok (.iload 4, 2) := by decide +kernel
theorem dX1_setTime_62 : decode cX1_setTime 62 = .ok (.ireturn, 1) := by decide +kernel
set_option maxRecDepth 20000 in
theorem ggX1_time_X1_isOf : GoodIn wsX1_time wsX1_isOf := goodIn_r _ [6, 7, 8, 9, 10, 5, 11, 21, 22, 23, 24, 25, 26, 27, 28, 29, 30] (by decide +kernel) (by decide +kernel)
set_option maxRecDepth 20000 in
theorem gX1_time_X1_isOf : GoodIn wsX1_time (wsV RX1 42 RX1 yX1_isOf wsX1_isOf) := goodIn_app (goodIn_of _ (by decide +kernel)) ggX1_time_X1_isOf
set_option maxRecDepth 20000 in
theorem ggX1_time_X1_timeOf : GoodIn wsX1_time wsX1_timeOf := goodIn_r _ [15, 16, 21, 22, 23, 24, 25, 26, 27, 28, 29, 30] (by decide +kernel) (by decide +kernel)
set_option maxRecDepth 20000 in
theorem gX1_time_X1_timeOf : GoodIn wsX1_time (wsV RX1 46 RX1 yX1_timeOf wsX1_timeOf) := goodIn_app (goodIn_of _ (by decide +kernel)) ggX1_time_X1_timeOf
set_option maxRecDepth 20000 in
theorem ggX1_time_X1_fails : GoodIn wsX1_time wsX1_fails := goodIn_r _ [20, 1, 21, 22, 23, 24, 25, 26, 27, 28, 29, 30] (by decide +kernel) (by decide +kernel)
set_option maxRecDepth 20000 in
theorem gX1_time_X1_fails : GoodIn wsX1_time (wsV RX1 50 RX1 yX1_fails wsX1_fails) := goodIn_app (goodIn_of _ (by decide +kernel)) ggX1_time_X1_fails
theorem dX1_time_0 : decode cX1_time 0 = .ok (.aload_n 0, 1) := by decide +kernel
theorem dX1_time_1 : decode cX1_time 1 = .ok (.iconst 0, 1) := by decide +kernel
theorem dX1_time_2 : decode cX1_time 2 = .ok (.putfield 32, 3) := by decide +kernel
theorem dX1_time_5 : decode cX1_time 5 = .ok (.aload_n 0, 1) := by decide +kernel
theorem dX1_time_6 : decode cX1_time 6 = .ok (.iload_n 1, 1) := by decide +kernel
theorem dX1_time_7 : decode cX1_time 7 = .ok (.iload_n 2, 1) := by decide +kernel
theorem dX1_time_8 : decode cX1_time 8 = .ok (.invokevirtual 42, 3) := by decide +kernel
theorem dX1_time_11 : decode cX1_time 11 = .ok (.ifCond .eq 12, 3) := by decide +kernel
theorem dX1_time_14 : decode cX1_time 14 = .ok (.aload_n 0, 1) := by decide +kernel
theorem dX1_time_15 : decode cX1_time 15 = .ok (.iload_n 1, 1) := by decide +kernel
theorem dX1_time_16 : decode cX1_time 16 = .ok (.iload_n 2, 1) := by decide +kernel
theorem dX1_time_17 : decode cX1_time 17 = .ok (.invokevirtual 46, 3) := by decide +kernel
theorem dX1_time_20 : decode cX1_time 20 = .ok (.goto 8, 3) := by decide +kernel
theorem dX1_time_23 : decode cX1_time 23 = .ok (.aload_n 0, 1) := by decide +kernel
theorem dX1_time_24 : decode cX1_time 24 = .ok (.iconst 1, 1) := by decide +kernel
theorem dX1_time_25 : decode cX1_time 25 = .ok (.invokevirtual 50, 3) := by decide +kernel
theorem dX1_time_28 : decode cX1_time 28 = .ok (.ireturn, 1) := by decide +kernel
theorem dX1_jobs_0 : decode cX1_jobs 0 = .ok (.aload_n 0, 1) := by decide +kernel
theorem dX1_jobs_1 : decode cX1_jobs 1 = .ok (.iconst 0, 1) := by decide +kernel
theorem dX1_jobs_2 : decode cX1_jobs 2 = .ok (.putfield 32, 3) := by decide +kernel
theorem dX1_jobs_5 : decode cX1_jobs 5 = .ok (.aload_n 0, 1) := by decide +kernel
theorem dX1_jobs_6 : decode cX1_jobs 6 = .ok (.getfield 35, 3) := by decide +kernel
theorem dX1_jobs_9 : decode cX1_jobs 9 = .ok (.ireturn, 1) := by decide +kernel
theorem dX1_machines_0 : decode cX1_machines 0 = .ok (.aload_n 0, 1) := by decide +kernel
theorem dX1_machines_1 : decode cX1_machines 1 = .ok (.iconst 0, 1) := by decide +kernel
theorem dX1_machines_2 : decode cX1_machines 2 = .ok (.putfield 32, 3) := by decide +kernel
theorem dX1_machines_5 : decode cX1_machines 5 = .ok (.aload_n 0, 1) := by decide +kernel
theorem dX1_machines_6 : decode cX1_machines 6 = .ok (.getfield 7, 3) := by decide +kernel
theorem dX1_machines_9 : decode cX1_machines 9 = .ok (.ireturn, 1) := by decide +kernel
theorem dX1_startOf_0 : decode cX1_startOf 0 = .ok (.aload_n 0, 1) := by decide +kernel
theorem dX1_startOf_1 : decode cX1_startOf 1 = .ok (.getfield 20, 3) := by decide +kernel
theorem dX1_startOf_4 : decode cX1_startOf 4 = .ok (.iconst 5, 1) := by decide +kernel
theorem dX1_startOf_5 : decode cX1_startOf 5 = .ok (.iload_n 1, 1) := by decide +kernel
theorem dX1_startOf_6 : decode cX1_startOf 6 = .ok (.imul, 1) := by decide +kernel
theorem dX1_startOf_7 : decode cX1_startOf 7 = .ok (.iload_n 2, 1) := by decide +kernel
theorem dX1_startOf_8 : decode cX1_startOf 8 = .ok (.iadd, 1) := by decide +kernel
theorem dX1_startOf_9 : decode cX1_startOf 9 = .ok (.iaload, 1) := by decide +kernel
theorem dX1_startOf_10 : decode cX1_startOf 10 = .ok (.ireturn, 1) := by decide +kernel
set_option maxRecDepth 20000 in
theorem ggX1_endOf_X1_startOf : GoodIn wsX1_endOf wsX1_startOf := goodIn_r _ [5, 6, 12, 13, 14, 15, 16, 17, 18, 19, 20, 21] (by decide +kernel) (by decide +kernel)
set_option maxRecDepth 20000 in
theorem gX1_endOf_X1_startOf : GoodIn wsX1_endOf (wsV RX1 54 RX1 yX1_startOf wsX1_startOf) := goodIn_app (goodIn_of _ (by decide +kernel)) ggX1_endOf_X1_startOf
set_option maxRecDepth 20000 in
theorem ggX1_endOf_X1_timeOf : GoodIn wsX1_endOf wsX1_timeOf := goodIn_r _ [10, 11, 12, 13, 14, 15, 16, 17, 18, 19, 20, 21] (by decide +kernel) (by decide +kernel)
set_option maxRecDepth 20000 in
theorem gX1_endOf_X1_timeOf : GoodIn wsX1_endOf (wsV RX1 46 RX1 yX1_timeOf wsX1_timeOf) := goodIn_app (goodIn_of _ (by decide +kernel)) ggX1_endOf_X1_timeOf
theorem dX1_endOf_0 : decode cX1_endOf 0 = .ok (.aload_n 0, 1) := by decide +kernel
theorem dX1_endOf_1 : decode cX1_endOf 1 = .ok (.iload_n 2, 1) := by decide +kernel
theorem dX1_endOf_2 : decode cX1_endOf 2 = .ok (.iload_n 3, 1) := by decide +kernel
theorem dX1_endOf_3 : decode cX1_endOf 3 = .ok (.invokevirtual 54, 3) := by decide +kernel
theorem dX1_endOf_6 : decode cX1_endOf 6 = .ok (.aload_n 0, 1) := by decide +kernel
theorem dX1_endOf_7 : decode cX1_endOf 7 = .ok (.aload_n 1, 1) := by decide +kernel
theorem dX1_endOf_8 : decode cX1_endOf 8 = .ok (.iload_n 2, 1) := by decide +kernel
theorem dX1_endOf_9 : decode cX1_endOf 9 = .ok (.iaload, 1) := by decide +kernel
theorem dX1_endOf_10 : decode cX1_endOf 10 = .ok (.iload_n 3, 1) := by decide +kernel
theorem dX1_endOf_11 : decode cX1_endOf 11 = .ok (.invokevirtual 46, 3) := by decide +kernel
theorem dX1_endOf_14 : decode cX1_endOf 14 = .ok (.iadd, 1) := by decide +kernel
theorem dX1_endOf_15 : decode cX1_endOf 15 = .ok (.ireturn, 1) := by decide +kernel
set_option maxRecDepth 20000 in
theorem ggX1_freeAt_X1_startOf : GoodIn wsX1_freeAt wsX1_startOf := goodIn_r _ [6, 7, 17, 18, 19, 20, 21, 22, 23, 24, 25, 26] (by decide +kernel) (by decide +kernel)
set_option maxRecDepth 20000 in
theorem gX1_freeAt_X1_startOf : GoodIn wsX1_freeAt (wsV RX1 54 RX1 yX1_startOf wsX1_startOf) := goodIn_app (goodIn_of _ (by decide +kernel)) ggX1_freeAt_X1_startOf
set_option maxRecDepth 20000 in
theorem ggX1_freeAt_X1_endOf : GoodIn wsX1_freeAt wsX1_endOf := goodIn_r _ [11, 2, 3, 4, 5, 6, 7, 12, 13, 14, 15, 16, 17, 18, 19, 20, 21, 22, 23, 24, 25, 26] (by decide +kernel) (by decide +kernel)
set_option maxRecDepth 20000 in
theorem gX1_freeAt_X1_endOf : GoodIn wsX1_freeAt (wsV RX1 57 RX1 yX1_endOf wsX1_endOf) := goodIn_app (goodIn_of _ (by decide +kernel)) ggX1_freeAt_X1_endOf
theorem dX1_freeAt_0 : decode cX1_freeAt 0 = .ok (.iload_n 1, 1) := by decide +kernel
theorem dX1_freeAt_1 : decode cX1_freeAt 1 = .ok (.iconst 1, 1) := by decide +kernel
theorem dX1_freeAt_2 : decode cX1_freeAt 2 = .ok (.if_icmp .ne 28, 3) := by decide +kernel
theorem dX1_freeAt_5 : decode cX1_freeAt 5 = .ok (.iload 4, 2) := by decide +kernel
theorem dX1_freeAt_7 : decode cX1_freeAt 7 = .ok (.iconst 1, 1) := by decide +kernel
theorem dX1_freeAt_8 : decode cX1_freeAt 8 = .ok (.iadd, 1) := by decide +kernel
theorem dX1_freeAt_9 : decode cX1_freeAt 9 = .ok (.aload_n 0, 1) := by decide +kernel
theorem dX1_freeAt_10 : decode cX1_freeAt 10 = .ok (.getfield 7, 3) := by decide +kernel
theorem dX1_freeAt_13 : decode cX1_freeAt 13 = .ok (.if_icmp .ge 17, 3) := by decide +kernel
theorem dX1_freeAt_16 : decode cX1_freeAt 16 = .ok (.aload_n 0, 1) := by decide +kernel
theorem dX1_freeAt_17 : decode cX1_freeAt 17 = .ok (.iload_n 3, 1) := by decide +kernel
theorem dX1_freeAt_18 : decode cX1_freeAt 18 = .ok (.iconst 1, 1) := by decide +kernel
theorem dX1_freeAt_19 : decode cX1_freeAt 19 = .ok (.isub, 1) := by decide +kernel
theorem dX1_freeAt_20 : decode cX1_freeAt 20 = .ok (.iload 4, 2) := by decide +kernel
theorem dX1_freeAt_22 : decode cX1_freeAt 22 = .ok (.iconst 1, 1) := by decide +kernel
theorem dX1_freeAt_23 : decode cX1_freeAt 23 = .ok (.iadd, 1) := by decide +kernel
theorem dX1_freeAt_24 : decode cX1_freeAt 24 = .ok (.invokevirtual 54, 3) := by decide +kernel
theorem dX1_freeAt_27 : decode cX1_freeAt 27 = .ok (.goto 13, 3) := by decide +kernel
theorem dX1_freeAt_30 : decode cX1_freeAt 30 = .ok (.aload_n 0, 1) := by decide +kernel
theorem dX1_freeAt_31 : decode cX1_freeAt 31 = .ok (.aload_n 2, 1) := by decide +kernel
theorem dX1_freeAt_32 : decode cX1_freeAt 32 = .ok (.iload_n 3, 1) := by decide +kernel
theorem dX1_freeAt_33 : decode cX1_freeAt 33 = .ok (.iconst 1, 1) := by decide +kernel
theorem dX1_freeAt_34 : decode cX1_freeAt 34 = .ok (.isub, 1) := by decide +kernel
theorem dX1_freeAt_35 : decode cX1_freeAt 35 = .ok (.iload 4, 2) := by decide +kernel
theorem dX1_freeAt_37 : decode cX1_freeAt 37 = .ok (.invokevirtual 57, 3) := by decide +kernel
theorem dX1_freeAt_40 : decode cX1_freeAt 40 = .ok (.ireturn, 1) := by decide +kernel
set_option maxRecDepth 20000 in
theorem ggX1_lays_X1_freeAt : GoodIn wsX1_lays wsX1_freeAt := goodIn_r _ [7, 1, 8, 9, 10, 6, 11, 2, 12, 13, 14, 15, 16, 17, 18, 19, 20, 25, 26, 27, 28, 29, 30, 31, 32, 33, 34] (by decide +kernel) (by decide +kernel)
set_option maxRecDepth 20000 in
theorem gX1_lays_X1_freeAt : GoodIn wsX1_lays (wsV RX1 61 RX1 yX1_freeAt wsX1_freeAt) := goodIn_app (goodIn_of _ (by decide +kernel)) ggX1_lays_X1_freeAt
set_option maxRecDepth 20000 in
theorem ggX1_lays_X1_timeOf : GoodIn wsX1_lays wsX1_timeOf := goodIn_r _ [19, 20, 25, 26, 27, 28, 29, 30, 31, 32, 33, 34] (by decide +kernel) (by decide +kernel)
set_option maxRecDepth 20000 in
theorem gX1_lays_X1_timeOf : GoodIn wsX1_lays (wsV RX1 46 RX1 yX1_timeOf wsX1_timeOf) := goodIn_app (goodIn_of _ (by decide +kernel)) ggX1_lays_X1_timeOf
set_option maxRecDepth 20000 in
theorem ggX1_lays_X1_pullsTogether : GoodIn wsX1_lays wsX1_pullsTogether := goodIn_r _ [24, 1, 2, 8, 9, 10, 6, 11, 16, 17, 18, 19, 20, 25, 26, 27, 28, 29, 30, 31, 32, 33, 34] (by decide +kernel) (by decide +kernel)
set_option maxRecDepth 20000 in
theorem gX1_lays_X1_pullsTogether : GoodIn wsX1_lays (wsV RX1 65 RX1 yX1_pullsTogether wsX1_pullsTogether) := goodIn_app (goodIn_of _ (by decide +kernel)) ggX1_lays_X1_pullsTogether
set_option maxRecDepth 20000 in
theorem ggX1_lays_X1_endOf : GoodIn wsX1_lays wsX1_endOf := goodIn_r _ [15, 8, 9, 10, 6, 11, 2, 16, 17, 18, 19, 20, 25, 26, 27, 28, 29, 30, 31, 32, 33, 34] (by decide +kernel) (by decide +kernel)
set_option maxRecDepth 20000 in
theorem gX1_lays_X1_endOf : GoodIn wsX1_lays (wsV RX1 57 RX1 yX1_endOf wsX1_endOf) := goodIn_app (goodIn_of _ (by decide +kernel)) ggX1_lays_X1_endOf
theorem dX1_lays_0 : decode cX1_lays 0 = .ok (.iconst 0, 1) := by decide +kernel
theorem dX1_lays_1 : decode cX1_lays 1 = .ok (.istore 4, 2) := by decide +kernel
theorem dX1_lays_3 : decode cX1_lays 3 = .ok (.iload 4, 2) := by decide +kernel
theorem dX1_lays_5 : decode cX1_lays 5 = .ok (.iload_n 3, 1) := by decide +kernel
theorem dX1_lays_6 : decode cX1_lays 6 = .ok (.if_icmp .ge 108, 3) := by decide +kernel
theorem dX1_lays_9 : decode cX1_lays 9 = .ok (.iconst 0, 1) := by decide +kernel
theorem dX1_lays_10 : decode cX1_lays 10 = .ok (.istore 5, 2) := by decide +kernel
theorem dX1_lays_12 : decode cX1_lays 12 = .ok (.iconst 0, 1) := by decide +kernel
theorem dX1_lays_13 : decode cX1_lays 13 = .ok (.istore 6, 2) := by decide +kernel
theorem dX1_lays_15 : decode cX1_lays 15 = .ok (.iload 6, 2) := by decide +kernel
theorem dX1_lays_17 : decode cX1_lays 17 = .ok (.aload_n 0, 1) := by decide +kernel
theorem dX1_lays_18 : decode cX1_lays 18 = .ok (.getfield 7, 3) := by decide +kernel
theorem dX1_lays_21 : decode cX1_lays 21 = .ok (.if_icmp .ge 75, 3) := by decide +kernel
theorem dX1_lays_24 : decode cX1_lays 24 = .ok (.iload 4, 2) := by decide +kernel
theorem dX1_lays_26 : decode cX1_lays 26 = .ok (.ifCond .le 16, 3) := by decide +kernel
theorem dX1_lays_29 : decode cX1_lays 29 = .ok (.aload_n 0, 1) := by decide +kernel
theorem dX1_lays_30 : decode cX1_lays 30 = .ok (.iload_n 1, 1) := by decide +kernel
theorem dX1_lays_31 : decode cX1_lays 31 = .ok (.aload_n 2, 1) := by decide +kernel
theorem dX1_lays_32 : decode cX1_lays 32 = .ok (.iload 4, 2) := by decide +kernel
theorem dX1_lays_34 : decode cX1_lays 34 = .ok (.iload 6, 2) := by decide +kernel
theorem dX1_lays_36 : decode cX1_lays 36 = .ok (.invokevirtual 61, 3) := by decide +kernel
theorem dX1_lays_39 : decode cX1_lays 39 = .ok (.goto 4, 3) := by decide +kernel
theorem dX1_lays_42 : decode cX1_lays 42 = .ok (.iconst 0, 1) := by decide +kernel
theorem dX1_lays_43 : decode cX1_lays 43 = .ok (.istore 7, 2) := by decide +kernel
theorem dX1_lays_45 : decode cX1_lays 45 = .ok (.iload 7, 2) := by decide +kernel
theorem dX1_lays_47 : decode cX1_lays 47 = .ok (.iload 5, 2) := by decide +kernel
theorem dX1_lays_49 : decode cX1_lays 49 = .ok (.if_icmp .le 8, 3) := by decide +kernel
theorem dX1_lays_52 : decode cX1_lays 52 = .ok (.iload 7, 2) := by decide +kernel
theorem dX1_lays_54 : decode cX1_lays 54 = .ok (.goto 5, 3) := by decide +kernel
theorem dX1_lays_57 : decode cX1_lays 57 = .ok (.iload 5, 2) := by decide +kernel
theorem dX1_lays_59 : decode cX1_lays 59 = .ok (.istore 5, 2) := by decide +kernel
theorem dX1_lays_61 : decode cX1_lays 61 = .ok (.aload_n 0, 1) := by decide +kernel
theorem dX1_lays_62 : decode cX1_lays 62 = .ok (.getfield 20, 3) := by decide +kernel
theorem dX1_lays_65 : decode cX1_lays 65 = .ok (.iconst 5, 1) := by decide +kernel
theorem dX1_lays_66 : decode cX1_lays 66 = .ok (.iload 4, 2) := by decide +kernel
theorem dX1_lays_68 : decode cX1_lays 68 = .ok (.imul, 1) := by decide +kernel
theorem dX1_lays_69 : decode cX1_lays 69 = .ok (.iload 6, 2) := by decide +kernel
theorem dX1_lays_71 : decode cX1_lays 71 = .ok (.iadd, 1) := by decide +kernel
theorem dX1_lays_72 : decode cX1_lays 72 = .ok (.iload 5, 2) := by decide +kernel
theorem dX1_lays_74 : decode cX1_lays 74 = .ok (.iastore, 1) := by decide +kernel
theorem dX1_lays_75 : decode cX1_lays 75 = .ok (.iload 5, 2) := by decide +kernel
theorem dX1_lays_77 : decode cX1_lays 77 = .ok (.aload_n 0, 1) := by decide +kernel
theorem dX1_lays_78 : decode cX1_lays 78 = .ok (.aload_n 2, 1) := by decide +kernel
theorem dX1_lays_79 : decode cX1_lays 79 = .ok (.iload 4, 2) := by decide +kernel
theorem dX1_lays_81 : decode cX1_lays 81 = .ok (.iaload, 1) := by decide +kernel
theorem dX1_lays_82 : decode cX1_lays 82 = .ok (.iload 6, 2) := by decide +kernel
theorem dX1_lays_84 : decode cX1_lays 84 = .ok (.invokevirtual 46, 3) := by decide +kernel
theorem dX1_lays_87 : decode cX1_lays 87 = .ok (.iadd, 1) := by decide +kernel
theorem dX1_lays_88 : decode cX1_lays 88 = .ok (.istore 5, 2) := by decide +kernel
theorem dX1_lays_90 : decode cX1_lays 90 = .ok (.iinc 6 1, 3) := by decide +kernel
theorem dX1_lays_93 : decode cX1_lays 93 = .ok (.goto (-78), 3) := by decide +kernel
theorem dX1_lays_96 : decode cX1_lays 96 = .ok (.iload_n 1, 1) := by decide +kernel
theorem dX1_lays_97 : decode cX1_lays 97 = .ok (.iconst 2, 1) := by decide +kernel
theorem dX1_lays_98 : decode cX1_lays 98 = .ok (.if_icmp .ne 10, 3) := by decide +kernel
theorem dX1_lays_101 : decode cX1_lays 101 = .ok (.aload_n 0, 1) := by decide +kernel
theorem dX1_lays_102 : decode cX1_lays 102 = .ok (.aload_n 2, 1) := by decide +kernel
theorem dX1_lays_103 : decode cX1_lays 103 = .ok (.iload 4, 2) := by decide +kernel
theorem dX1_lays_105 : decode cX1_lays 105 = .ok (.invokevirtual 65, 3) := by decide +kernel
theorem dX1_lays_108 : decode cX1_lays 108 = .ok (.iinc 4 1, 3) := by decide +kernel
theorem dX1_lays_111 : decode cX1_lays 111 = .ok (.goto (-108), 3) := by decide +kernel
theorem dX1_lays_114 : decode cX1_lays 114 = .ok (.iload_n 3, 1) := by decide +kernel
theorem dX1_lays_115 : decode cX1_lays 115 = .ok (.ifCond .le 20, 3) := by decide +kernel
theorem dX1_lays_118 : decode cX1_lays 118 = .ok (.aload_n 0, 1) := by decide +kernel
theorem dX1_lays_119 : decode cX1_lays 119 = .ok (.aload_n 2, 1) := by decide +kernel
theorem dX1_lays_120 : decode cX1_lays 120 = .ok (.iload_n 3, 1) := by decide +kernel
theorem dX1_lays_121 : decode cX1_lays 121 = .ok (.iconst 1, 1) := by decide +kernel
theorem dX1_lays_122 : decode cX1_lays 122 = .ok (.isub, 1) := by decide +kernel
theorem dX1_lays_123 : decode cX1_lays 123 = .ok (.aload_n 0, 1) := by decide +kernel
theorem dX1_lays_124 : decode cX1_lays 124 = .ok (.getfield 7, 3) := by decide +kernel
theorem dX1_lays_127 : decode cX1_lays 127 = .ok (.iconst 1, 1) := by decide +kernel
theorem dX1_lays_128 : decode cX1_lays 128 = .ok (.isub, 1) := by decide +kernel
theorem dX1_lays_129 : decode cX1_lays 129 = .ok (.invokevirtual 57, 3) := by decide +kernel
theorem dX1_lays_132 : decode cX1_lays 132 = .ok (.goto 4, 3) := by decide +kernel
theorem dX1_lays_135 : decode cX1_lays 135 = .ok (.iconst 0, 1) := by decide +kernel
theorem dX1_lays_136 : decode cX1_lays 136 = .ok (.ireturn, 1) := by decide +kernel
set_option maxRecDepth 20000 in
theorem ggX1_pullsTogether_X1_startOf : GoodIn wsX1_pullsTogether wsX1_startOf := goodIn_r _ [7, 2, 13, 14, 15, 16, 17, 18, 19, 20, 21, 22] (by decide +kernel) (by decide +kernel)
set_option maxRecDepth 20000 in
theorem gX1_pullsTogether_X1_startOf : GoodIn wsX1_pullsTogether (wsV RX1 54 RX1 yX1_startOf wsX1_startOf) := goodIn_app (goodIn_of _ (by decide +kernel)) ggX1_pullsTogether_X1_startOf
set_option maxRecDepth 20000 in
theorem ggX1_pullsTogether_X1_timeOf : GoodIn wsX1_pullsTogether wsX1_timeOf := goodIn_r _ [11, 12, 13, 14, 15, 16, 17, 18, 19, 20, 21, 22] (by decide +kernel) (by decide +kernel)
set_option maxRecDepth 20000 in
theorem gX1_pullsTogether_X1_timeOf : GoodIn wsX1_pullsTogether (wsV RX1 46 RX1 yX1_timeOf wsX1_timeOf) := goodIn_app (goodIn_of _ (by decide +kernel)) ggX1_pullsTogether_X1_timeOf
theorem dX1_pullsTogether_0 : decode cX1_pullsTogether 0 = .ok (.aload_n 0, 1) := by decide +kernel
theorem dX1_pullsTogether_1 : decode cX1_pullsTogether 1 = .ok (.getfield 7, 3) := by decide +kernel
theorem dX1_pullsTogether_4 : decode cX1_pullsTogether 4 = .ok (.iconst 2, 1) := by decide +kernel
theorem dX1_pullsTogether_5 : decode cX1_pullsTogether 5 = .ok (.isub, 1) := by decide +kernel
theorem dX1_pullsTogether_6 : decode cX1_pullsTogether 6 = .ok (.istore_n 3, 1) := by decide +kernel
theorem dX1_pullsTogether_7 : decode cX1_pullsTogether 7 = .ok (.iload_n 3, 1) := by decide +kernel
theorem dX1_pullsTogether_8 : decode cX1_pullsTogether 8 = .ok (.ifCond .lt 36, 3) := by decide +kernel
theorem dX1_pullsTogether_11 : decode cX1_pullsTogether 11 = .ok (.aload_n 0, 1) := by decide +kernel
theorem dX1_pullsTogether_12 : decode cX1_pullsTogether 12 = .ok (.getfield 20, 3) := by decide +kernel
theorem dX1_pullsTogether_15 : decode cX1_pullsTogether 15 = .ok (.iconst 5, 1) := by decide +kernel
theorem dX1_pullsTogether_16 : decode cX1_pullsTogether 16 = .ok (.iload_n 2, 1) := by decide +kernel
theorem dX1_pullsTogether_17 : decode cX1_pullsTogether 17 = .ok (.imul, 1) := by decide +kernel
theorem dX1_pullsTogether_18 : decode cX1_pullsTogether 18 = .ok (.iload_n 3, 1) := by decide +kernel
theorem dX1_pullsTogether_19 : decode cX1_pullsTogether 19 = .ok (.iadd, 1) := by decide +kernel
theorem dX1_pullsTogether_20 : decode cX1_pullsTogether 20 = .ok (.aload_n 0, 1) := by decide +kernel
theorem dX1_pullsTogether_21 : decode cX1_pullsTogether 21 = .ok (.iload_n 2, 1) := by decide +kernel
theorem dX1_pullsTogether_22 : decode cX1_pullsTogether 22 = .ok (.iload_n 3, 1) := by decide +kernel
theorem dX1_pullsTogether_23 : decode cX1_pullsTogether 23 = .ok (.iconst 1, 1) := by decide +kernel
theorem dX1_pullsTogether_24 : decode cX1_pullsTogether 24 = .ok (.iadd, 1) := by decide +kernel
theorem dX1_pullsTogether_25 : decode cX1_pullsTogether 25 = .ok (.invokevirtual 54, 3) := by decide +kernel
theorem dX1_pullsTogether_28 : decode cX1_pullsTogether 28 = .ok (.aload_n 0, 1) := by decide +kernel
theorem dX1_pullsTogether_29 : decode cX1_pullsTogether 29 = .ok (.aload_n 1, 1) := by decide +kernel
theorem dX1_pullsTogether_30 : decode cX1_pullsTogether 30 = .ok (.iload_n 2, 1) := by decide +kernel
theorem dX1_pullsTogether_31 : decode cX1_pullsTogether 31 = .ok (.iaload, 1) := by decide +kernel
theorem dX1_pullsTogether_32 : decode cX1_pullsTogether 32 = .ok (.iload_n 3, 1) := by decide +kernel
theorem dX1_pullsTogether_33 : decode cX1_pullsTogether 33 = .ok (.invokevirtual 46, 3) := by decide +kernel
theorem dX1_pullsTogether_36 : decode cX1_pullsTogether 36 = .ok (.isub, 1) := by decide +kernel
theorem dX1_pullsTogether_37 : decode cX1_pullsTogether 37 = .ok (.iastore, 1) := by decide +kernel
theorem dX1_pullsTogether_38 : decode cX1_pullsTogether 38 = .ok (.iinc 3 (-1), 3) := by decide +kernel
theorem dX1_pullsTogether_41 : decode cX1_pullsTogether 41 = .ok (.goto (-34), 3) := by decide +kernel
theorem dX1_pullsTogether_44 : decode cX1_pullsTogether 44 = .ok (.return_, 1) := by decide +kernel
set_option maxRecDepth 20000 in
theorem ggX1_plain_X1_lays : GoodIn wsX1_plain wsX1_lays := goodIn_r _ [7, 8, 9, 10, 11, 12, 6, 13, 14, 15, 16, 17, 18, 19, 20, 21, 22, 23, 24, 25, 26, 27, 28, 29, 30, 31, 32, 33, 34, 35, 36, 37, 38, 39, 40] (by decide +kernel) (by decide +kernel)
set_option maxRecDepth 20000 in
theorem gX1_plain_X1_lays : GoodIn wsX1_plain (wsV RX1 69 RX1 yX1_lays wsX1_lays) := goodIn_app (goodIn_of _ (by decide +kernel)) ggX1_plain_X1_lays
theorem dX1_plain_0 : decode cX1_plain 0 = .ok (.aload_n 0, 1) := by decide +kernel
theorem dX1_plain_1 : decode cX1_plain 1 = .ok (.iconst 0, 1) := by decide +kernel
theorem dX1_plain_2 : decode cX1_plain 2 = .ok (.aload_n 0, 1) := by decide +kernel
theorem dX1_plain_3 : decode cX1_plain 3 = .ok (.getfield 17, 3) := by decide +kernel
theorem dX1_plain_6 : decode cX1_plain 6 = .ok (.aload_n 0, 1) := by decide +kernel
theorem dX1_plain_7 : decode cX1_plain 7 = .ok (.getfield 35, 3) := by decide +kernel
theorem dX1_plain_10 : decode cX1_plain 10 = .ok (.invokevirtual 69, 3) := by decide +kernel
theorem dX1_plain_13 : decode cX1_plain 13 = .ok (.ireturn, 1) := by decide +kernel
theorem dX1_placeOf_0 : decode cX1_placeOf 0 = .ok (.iconst 0, 1) := by decide +kernel
theorem dX1_placeOf_1 : decode cX1_placeOf 1 = .ok (.istore_n 2, 1) := by decide +kernel
theorem dX1_placeOf_2 : decode cX1_placeOf 2 = .ok (.aload_n 0, 1) := by decide +kernel
theorem dX1_placeOf_3 : decode cX1_placeOf 3 = .ok (.getfield 17, 3) := by decide +kernel
theorem dX1_placeOf_6 : decode cX1_placeOf 6 = .ok (.iload_n 2, 1) := by decide +kernel
theorem dX1_placeOf_7 : decode cX1_placeOf 7 = .ok (.iaload, 1) := by decide +kernel
theorem dX1_placeOf_8 : decode cX1_placeOf 8 = .ok (.iload_n 1, 1) := by decide +kernel
theorem dX1_placeOf_9 : decode cX1_placeOf 9 = .ok (.if_icmp .eq 9, 3) := by decide +kernel
theorem dX1_placeOf_12 : decode cX1_placeOf 12 = .ok (.iinc 2 1, 3) := by decide +kernel
theorem dX1_placeOf_15 : decode cX1_placeOf 15 = .ok (.goto (-13), 3) := by decide +kernel
theorem dX1_placeOf_18 : decode cX1_placeOf 18 = .ok (.iload_n 2, 1) := by decide +kernel
theorem dX1_placeOf_19 : decode cX1_placeOf 19 = .ok (.ireturn, 1) := by decide +kernel
theorem dX1_triesMove_0 : decode cX1_triesMove 0 = .ok (.iconst 0, 1) := by decide +kernel
theorem dX1_triesMove_1 : decode cX1_triesMove 1 = .ok (.istore_n 3, 1) := by decide +kernel
theorem dX1_triesMove_2 : decode cX1_triesMove 2 = .ok (.iload_n 3, 1) := by decide +kernel
theorem dX1_triesMove_3 : decode cX1_triesMove 3 = .ok (.aload_n 0, 1) := by decide +kernel
theorem dX1_triesMove_4 : decode cX1_triesMove 4 = .ok (.getfield 35, 3) := by decide +kernel
theorem dX1_triesMove_7 : decode cX1_triesMove 7 = .ok (.if_icmp .ge 21, 3) := by decide +kernel
theorem dX1_triesMove_10 : decode cX1_triesMove 10 = .ok (.aload_n 0, 1) := by decide +kernel
theorem dX1_triesMove_11 : decode cX1_triesMove 11 = .ok (.getfield 26, 3) := by decide +kernel
theorem dX1_triesMove_14 : decode cX1_triesMove 14 = .ok (.iload_n 3, 1) := by decide +kernel
theorem dX1_triesMove_15 : decode cX1_triesMove 15 = .ok (.aload_n 0, 1) := by decide +kernel
theorem dX1_triesMove_16 : decode cX1_triesMove 16 = .ok (.getfield 17, 3) := by decide +kernel
theorem dX1_triesMove_19 : decode cX1_triesMove 19 = .ok (.iload_n 3, 1) := by decide +kernel
theorem dX1_triesMove_20 : decode cX1_triesMove 20 = .ok (.iaload, 1) := by decide +kernel
theorem dX1_triesMove_21 : decode cX1_triesMove 21 = .ok (.iastore, 1) := by decide +kernel
theorem dX1_triesMove_22 : decode cX1_triesMove 22 = .ok (.iinc 3 1, 3) := by decide +kernel
theorem dX1_triesMove_25 : decode cX1_triesMove 25 = .ok (.goto (-23), 3) := by decide +kernel
theorem dX1_triesMove_28 : decode cX1_triesMove 28 = .ok (.iload_n 1, 1) := by decide +kernel
theorem dX1_triesMove_29 : decode cX1_triesMove 29 = .ok (.istore_n 3, 1) := by decide +kernel
theorem dX1_triesMove_30 : decode cX1_triesMove 30 = .ok (.iload_n 3, 1) := by decide +kernel
theorem dX1_triesMove_31 : decode cX1_triesMove 31 = .ok (.iload_n 2, 1) := by decide +kernel
theorem dX1_triesMove_32 : decode cX1_triesMove 32 = .ok (.if_icmp .ge 23, 3) := by decide +kernel
theorem dX1_triesMove_35 : decode cX1_triesMove 35 = .ok (.aload_n 0, 1) := by decide +kernel
theorem dX1_triesMove_36 : decode cX1_triesMove 36 = .ok (.getfield 26, 3) := by decide +kernel
theorem dX1_triesMove_39 : decode cX1_triesMove 39 = .ok (.iload_n 3, 1) := by decide +kernel
theorem dX1_triesMove_40 : decode cX1_triesMove 40 = .ok (.aload_n 0, 1) := by decide +kernel
theorem dX1_triesMove_41 : decode cX1_triesMove 41 = .ok (.getfield 17, 3) := by decide +kernel
theorem dX1_triesMove_44 : decode cX1_triesMove 44 = .ok (.iload_n 3, 1) := by decide +kernel
theorem dX1_triesMove_45 : decode cX1_triesMove 45 = .ok (.iconst 1, 1) := by decide +kernel
theorem dX1_triesMove_46 : decode cX1_triesMove 46 = .ok (.iadd, 1) := by decide +kernel
theorem dX1_triesMove_47 : decode cX1_triesMove 47 = .ok (.iaload, 1) := by decide +kernel
theorem dX1_triesMove_48 : decode cX1_triesMove 48 = .ok (.iastore, 1) := by decide +kernel
theorem dX1_triesMove_49 : decode cX1_triesMove 49 = .ok (.iinc 3 1, 3) := by decide +kernel
theorem dX1_triesMove_52 : decode cX1_triesMove 52 = .ok (.goto (-22), 3) := by decide +kernel
theorem dX1_triesMove_55 : decode cX1_triesMove 55 = .ok (.iload_n 1, 1) := by decide +kernel
theorem dX1_triesMove_56 : decode cX1_triesMove 56 = .ok (.istore_n 3, 1) := by decide +kernel
theorem dX1_triesMove_57 : decode cX1_triesMove 57 = .ok (.iload_n 3, 1) := by decide +kernel
theorem dX1_triesMove_58 : decode cX1_triesMove 58 = .ok (.iload_n 2, 1) := by decide +kernel
theorem dX1_triesMove_59 : decode cX1_triesMove 59 = .ok (.if_icmp .le 23, 3) := by decide +kernel
theorem dX1_triesMove_62 : decode cX1_triesMove 62 = .ok (.aload_n 0, 1) := by decide +kernel
theorem dX1_triesMove_63 : decode cX1_triesMove 63 = .ok (.getfield 26, 3) := by decide +kernel
theorem dX1_triesMove_66 : decode cX1_triesMove 66 = .ok (.iload_n 3, 1) := by decide +kernel
theorem dX1_triesMove_67 : decode cX1_triesMove 67 = .ok (.aload_n 0, 1) := by decide +kernel
theorem dX1_triesMove_68 : decode cX1_triesMove 68 = .ok (.getfield 17, 3) := by decide +kernel
theorem dX1_triesMove_71 : decode cX1_triesMove 71 = .ok (.iload_n 3, 1) := by decide +kernel
theorem dX1_triesMove_72 : decode cX1_triesMove 72 = .ok (.iconst 1, 1) := by decide +kernel
theorem dX1_triesMove_73 : decode cX1_triesMove 73 = .ok (.isub, 1) := by decide +kernel
theorem dX1_triesMove_74 : decode cX1_triesMove 74 = .ok (.iaload, 1) := by decide +kernel
theorem dX1_triesMove_75 : decode cX1_triesMove 75 = .ok (.iastore, 1) := by decide +kernel
theorem dX1_triesMove_76 : decode cX1_triesMove 76 = .ok (.iinc 3 (-1), 3) := by decide +kernel
theorem dX1_triesMove_79 : decode cX1_triesMove 79 = .ok (.goto (-22), 3) := by decide +kernel
theorem dX1_triesMove_82 : decode cX1_triesMove 82 = .ok (.aload_n 0, 1) := by decide +kernel
theorem dX1_triesMove_83 : decode cX1_triesMove 83 = .ok (.getfield 26, 3) := by decide +kernel
theorem dX1_triesMove_86 : decode cX1_triesMove 86 = .ok (.iload_n 2, 1) := by decide +kernel
theorem dX1_triesMove_87 : decode cX1_triesMove 87 = .ok (.aload_n 0, 1) := by decide +kernel
theorem dX1_triesMove_88 : decode cX1_triesMove 88 = .ok (.getfield 17, 3) := by decide +kernel
theorem dX1_triesMove_91 : decode cX1_triesMove 91 = .ok (.iload_n 1, 1) := by decide +kernel
theorem dX1_triesMove_92 : decode cX1_triesMove 92 = .ok (.iaload, 1) := by decide +kernel
theorem dX1_triesMove_93 : decode cX1_triesMove 93 = .ok (.iastore, 1) := by decide +kernel
theorem dX1_triesMove_94 : decode cX1_triesMove 94 = .ok (.return_, 1) := by decide +kernel
theorem dX1_takesTrial_0 : decode cX1_takesTrial 0 = .ok (.iconst 0, 1) := by decide +kernel
theorem dX1_takesTrial_1 : decode cX1_takesTrial 1 = .ok (.istore_n 1, 1) := by decide +kernel
theorem dX1_takesTrial_2 : decode cX1_takesTrial 2 = .ok (.iload_n 1, 1) := by decide +kernel
theorem dX1_takesTrial_3 : decode cX1_takesTrial 3 = .ok (.aload_n 0, 1) := by decide +kernel
theorem dX1_takesTrial_4 : decode cX1_takesTrial 4 = .ok (.getfield 35, 3) := by decide +kernel
theorem dX1_takesTrial_7 : decode cX1_takesTrial 7 = .ok (.if_icmp .ge 21, 3) := by decide +kernel
theorem dX1_takesTrial_10 : decode cX1_takesTrial 10 = .ok (.aload_n 0, 1) := by decide +kernel
theorem dX1_takesTrial_11 : decode cX1_takesTrial 11 = .ok (.getfield 17, 3) := by decide +kernel
theorem dX1_takesTrial_14 : decode cX1_takesTrial 14 = .ok (.iload_n 1, 1) := by decide +kernel
theorem dX1_takesTrial_15 : decode cX1_takesTrial 15 = .ok (.aload_n 0, 1) := by decide +kernel
theorem dX1_takesTrial_16 : decode cX1_takesTrial 16 = .ok (.getfield 26, 3) := by decide +kernel
theorem dX1_takesTrial_19 : decode cX1_takesTrial 19 = .ok (.iload_n 1, 1) := by decide +kernel
theorem dX1_takesTrial_20 : decode cX1_takesTrial 20 = .ok (.iaload, 1) := by decide +kernel
theorem dX1_takesTrial_21 : decode cX1_takesTrial 21 = .ok (.iastore, 1) := by decide +kernel
theorem dX1_takesTrial_22 : decode cX1_takesTrial 22 = .ok (.iinc 1 1, 3) := by decide +kernel
theorem dX1_takesTrial_25 : decode cX1_takesTrial 25 = .ok (.goto (-23), 3) := by decide +kernel
theorem dX1_takesTrial_28 : decode cX1_takesTrial 28 = .ok (.return_, 1) := by decide +kernel
set_option maxRecDepth 20000 in
theorem ggX1_jobAt_X1_in : GoodIn wsX1_jobAt wsX1_in := goodIn_r _ [7] (by decide +kernel) (by decide +kernel)
set_option maxRecDepth 20000 in
theorem gX1_jobAt_X1_in : GoodIn wsX1_jobAt (va_wsS RX1 38 yX1_in wsX1_in) := goodIn_app (goodIn_of _ (by decide +kernel)) ggX1_jobAt_X1_in
set_option maxRecDepth 20000 in
theorem ggX1_jobAt_X1_fails : GoodIn wsX1_jobAt wsX1_fails := goodIn_r _ [11, 1, 12, 13, 14, 15, 16, 17, 18, 19, 20, 21] (by decide +kernel) (by decide +kernel)
set_option maxRecDepth 20000 in
theorem gX1_jobAt_X1_fails : GoodIn wsX1_jobAt (wsV RX1 50 RX1 yX1_fails wsX1_fails) := goodIn_app (goodIn_of _ (by decide +kernel)) ggX1_jobAt_X1_fails
theorem dX1_jobAt_0 : decode cX1_jobAt 0 = .ok (.aload_n 0, 1) := by decide +kernel
theorem dX1_jobAt_1 : decode cX1_jobAt 1 = .ok (.iconst 0, 1) := by decide +kernel
theorem dX1_jobAt_2 : decode cX1_jobAt 2 = .ok (.putfield 32, 3) := by decide +kernel
theorem dX1_jobAt_5 : decode cX1_jobAt 5 = .ok (.iload_n 1, 1) := by decide +kernel
theorem dX1_jobAt_6 : decode cX1_jobAt 6 = .ok (.iconst 0, 1) := by decide +kernel
theorem dX1_jobAt_7 : decode cX1_jobAt 7 = .ok (.aload_n 0, 1) := by decide +kernel
theorem dX1_jobAt_8 : decode cX1_jobAt 8 = .ok (.getfield 35, 3) := by decide +kernel
theorem dX1_jobAt_11 : decode cX1_jobAt 11 = .ok (.iconst 1, 1) := by decide +kernel
theorem dX1_jobAt_12 : decode cX1_jobAt 12 = .ok (.isub, 1) := by decide +kernel
theorem dX1_jobAt_13 : decode cX1_jobAt 13 = .ok (.invokestatic 38, 3) := by decide +kernel
theorem dX1_jobAt_16 : decode cX1_jobAt 16 = .ok (.ifCond .eq 12, 3) := by decide +kernel
theorem dX1_jobAt_19 : decode cX1_jobAt 19 = .ok (.aload_n 0, 1) := by decide +kernel
theorem dX1_jobAt_20 : decode cX1_jobAt 20 = .ok (.getfield 17, 3) := by decide +kernel
theorem dX1_jobAt_23 : decode cX1_jobAt 23 = .ok (.iload_n 1, 1) := by decide +kernel
theorem dX1_jobAt_24 : decode cX1_jobAt 24 = .ok (.iaload, 1) := by decide +kernel
theorem dX1_jobAt_25 : decode cX1_jobAt 25 = .ok (.goto 8, 3) := by decide +kernel
theorem dX1_jobAt_28 : decode cX1_jobAt 28 = .ok (.aload_n 0, 1) := by decide +kernel
theorem dX1_jobAt_29 : decode cX1_jobAt 29 = .ok (.iconst 1, 1) := by decide +kernel
theorem dX1_jobAt_30 : decode cX1_jobAt 30 = .ok (.invokevirtual 50, 3) := by decide +kernel
theorem dX1_jobAt_33 : decode cX1_jobAt 33 = .ok (.ireturn, 1) := by decide +kernel
set_option maxRecDepth 20000 in
theorem ggX1_canMove_X1_in : GoodIn wsX1_canMove wsX1_in := goodIn_r _ [5] (by decide +kernel) (by decide +kernel)
set_option maxRecDepth 20000 in
theorem gX1_canMove_X1_in : GoodIn wsX1_canMove (va_wsS RX1 38 yX1_in wsX1_in) := goodIn_app (goodIn_of _ (by decide +kernel)) ggX1_canMove_X1_in
theorem dX1_canMove_0 : decode cX1_canMove 0 = .ok (.iload_n 1, 1) := by decide +kernel
theorem dX1_canMove_1 : decode cX1_canMove 1 = .ok (.iconst 0, 1) := by decide +kernel
theorem dX1_canMove_2 : decode cX1_canMove 2 = .ok (.aload_n 0, 1) := by decide +kernel
theorem dX1_canMove_3 : decode cX1_canMove 3 = .ok (.getfield 35, 3) := by decide +kernel
theorem dX1_canMove_6 : decode cX1_canMove 6 = .ok (.iconst 1, 1) := by decide +kernel
theorem dX1_canMove_7 : decode cX1_canMove 7 = .ok (.isub, 1) := by decide +kernel
theorem dX1_canMove_8 : decode cX1_canMove 8 = .ok (.invokestatic 38, 3) := by decide +kernel
theorem dX1_canMove_11 : decode cX1_canMove 11 = .ok (.ifCond .eq 21, 3) := by decide +kernel
theorem dX1_canMove_14 : decode cX1_canMove 14 = .ok (.iload_n 2, 1) := by decide +kernel
theorem dX1_canMove_15 : decode cX1_canMove 15 = .ok (.iconst 0, 1) := by decide +kernel
theorem dX1_canMove_16 : decode cX1_canMove 16 = .ok (.aload_n 0, 1) := by decide +kernel
theorem dX1_canMove_17 : decode cX1_canMove 17 = .ok (.getfield 35, 3) := by decide +kernel
theorem dX1_canMove_20 : decode cX1_canMove 20 = .ok (.iconst 1, 1) := by decide +kernel
theorem dX1_canMove_21 : decode cX1_canMove 21 = .ok (.isub, 1) := by decide +kernel
theorem dX1_canMove_22 : decode cX1_canMove 22 = .ok (.invokestatic 38, 3) := by decide +kernel
theorem dX1_canMove_25 : decode cX1_canMove 25 = .ok (.ifCond .eq 7, 3) := by decide +kernel
theorem dX1_canMove_28 : decode cX1_canMove 28 = .ok (.iconst 1, 1) := by decide +kernel
theorem dX1_canMove_29 : decode cX1_canMove 29 = .ok (.goto 4, 3) := by decide +kernel
theorem dX1_canMove_32 : decode cX1_canMove 32 = .ok (.iconst 0, 1) := by decide +kernel
theorem dX1_canMove_33 : decode cX1_canMove 33 = .ok (.ireturn, 1) := by decide +kernel
set_option maxRecDepth 20000 in
theorem ggX1_move_X1_canMove : GoodIn wsX1_move wsX1_canMove := goodIn_r _ [6, 7, 8, 9, 5, 10, 25, 26, 27, 28, 29, 30, 31, 32, 33, 34] (by decide +kernel) (by decide +kernel)
set_option maxRecDepth 20000 in
theorem gX1_move_X1_canMove : GoodIn wsX1_move (wsV RX1 73 RX1 yX1_canMove wsX1_canMove) := goodIn_app (goodIn_of _ (by decide +kernel)) ggX1_move_X1_canMove
set_option maxRecDepth 20000 in
theorem ggX1_move_X1_placeOf : GoodIn wsX1_move wsX1_placeOf := goodIn_r _ [14, 15, 25, 26, 27, 28, 29, 30, 31, 32, 33, 34] (by decide +kernel) (by decide +kernel)
set_option maxRecDepth 20000 in
theorem gX1_move_X1_placeOf : GoodIn wsX1_move (wsV RX1 76 RX1 yX1_placeOf wsX1_placeOf) := goodIn_app (goodIn_of _ (by decide +kernel)) ggX1_move_X1_placeOf
set_option maxRecDepth 20000 in
theorem ggX1_move_X1_triesMove : GoodIn wsX1_move wsX1_triesMove := goodIn_r _ [19, 7, 20, 15, 25, 26, 27, 28, 29, 30, 31, 32, 33, 34] (by decide +kernel) (by decide +kernel)
set_option maxRecDepth 20000 in
theorem gX1_move_X1_triesMove : GoodIn wsX1_move (wsV RX1 79 RX1 yX1_triesMove wsX1_triesMove) := goodIn_app (goodIn_of _ (by decide +kernel)) ggX1_move_X1_triesMove
set_option maxRecDepth 20000 in
theorem ggX1_move_X1_takesTrial : GoodIn wsX1_move wsX1_takesTrial := goodIn_r _ [24, 7, 15, 20, 25, 26, 27, 28, 29, 30, 31, 32, 33, 34] (by decide +kernel) (by decide +kernel)
set_option maxRecDepth 20000 in
theorem gX1_move_X1_takesTrial : GoodIn wsX1_move (wsV RX1 83 RX1 yX1_takesTrial wsX1_takesTrial) := goodIn_app (goodIn_of _ (by decide +kernel)) ggX1_move_X1_takesTrial
theorem dX1_move_0 : decode cX1_move 0 = .ok (.aload_n 0, 1) := by decide +kernel
theorem dX1_move_1 : decode cX1_move 1 = .ok (.aload_n 0, 1) := by decide +kernel
theorem dX1_move_2 : decode cX1_move 2 = .ok (.iload_n 1, 1) := by decide +kernel
theorem dX1_move_3 : decode cX1_move 3 = .ok (.iload_n 2, 1) := by decide +kernel
theorem dX1_move_4 : decode cX1_move 4 = .ok (.invokevirtual 73, 3) := by decide +kernel
theorem dX1_move_7 : decode cX1_move 7 = .ok (.ifCond .eq 7, 3) := by decide +kernel
theorem dX1_move_10 : decode cX1_move 10 = .ok (.iconst 0, 1) := by decide +kernel
theorem dX1_move_11 : decode cX1_move 11 = .ok (.goto 4, 3) := by decide +kernel
theorem dX1_move_14 : decode cX1_move 14 = .ok (.iconst 1, 1) := by decide +kernel
theorem dX1_move_15 : decode cX1_move 15 = .ok (.putfield 32, 3) := by decide +kernel
theorem dX1_move_18 : decode cX1_move 18 = .ok (.aload_n 0, 1) := by decide +kernel
theorem dX1_move_19 : decode cX1_move 19 = .ok (.getfield 32, 3) := by decide +kernel
theorem dX1_move_22 : decode cX1_move 22 = .ok (.ifCond .le 5, 3) := by decide +kernel
theorem dX1_move_25 : decode cX1_move 25 = .ok (.iconst 0, 1) := by decide +kernel
theorem dX1_move_26 : decode cX1_move 26 = .ok (.ireturn, 1) := by decide +kernel
theorem dX1_move_27 : decode cX1_move 27 = .ok (.aload_n 0, 1) := by decide +kernel
theorem dX1_move_28 : decode cX1_move 28 = .ok (.iload_n 1, 1) := by decide +kernel
theorem dX1_move_29 : decode cX1_move 29 = .ok (.invokevirtual 76, 3) := by decide +kernel
theorem dX1_move_32 : decode cX1_move 32 = .ok (.istore_n 3, 1) := by decide +kernel
theorem dX1_move_33 : decode cX1_move 33 = .ok (.aload_n 0, 1) := by decide +kernel
theorem dX1_move_34 : decode cX1_move 34 = .ok (.iload_n 3, 1) := by decide +kernel
theorem dX1_move_35 : decode cX1_move 35 = .ok (.iload_n 2, 1) := by decide +kernel
theorem dX1_move_36 : decode cX1_move 36 = .ok (.invokevirtual 79, 3) := by decide +kernel
theorem dX1_move_39 : decode cX1_move 39 = .ok (.aload_n 0, 1) := by decide +kernel
theorem dX1_move_40 : decode cX1_move 40 = .ok (.invokevirtual 83, 3) := by decide +kernel
theorem dX1_move_43 : decode cX1_move 43 = .ok (.iload_n 3, 1) := by decide +kernel
theorem dX1_move_44 : decode cX1_move 44 = .ok (.ireturn, 1) := by decide +kernel
set_option maxRecDepth 20000 in
theorem ggX1_makespanIfMoved_X1_canMove : GoodIn wsX1_makespanIfMoved wsX1_canMove := goodIn_r _ [8, 3, 9, 10, 7, 11, 48, 49, 50, 51, 52, 53, 54, 55, 56, 57] (by decide +kernel) (by decide +kernel)
set_option maxRecDepth 20000 in
theorem gX1_makespanIfMoved_X1_canMove : GoodIn wsX1_makespanIfMoved (wsV RX1 73 RX1 yX1_canMove wsX1_canMove) := goodIn_app (goodIn_of _ (by decide +kernel)) ggX1_makespanIfMoved_X1_canMove
set_option maxRecDepth 20000 in
theorem ggX1_makespanIfMoved_X1_placeOf : GoodIn wsX1_makespanIfMoved wsX1_placeOf := goodIn_r _ [15, 16, 48, 49, 50, 51, 52, 53, 54, 55, 56, 57] (by decide +kernel) (by decide +kernel)
set_option maxRecDepth 20000 in
theorem gX1_makespanIfMoved_X1_placeOf : GoodIn wsX1_makespanIfMoved (wsV RX1 76 RX1 yX1_placeOf wsX1_placeOf) := goodIn_app (goodIn_of _ (by decide +kernel)) ggX1_makespanIfMoved_X1_placeOf
set_option maxRecDepth 20000 in
theorem ggX1_makespanIfMoved_X1_triesMove : GoodIn wsX1_makespanIfMoved wsX1_triesMove := goodIn_r _ [20, 3, 2, 16, 48, 49, 50, 51, 52, 53, 54, 55, 56, 57] (by decide +kernel) (by decide +kernel)
set_option maxRecDepth 20000 in
theorem gX1_makespanIfMoved_X1_triesMove : GoodIn wsX1_makespanIfMoved (wsV RX1 79 RX1 yX1_triesMove wsX1_triesMove) := goodIn_app (goodIn_of _ (by decide +kernel)) ggX1_makespanIfMoved_X1_triesMove
set_option maxRecDepth 20000 in
theorem ggX1_makespanIfMoved_X1_lays : GoodIn wsX1_makespanIfMoved wsX1_lays := goodIn_r _ [24, 25, 26, 27, 28, 29, 7, 30, 31, 32, 33, 34, 35, 36, 37, 38, 39, 40, 41, 42, 43, 44, 45, 46, 47, 48, 49, 50, 51, 52, 53, 54, 55, 56, 57] (by decide +kernel) (by decide +kernel)
set_option maxRecDepth 20000 in
theorem gX1_makespanIfMoved_X1_lays : GoodIn wsX1_makespanIfMoved (wsV RX1 69 RX1 yX1_lays wsX1_lays) := goodIn_app (goodIn_of _ (by decide +kernel)) ggX1_makespanIfMoved_X1_lays
theorem dX1_makespanIfMoved_0 : decode cX1_makespanIfMoved 0 = .ok (.aload_n 0, 1) := by decide +kernel
theorem dX1_makespanIfMoved_1 : decode cX1_makespanIfMoved 1 = .ok (.aload_n 0, 1) := by decide +kernel
theorem dX1_makespanIfMoved_2 : decode cX1_makespanIfMoved 2 = .ok (.iload_n 1, 1) := by decide +kernel
theorem dX1_makespanIfMoved_3 : decode cX1_makespanIfMoved 3 = .ok (.iload_n 2, 1) := by decide +kernel
theorem dX1_makespanIfMoved_4 : decode cX1_makespanIfMoved 4 = .ok (.invokevirtual 73, 3) := by decide +kernel
theorem dX1_makespanIfMoved_7 : decode cX1_makespanIfMoved 7 = .ok (.ifCond .eq 7, 3) := by decide +kernel
theorem dX1_makespanIfMoved_10 : decode cX1_makespanIfMoved 10 = .ok (.iconst 0, 1) := by decide +kernel
theorem dX1_makespanIfMoved_11 : decode cX1_makespanIfMoved 11 = .ok (.goto 4, 3) := by decide +kernel
theorem dX1_makespanIfMoved_14 : decode cX1_makespanIfMoved 14 = .ok (.iconst 1, 1) := by decide +kernel
theorem dX1_makespanIfMoved_15 : decode cX1_makespanIfMoved 15 = .ok (.putfield 32, 3) := by decide +kernel
theorem dX1_makespanIfMoved_18 : decode cX1_makespanIfMoved 18 = .ok (.aload_n 0, 1) := by decide +kernel
theorem dX1_makespanIfMoved_19 : decode cX1_makespanIfMoved 19 = .ok (.getfield 32, 3) := by decide +kernel
theorem dX1_makespanIfMoved_22 : decode cX1_makespanIfMoved 22 = .ok (.ifCond .le 5, 3) := by decide +kernel
theorem dX1_makespanIfMoved_25 : decode cX1_makespanIfMoved 25 = .ok (.iconst 0, 1) := by decide +kernel
theorem dX1_makespanIfMoved_26 : decode cX1_makespanIfMoved 26 = .ok (.ireturn, 1) := by decide +kernel
theorem dX1_makespanIfMoved_27 : decode cX1_makespanIfMoved 27 = .ok (.aload_n 0, 1) := by decide +kernel
theorem dX1_makespanIfMoved_28 : decode cX1_makespanIfMoved 28 = .ok (.aload_n 0, 1) := by decide +kernel
theorem dX1_makespanIfMoved_29 : decode cX1_makespanIfMoved 29 = .ok (.iload_n 1, 1) := by decide +kernel
theorem dX1_makespanIfMoved_30 : decode cX1_makespanIfMoved 30 = .ok (.invokevirtual 76, 3) := by decide +kernel
theorem dX1_makespanIfMoved_33 : decode cX1_makespanIfMoved 33 = .ok (.iload_n 2, 1) := by decide +kernel
theorem dX1_makespanIfMoved_34 : decode cX1_makespanIfMoved 34 = .ok (.invokevirtual 79, 3) := by decide +kernel
theorem dX1_makespanIfMoved_37 : decode cX1_makespanIfMoved 37 = .ok (.aload_n 0, 1) := by decide +kernel
theorem dX1_makespanIfMoved_38 : decode cX1_makespanIfMoved 38 = .ok (.iconst 0, 1) := by decide +kernel
theorem dX1_makespanIfMoved_39 : decode cX1_makespanIfMoved 39 = .ok (.aload_n 0, 1) := by decide +kernel
theorem dX1_makespanIfMoved_40 : decode cX1_makespanIfMoved 40 = .ok (.getfield 26, 3) := by decide +kernel
theorem dX1_makespanIfMoved_43 : decode cX1_makespanIfMoved 43 = .ok (.aload_n 0, 1) := by decide +kernel
theorem dX1_makespanIfMoved_44 : decode cX1_makespanIfMoved 44 = .ok (.getfield 35, 3) := by decide +kernel
theorem dX1_makespanIfMoved_47 : decode cX1_makespanIfMoved 47 = .ok (.invokevirtual 69, 3) := by decide +kernel
theorem dX1_makespanIfMoved_50 : decode cX1_makespanIfMoved 50 = .ok (.ireturn, 1) := by decide +kernel
set_option maxRecDepth 20000 in
theorem ggX1_isAhead_X1_timeOf : GoodIn wsX1_isAhead wsX1_timeOf := goodIn_r _ [5, 6, 7, 8, 9, 10, 11, 12, 13, 14, 15, 16] (by decide +kernel) (by decide +kernel)
set_option maxRecDepth 20000 in
theorem gX1_isAhead_X1_timeOf : GoodIn wsX1_isAhead (wsV RX1 46 RX1 yX1_timeOf wsX1_timeOf) := goodIn_app (goodIn_of _ (by decide +kernel)) ggX1_isAhead_X1_timeOf
theorem dX1_isAhead_0 : decode cX1_isAhead 0 = .ok (.aload_n 0, 1) := by decide +kernel
theorem dX1_isAhead_1 : decode cX1_isAhead 1 = .ok (.iload_n 1, 1) := by decide +kernel
theorem dX1_isAhead_2 : decode cX1_isAhead 2 = .ok (.iconst 0, 1) := by decide +kernel
theorem dX1_isAhead_3 : decode cX1_isAhead 3 = .ok (.invokevirtual 46, 3) := by decide +kernel
theorem dX1_isAhead_6 : decode cX1_isAhead 6 = .ok (.aload_n 0, 1) := by decide +kernel
theorem dX1_isAhead_7 : decode cX1_isAhead 7 = .ok (.iload_n 1, 1) := by decide +kernel
theorem dX1_isAhead_8 : decode cX1_isAhead 8 = .ok (.iconst 1, 1) := by decide +kernel
theorem dX1_isAhead_9 : decode cX1_isAhead 9 = .ok (.invokevirtual 46, 3) := by decide +kernel
theorem dX1_isAhead_12 : decode cX1_isAhead 12 = .ok (.if_icmp .gt 7, 3) := by decide +kernel
theorem dX1_isAhead_15 : decode cX1_isAhead 15 = .ok (.iconst 1, 1) := by decide +kernel
theorem dX1_isAhead_16 : decode cX1_isAhead 16 = .ok (.goto 4, 3) := by decide +kernel
theorem dX1_isAhead_19 : decode cX1_isAhead 19 = .ok (.iconst 0, 1) := by decide +kernel
theorem dX1_isAhead_20 : decode cX1_isAhead 20 = .ok (.istore_n 3, 1) := by decide +kernel
theorem dX1_isAhead_21 : decode cX1_isAhead 21 = .ok (.aload_n 0, 1) := by decide +kernel
theorem dX1_isAhead_22 : decode cX1_isAhead 22 = .ok (.iload_n 2, 1) := by decide +kernel
theorem dX1_isAhead_23 : decode cX1_isAhead 23 = .ok (.iconst 0, 1) := by decide +kernel
theorem dX1_isAhead_24 : decode cX1_isAhead 24 = .ok (.invokevirtual 46, 3) := by decide +kernel
theorem dX1_isAhead_27 : decode cX1_isAhead 27 = .ok (.aload_n 0, 1) := by decide +kernel
theorem dX1_isAhead_28 : decode cX1_isAhead 28 = .ok (.iload_n 2, 1) := by decide +kernel
theorem dX1_isAhead_29 : decode cX1_isAhead 29 = .ok (.iconst 1, 1) := by decide +kernel
theorem dX1_isAhead_30 : decode cX1_isAhead 30 = .ok (.invokevirtual 46, 3) := by decide +kernel
theorem dX1_isAhead_33 : decode cX1_isAhead 33 = .ok (.if_icmp .gt 7, 3) := by decide +kernel
theorem dX1_isAhead_36 : decode cX1_isAhead 36 = .ok (.iconst 1, 1) := by decide +kernel
theorem dX1_isAhead_37 : decode cX1_isAhead 37 = .ok (.goto 4, 3) := by decide +kernel
theorem dX1_isAhead_40 : decode cX1_isAhead 40 = .ok (.iconst 0, 1) := by decide +kernel
theorem dX1_isAhead_41 : decode cX1_isAhead 41 = .ok (.istore 4, 2) := by decide +kernel
theorem dX1_isAhead_43 : decode cX1_isAhead 43 = .ok (.iload_n 3, 1) := by decide +kernel
theorem dX1_isAhead_44 : decode cX1_isAhead 44 = .ok (.ifCond .eq 12, 3) := by decide +kernel
theorem dX1_isAhead_47 : decode cX1_isAhead 47 = .ok (.aload_n 0, 1) := by decide +kernel
theorem dX1_isAhead_48 : decode cX1_isAhead 48 = .ok (.iload_n 1, 1) := by decide +kernel
theorem dX1_isAhead_49 : decode cX1_isAhead 49 = .ok (.iconst 0, 1) := by decide +kernel
theorem dX1_isAhead_50 : decode cX1_isAhead 50 = .ok (.invokevirtual 46, 3) := by decide +kernel
theorem dX1_isAhead_53 : decode cX1_isAhead 53 = .ok (.goto 10, 3) := by decide +kernel
theorem dX1_isAhead_56 : decode cX1_isAhead 56 = .ok (.aload_n 0, 1) := by decide +kernel
theorem dX1_isAhead_57 : decode cX1_isAhead 57 = .ok (.iload_n 1, 1) := by decide +kernel
theorem dX1_isAhead_58 : decode cX1_isAhead 58 = .ok (.iconst 1, 1) := by decide +kernel
theorem dX1_isAhead_59 : decode cX1_isAhead 59 = .ok (.invokevirtual 46, 3) := by decide +kernel
theorem dX1_isAhead_62 : decode cX1_isAhead 62 = .ok (.ineg, 1) := by decide +kernel
theorem dX1_isAhead_63 : decode cX1_isAhead 63 = .ok (.istore 5, 2) := by decide +kernel
theorem dX1_isAhead_65 : decode cX1_isAhead 65 = .ok (.iload 4, 2) := by decide +kernel
theorem dX1_isAhead_67 : decode cX1_isAhead 67 = .ok (.ifCond .eq 12, 3) := by decide +kernel
theorem dX1_isAhead_70 : decode cX1_isAhead 70 = .ok (.aload_n 0, 1) := by decide +kernel
theorem dX1_isAhead_71 : decode cX1_isAhead 71 = .ok (.iload_n 2, 1) := by decide +kernel
theorem dX1_isAhead_72 : decode cX1_isAhead 72 = .ok (.iconst 0, 1) := by decide +kernel
theorem dX1_isAhead_73 : decode cX1_isAhead 73 = .ok (.invokevirtual 46, 3) := by decide +kernel
theorem dX1_isAhead_76 : decode cX1_isAhead 76 = .ok (.goto 10, 3) := by decide +kernel
theorem dX1_isAhead_79 : decode cX1_isAhead 79 = .ok (.aload_n 0, 1) := by decide +kernel
theorem dX1_isAhead_80 : decode cX1_isAhead 80 = .ok (.iload_n 2, 1) := by decide +kernel
theorem dX1_isAhead_81 : decode cX1_isAhead 81 = .ok (.iconst 1, 1) := by decide +kernel
theorem dX1_isAhead_82 : decode cX1_isAhead 82 = .ok (.invokevirtual 46, 3) := by decide +kernel
theorem dX1_isAhead_85 : decode cX1_isAhead 85 = .ok (.ineg, 1) := by decide +kernel
theorem dX1_isAhead_86 : decode cX1_isAhead 86 = .ok (.istore 6, 2) := by decide +kernel
theorem dX1_isAhead_88 : decode cX1_isAhead 88 = .ok (.iload 5, 2) := by decide +kernel
theorem dX1_isAhead_90 : decode cX1_isAhead 90 = .ok (.iload 6, 2) := by decide +kernel
theorem dX1_isAhead_92 : decode cX1_isAhead 92 = .ok (.if_icmp .lt 15, 3) := by decide +kernel
theorem dX1_isAhead_95 : decode cX1_isAhead 95 = .ok (.iload 5, 2) := by decide +kernel
theorem dX1_isAhead_97 : decode cX1_isAhead 97 = .ok (.iload 6, 2) := by decide +kernel
theorem dX1_isAhead_99 : decode cX1_isAhead 99 = .ok (.if_icmp .ne 12, 3) := by decide +kernel
theorem dX1_isAhead_102 : decode cX1_isAhead 102 = .ok (.iload_n 1, 1) := by decide +kernel
theorem dX1_isAhead_103 : decode cX1_isAhead 103 = .ok (.iload_n 2, 1) := by decide +kernel
theorem dX1_isAhead_104 : decode cX1_isAhead 104 = .ok (.if_icmp .ge 7, 3) := by decide +kernel
theorem dX1_isAhead_107 : decode cX1_isAhead 107 = .ok (.iconst 1, 1) := by decide +kernel
theorem dX1_isAhead_108 : decode cX1_isAhead 108 = .ok (.goto 4, 3) := by decide +kernel
theorem dX1_isAhead_111 : decode cX1_isAhead 111 = .ok (.iconst 0, 1) := by decide +kernel
theorem dX1_isAhead_112 : decode cX1_isAhead 112 = .ok (.istore 7, 2) := by decide +kernel
theorem dX1_isAhead_114 : decode cX1_isAhead 114 = .ok (.iload_n 3, 1) := by decide +kernel
theorem dX1_isAhead_115 : decode cX1_isAhead 115 = .ok (.iload 4, 2) := by decide +kernel
theorem dX1_isAhead_117 : decode cX1_isAhead 117 = .ok (.if_icmp .ne 8, 3) := by decide +kernel
theorem dX1_isAhead_120 : decode cX1_isAhead 120 = .ok (.iload 7, 2) := by decide +kernel
theorem dX1_isAhead_122 : decode cX1_isAhead 122 = .ok (.goto 4, 3) := by decide +kernel
theorem dX1_isAhead_125 : decode cX1_isAhead 125 = .ok (.iload_n 3, 1) := by decide +kernel
theorem dX1_isAhead_126 : decode cX1_isAhead 126 = .ok (.ireturn, 1) := by decide +kernel
set_option maxRecDepth 20000 in
theorem ggX1_orderByRule_X1_isAhead : GoodIn wsX1_orderByRule wsX1_isAhead := goodIn_r _ [9, 10, 11, 12, 8, 13, 14, 40, 41, 42, 43, 44, 45, 46, 47, 48, 49] (by decide +kernel) (by decide +kernel)
set_option maxRecDepth 20000 in
theorem gX1_orderByRule_X1_isAhead : GoodIn wsX1_orderByRule (wsV RX1 86 RX1 yX1_isAhead wsX1_isAhead) := goodIn_app (goodIn_of _ (by decide +kernel)) ggX1_orderByRule_X1_isAhead
set_option maxRecDepth 20000 in
theorem ggX1_orderByRule_X1_plain : GoodIn wsX1_orderByRule wsX1_plain := goodIn_r _ [18, 4, 3, 19, 20, 21, 8, 22, 1, 23, 24, 25, 26, 27, 28, 29, 30, 31, 32, 33, 34, 35, 10, 11, 12, 13, 14, 36, 37, 38, 39, 40, 41, 42, 43, 44, 45, 46, 47, 48, 49] (by decide +kernel) (by decide +kernel)
set_option maxRecDepth 20000 in
theorem gX1_orderByRule_X1_plain : GoodIn wsX1_orderByRule (wsV RX1 89 RX1 yX1_plain wsX1_plain) := goodIn_app (goodIn_of _ (by decide +kernel)) ggX1_orderByRule_X1_plain
theorem dX1_orderByRule_0 : decode cX1_orderByRule 0 = .ok (.aload_n 0, 1) := by decide +kernel
theorem dX1_orderByRule_1 : decode cX1_orderByRule 1 = .ok (.aload_n 0, 1) := by decide +kernel
theorem dX1_orderByRule_2 : decode cX1_orderByRule 2 = .ok (.getfield 7, 3) := by decide +kernel
theorem dX1_orderByRule_5 : decode cX1_orderByRule 5 = .ok (.iconst 2, 1) := by decide +kernel
theorem dX1_orderByRule_6 : decode cX1_orderByRule 6 = .ok (.if_icmp .ne 7, 3) := by decide +kernel
theorem dX1_orderByRule_9 : decode cX1_orderByRule 9 = .ok (.iconst 0, 1) := by decide +kernel
theorem dX1_orderByRule_10 : decode cX1_orderByRule 10 = .ok (.goto 4, 3) := by decide +kernel
theorem dX1_orderByRule_13 : decode cX1_orderByRule 13 = .ok (.iconst 1, 1) := by decide +kernel
theorem dX1_orderByRule_14 : decode cX1_orderByRule 14 = .ok (.putfield 32, 3) := by decide +kernel
theorem dX1_orderByRule_17 : decode cX1_orderByRule 17 = .ok (.aload_n 0, 1) := by decide +kernel
theorem dX1_orderByRule_18 : decode cX1_orderByRule 18 = .ok (.getfield 32, 3) := by decide +kernel
theorem dX1_orderByRule_21 : decode cX1_orderByRule 21 = .ok (.ifCond .le 5, 3) := by decide +kernel
theorem dX1_orderByRule_24 : decode cX1_orderByRule 24 = .ok (.iconst 0, 1) := by decide +kernel
theorem dX1_orderByRule_25 : decode cX1_orderByRule 25 = .ok (.ireturn, 1) := by decide +kernel
theorem dX1_orderByRule_26 : decode cX1_orderByRule 26 = .ok (.iconst 0, 1) := by decide +kernel
theorem dX1_orderByRule_27 : decode cX1_orderByRule 27 = .ok (.istore_n 1, 1) := by decide +kernel
theorem dX1_orderByRule_28 : decode cX1_orderByRule 28 = .ok (.iload_n 1, 1) := by decide +kernel
theorem dX1_orderByRule_29 : decode cX1_orderByRule 29 = .ok (.aload_n 0, 1) := by decide +kernel
theorem dX1_orderByRule_30 : decode cX1_orderByRule 30 = .ok (.getfield 35, 3) := by decide +kernel
theorem dX1_orderByRule_33 : decode cX1_orderByRule 33 = .ok (.if_icmp .ge 56, 3) := by decide +kernel
theorem dX1_orderByRule_36 : decode cX1_orderByRule 36 = .ok (.iconst 0, 1) := by decide +kernel
theorem dX1_orderByRule_37 : decode cX1_orderByRule 37 = .ok (.istore_n 2, 1) := by decide +kernel
theorem dX1_orderByRule_38 : decode cX1_orderByRule 38 = .ok (.iconst 0, 1) := by decide +kernel
theorem dX1_orderByRule_39 : decode cX1_orderByRule 39 = .ok (.istore_n 3, 1) := by decide +kernel
theorem dX1_orderByRule_40 : decode cX1_orderByRule 40 = .ok (.iload_n 3, 1) := by decide +kernel
theorem dX1_orderByRule_41 : decode cX1_orderByRule 41 = .ok (.aload_n 0, 1) := by decide +kernel
theorem dX1_orderByRule_42 : decode cX1_orderByRule 42 = .ok (.getfield 35, 3) := by decide +kernel
theorem dX1_orderByRule_45 : decode cX1_orderByRule 45 = .ok (.if_icmp .ge 31, 3) := by decide +kernel
theorem dX1_orderByRule_48 : decode cX1_orderByRule 48 = .ok (.iload_n 2, 1) := by decide +kernel
theorem dX1_orderByRule_49 : decode cX1_orderByRule 49 = .ok (.iload_n 3, 1) := by decide +kernel
theorem dX1_orderByRule_50 : decode cX1_orderByRule 50 = .ok (.iload_n 1, 1) := by decide +kernel
theorem dX1_orderByRule_51 : decode cX1_orderByRule 51 = .ok (.if_icmp .eq 16, 3) := by decide +kernel
theorem dX1_orderByRule_54 : decode cX1_orderByRule 54 = .ok (.aload_n 0, 1) := by decide +kernel
theorem dX1_orderByRule_55 : decode cX1_orderByRule 55 = .ok (.iload_n 3, 1) := by decide +kernel
theorem dX1_orderByRule_56 : decode cX1_orderByRule 56 = .ok (.iload_n 1, 1) := by decide +kernel
theorem dX1_orderByRule_57 : decode cX1_orderByRule 57 = .ok (.invokevirtual 86, 3) := by decide +kernel
theorem dX1_orderByRule_60 : decode cX1_orderByRule 60 = .ok (.ifCond .eq 7, 3) := by decide +kernel
theorem dX1_orderByRule_63 : decode cX1_orderByRule 63 = .ok (.iconst 1, 1) := by decide +kernel
theorem dX1_orderByRule_64 : decode cX1_orderByRule 64 = .ok (.goto 4, 3) := by decide +kernel
theorem dX1_orderByRule_67 : decode cX1_orderByRule 67 = .ok (.iconst 0, 1) := by decide +kernel
theorem dX1_orderByRule_68 : decode cX1_orderByRule 68 = .ok (.iadd, 1) := by decide +kernel
theorem dX1_orderByRule_69 : decode cX1_orderByRule 69 = .ok (.istore_n 2, 1) := by decide +kernel
theorem dX1_orderByRule_70 : decode cX1_orderByRule 70 = .ok (.iinc 3 1, 3) := by decide +kernel
theorem dX1_orderByRule_73 : decode cX1_orderByRule 73 = .ok (.goto (-33), 3) := by decide +kernel
theorem dX1_orderByRule_76 : decode cX1_orderByRule 76 = .ok (.aload_n 0, 1) := by decide +kernel
theorem dX1_orderByRule_77 : decode cX1_orderByRule 77 = .ok (.getfield 17, 3) := by decide +kernel
theorem dX1_orderByRule_80 : decode cX1_orderByRule 80 = .ok (.iload_n 2, 1) := by decide +kernel
theorem dX1_orderByRule_81 : decode cX1_orderByRule 81 = .ok (.iload_n 1, 1) := by decide +kernel
theorem dX1_orderByRule_82 : decode cX1_orderByRule 82 = .ok (.iastore, 1) := by decide +kernel
theorem dX1_orderByRule_83 : decode cX1_orderByRule 83 = .ok (.iinc 1 1, 3) := by decide +kernel
theorem dX1_orderByRule_86 : decode cX1_orderByRule 86 = .ok (.goto (-58), 3) := by decide +kernel
theorem dX1_orderByRule_89 : decode cX1_orderByRule 89 = .ok (.aload_n 0, 1) := by decide +kernel
theorem dX1_orderByRule_90 : decode cX1_orderByRule 90 = .ok (.invokevirtual 89, 3) := by decide +kernel
theorem dX1_orderByRule_93 : decode cX1_orderByRule 93 = .ok (.ireturn, 1) := by decide +kernel
set_option maxRecDepth 20000 in
theorem ggX1_sumOf_X1_timeOf : GoodIn wsX1_sumOf wsX1_timeOf := goodIn_r _ [5, 6, 7, 8, 9, 10, 11, 12, 13, 14, 15, 16] (by decide +kernel) (by decide +kernel)
set_option maxRecDepth 20000 in
theorem gX1_sumOf_X1_timeOf : GoodIn wsX1_sumOf (wsV RX1 46 RX1 yX1_timeOf wsX1_timeOf) := goodIn_app (goodIn_of _ (by decide +kernel)) ggX1_sumOf_X1_timeOf
theorem dX1_sumOf_0 : decode cX1_sumOf 0 = .ok (.iconst 0, 1) := by decide +kernel
theorem dX1_sumOf_1 : decode cX1_sumOf 1 = .ok (.istore 4, 2) := by decide +kernel
theorem dX1_sumOf_3 : decode cX1_sumOf 3 = .ok (.iload_n 2, 1) := by decide +kernel
theorem dX1_sumOf_4 : decode cX1_sumOf 4 = .ok (.istore 5, 2) := by decide +kernel
theorem dX1_sumOf_6 : decode cX1_sumOf 6 = .ok (.iload 5, 2) := by decide +kernel
theorem dX1_sumOf_8 : decode cX1_sumOf 8 = .ok (.iload_n 3, 1) := by decide +kernel
theorem dX1_sumOf_9 : decode cX1_sumOf 9 = .ok (.if_icmp .ge 21, 3) := by decide +kernel
theorem dX1_sumOf_12 : decode cX1_sumOf 12 = .ok (.iload 4, 2) := by decide +kernel
theorem dX1_sumOf_14 : decode cX1_sumOf 14 = .ok (.aload_n 0, 1) := by decide +kernel
theorem dX1_sumOf_15 : decode cX1_sumOf 15 = .ok (.iload_n 1, 1) := by decide +kernel
theorem dX1_sumOf_16 : decode cX1_sumOf 16 = .ok (.iload 5, 2) := by decide +kernel
theorem dX1_sumOf_18 : decode cX1_sumOf 18 = .ok (.invokevirtual 46, 3) := by decide +kernel
theorem dX1_sumOf_21 : decode cX1_sumOf 21 = .ok (.iadd, 1) := by decide +kernel
theorem dX1_sumOf_22 : decode cX1_sumOf 22 = .ok (.istore 4, 2) := by decide +kernel
theorem dX1_sumOf_24 : decode cX1_sumOf 24 = .ok (.iinc 5 1, 3) := by decide +kernel
theorem dX1_sumOf_27 : decode cX1_sumOf 27 = .ok (.goto (-21), 3) := by decide +kernel
theorem dX1_sumOf_30 : decode cX1_sumOf 30 = .ok (.iload 4, 2) := by decide +kernel
theorem dX1_sumOf_32 : decode cX1_sumOf 32 = .ok (.ireturn, 1) := by decide +kernel
set_option maxRecDepth 20000 in
theorem ggX1_bySum_X1_sumOf : GoodIn wsX1_bySum wsX1_sumOf := goodIn_r _ [7, 8, 9, 10, 6, 11, 12, 13, 14, 15, 16, 17, 18, 19, 20, 21, 22] (by decide +kernel) (by decide +kernel)
set_option maxRecDepth 20000 in
theorem gX1_bySum_X1_sumOf : GoodIn wsX1_bySum (wsV RX1 93 RX1 yX1_sumOf wsX1_sumOf) := goodIn_app (goodIn_of _ (by decide +kernel)) ggX1_bySum_X1_sumOf
theorem dX1_bySum_0 : decode cX1_bySum 0 = .ok (.iconst 0, 1) := by decide +kernel
theorem dX1_bySum_1 : decode cX1_bySum 1 = .ok (.istore_n 2, 1) := by decide +kernel
theorem dX1_bySum_2 : decode cX1_bySum 2 = .ok (.iconst 0, 1) := by decide +kernel
theorem dX1_bySum_3 : decode cX1_bySum 3 = .ok (.istore_n 3, 1) := by decide +kernel
theorem dX1_bySum_4 : decode cX1_bySum 4 = .ok (.iload_n 3, 1) := by decide +kernel
theorem dX1_bySum_5 : decode cX1_bySum 5 = .ok (.aload_n 0, 1) := by decide +kernel
theorem dX1_bySum_6 : decode cX1_bySum 6 = .ok (.getfield 35, 3) := by decide +kernel
theorem dX1_bySum_9 : decode cX1_bySum 9 = .ok (.if_icmp .ge 92, 3) := by decide +kernel
theorem dX1_bySum_12 : decode cX1_bySum 12 = .ok (.iconst 0, 1) := by decide +kernel
theorem dX1_bySum_13 : decode cX1_bySum 13 = .ok (.istore 4, 2) := by decide +kernel
theorem dX1_bySum_15 : decode cX1_bySum 15 = .ok (.iconst 0, 1) := by decide +kernel
theorem dX1_bySum_16 : decode cX1_bySum 16 = .ok (.istore 5, 2) := by decide +kernel
theorem dX1_bySum_18 : decode cX1_bySum 18 = .ok (.iload 5, 2) := by decide +kernel
theorem dX1_bySum_20 : decode cX1_bySum 20 = .ok (.aload_n 0, 1) := by decide +kernel
theorem dX1_bySum_21 : decode cX1_bySum 21 = .ok (.getfield 35, 3) := by decide +kernel
theorem dX1_bySum_24 : decode cX1_bySum 24 = .ok (.if_icmp .ge 59, 3) := by decide +kernel
theorem dX1_bySum_27 : decode cX1_bySum 27 = .ok (.aload_n 0, 1) := by decide +kernel
theorem dX1_bySum_28 : decode cX1_bySum 28 = .ok (.iload 5, 2) := by decide +kernel
theorem dX1_bySum_30 : decode cX1_bySum 30 = .ok (.iconst 0, 1) := by decide +kernel
theorem dX1_bySum_31 : decode cX1_bySum 31 = .ok (.aload_n 0, 1) := by decide +kernel
theorem dX1_bySum_32 : decode cX1_bySum 32 = .ok (.getfield 7, 3) := by decide +kernel
theorem dX1_bySum_35 : decode cX1_bySum 35 = .ok (.invokevirtual 93, 3) := by decide +kernel
theorem dX1_bySum_38 : decode cX1_bySum 38 = .ok (.aload_n 0, 1) := by decide +kernel
theorem dX1_bySum_39 : decode cX1_bySum 39 = .ok (.iload_n 3, 1) := by decide +kernel
theorem dX1_bySum_40 : decode cX1_bySum 40 = .ok (.iconst 0, 1) := by decide +kernel
theorem dX1_bySum_41 : decode cX1_bySum 41 = .ok (.aload_n 0, 1) := by decide +kernel
theorem dX1_bySum_42 : decode cX1_bySum 42 = .ok (.getfield 7, 3) := by decide +kernel
theorem dX1_bySum_45 : decode cX1_bySum 45 = .ok (.invokevirtual 93, 3) := by decide +kernel
theorem dX1_bySum_48 : decode cX1_bySum 48 = .ok (.isub, 1) := by decide +kernel
theorem dX1_bySum_49 : decode cX1_bySum 49 = .ok (.istore 6, 2) := by decide +kernel
theorem dX1_bySum_51 : decode cX1_bySum 51 = .ok (.iload 4, 2) := by decide +kernel
theorem dX1_bySum_53 : decode cX1_bySum 53 = .ok (.iload 6, 2) := by decide +kernel
theorem dX1_bySum_55 : decode cX1_bySum 55 = .ok (.ifCond .gt 14, 3) := by decide +kernel
theorem dX1_bySum_58 : decode cX1_bySum 58 = .ok (.iload 6, 2) := by decide +kernel
theorem dX1_bySum_60 : decode cX1_bySum 60 = .ok (.ifCond .ne 13, 3) := by decide +kernel
theorem dX1_bySum_63 : decode cX1_bySum 63 = .ok (.iload 5, 2) := by decide +kernel
theorem dX1_bySum_65 : decode cX1_bySum 65 = .ok (.iload_n 3, 1) := by decide +kernel
theorem dX1_bySum_66 : decode cX1_bySum 66 = .ok (.if_icmp .ge 7, 3) := by decide +kernel
theorem dX1_bySum_69 : decode cX1_bySum 69 = .ok (.iconst 1, 1) := by decide +kernel
theorem dX1_bySum_70 : decode cX1_bySum 70 = .ok (.goto 4, 3) := by decide +kernel
theorem dX1_bySum_73 : decode cX1_bySum 73 = .ok (.iconst 0, 1) := by decide +kernel
theorem dX1_bySum_74 : decode cX1_bySum 74 = .ok (.iadd, 1) := by decide +kernel
theorem dX1_bySum_75 : decode cX1_bySum 75 = .ok (.istore 4, 2) := by decide +kernel
theorem dX1_bySum_77 : decode cX1_bySum 77 = .ok (.iinc 5 1, 3) := by decide +kernel
theorem dX1_bySum_80 : decode cX1_bySum 80 = .ok (.goto (-62), 3) := by decide +kernel
theorem dX1_bySum_83 : decode cX1_bySum 83 = .ok (.iload 4, 2) := by decide +kernel
theorem dX1_bySum_85 : decode cX1_bySum 85 = .ok (.iload_n 1, 1) := by decide +kernel
theorem dX1_bySum_86 : decode cX1_bySum 86 = .ok (.if_icmp .ne 7, 3) := by decide +kernel
theorem dX1_bySum_89 : decode cX1_bySum 89 = .ok (.iload_n 3, 1) := by decide +kernel
theorem dX1_bySum_90 : decode cX1_bySum 90 = .ok (.goto 4, 3) := by decide +kernel
theorem dX1_bySum_93 : decode cX1_bySum 93 = .ok (.iload_n 2, 1) := by decide +kernel
theorem dX1_bySum_94 : decode cX1_bySum 94 = .ok (.istore_n 2, 1) := by decide +kernel
theorem dX1_bySum_95 : decode cX1_bySum 95 = .ok (.iinc 3 1, 3) := by decide +kernel
theorem dX1_bySum_98 : decode cX1_bySum 98 = .ok (.goto (-94), 3) := by decide +kernel
theorem dX1_bySum_101 : decode cX1_bySum 101 = .ok (.iload_n 2, 1) := by decide +kernel
theorem dX1_bySum_102 : decode cX1_bySum 102 = .ok (.ireturn, 1) := by decide +kernel
theorem dX1_puts_0 : decode cX1_puts 0 = .ok (.iload_n 3, 1) := by decide +kernel
theorem dX1_puts_1 : decode cX1_puts 1 = .ok (.istore 4, 2) := by decide +kernel
theorem dX1_puts_3 : decode cX1_puts 3 = .ok (.iload 4, 2) := by decide +kernel
theorem dX1_puts_5 : decode cX1_puts 5 = .ok (.iload_n 2, 1) := by decide +kernel
theorem dX1_puts_6 : decode cX1_puts 6 = .ok (.if_icmp .le 25, 3) := by decide +kernel
theorem dX1_puts_9 : decode cX1_puts 9 = .ok (.aload_n 0, 1) := by decide +kernel
theorem dX1_puts_10 : decode cX1_puts 10 = .ok (.getfield 26, 3) := by decide +kernel
theorem dX1_puts_13 : decode cX1_puts 13 = .ok (.iload 4, 2) := by decide +kernel
theorem dX1_puts_15 : decode cX1_puts 15 = .ok (.aload_n 0, 1) := by decide +kernel
theorem dX1_puts_16 : decode cX1_puts 16 = .ok (.getfield 26, 3) := by decide +kernel
theorem dX1_puts_19 : decode cX1_puts 19 = .ok (.iload 4, 2) := by decide +kernel
theorem dX1_puts_21 : decode cX1_puts 21 = .ok (.iconst 1, 1) := by decide +kernel
theorem dX1_puts_22 : decode cX1_puts 22 = .ok (.isub, 1) := by decide +kernel
theorem dX1_puts_23 : decode cX1_puts 23 = .ok (.iaload, 1) := by decide +kernel
theorem dX1_puts_24 : decode cX1_puts 24 = .ok (.iastore, 1) := by decide +kernel
theorem dX1_puts_25 : decode cX1_puts 25 = .ok (.iinc 4 (-1), 3) := by decide +kernel
theorem dX1_puts_28 : decode cX1_puts 28 = .ok (.goto (-25), 3) := by decide +kernel
theorem dX1_puts_31 : decode cX1_puts 31 = .ok (.aload_n 0, 1) := by decide +kernel
theorem dX1_puts_32 : decode cX1_puts 32 = .ok (.getfield 26, 3) := by decide +kernel
theorem dX1_puts_35 : decode cX1_puts 35 = .ok (.iload_n 2, 1) := by decide +kernel
theorem dX1_puts_36 : decode cX1_puts 36 = .ok (.iload_n 1, 1) := by decide +kernel
theorem dX1_puts_37 : decode cX1_puts 37 = .ok (.iastore, 1) := by decide +kernel
theorem dX1_puts_38 : decode cX1_puts 38 = .ok (.return_, 1) := by decide +kernel
theorem dX1_takesOut_0 : decode cX1_takesOut 0 = .ok (.iload_n 1, 1) := by decide +kernel
theorem dX1_takesOut_1 : decode cX1_takesOut 1 = .ok (.istore_n 3, 1) := by decide +kernel
theorem dX1_takesOut_2 : decode cX1_takesOut 2 = .ok (.iload_n 3, 1) := by decide +kernel
theorem dX1_takesOut_3 : decode cX1_takesOut 3 = .ok (.iload_n 2, 1) := by decide +kernel
theorem dX1_takesOut_4 : decode cX1_takesOut 4 = .ok (.if_icmp .ge 23, 3) := by decide +kernel
theorem dX1_takesOut_7 : decode cX1_takesOut 7 = .ok (.aload_n 0, 1) := by decide +kernel
theorem dX1_takesOut_8 : decode cX1_takesOut 8 = .ok (.getfield 26, 3) := by decide +kernel
theorem dX1_takesOut_11 : decode cX1_takesOut 11 = .ok (.iload_n 3, 1) := by decide +kernel
theorem dX1_takesOut_12 : decode cX1_takesOut 12 = .ok (.aload_n 0, 1) := by decide +kernel
theorem dX1_takesOut_13 : decode cX1_takesOut 13 = .ok (.getfield 26, 3) := by decide +kernel
theorem dX1_takesOut_16 : decode cX1_takesOut 16 = .ok (.iload_n 3, 1) := by decide +kernel
theorem dX1_takesOut_17 : decode cX1_takesOut 17 = .ok (.iconst 1, 1) := by decide +kernel
theorem dX1_takesOut_18 : decode cX1_takesOut 18 = .ok (.iadd, 1) := by decide +kernel
theorem dX1_takesOut_19 : decode cX1_takesOut 19 = .ok (.iaload, 1) := by decide +kernel
theorem dX1_takesOut_20 : decode cX1_takesOut 20 = .ok (.iastore, 1) := by decide +kernel
theorem dX1_takesOut_21 : decode cX1_takesOut 21 = .ok (.iinc 3 1, 3) := by decide +kernel
theorem dX1_takesOut_24 : decode cX1_takesOut 24 = .ok (.goto (-22), 3) := by decide +kernel
theorem dX1_takesOut_27 : decode cX1_takesOut 27 = .ok (.return_, 1) := by decide +kernel
set_option maxRecDepth 20000 in
theorem ggX1_orderByInsertion_X1_bySum : GoodIn wsX1_orderByInsertion wsX1_bySum := goodIn_r _ [9, 2, 10, 11, 12, 13, 8, 14, 15, 16, 17, 18, 19, 58, 59, 60, 61, 62, 63, 64, 65, 66, 67] (by decide +kernel) (by decide +kernel)
set_option maxRecDepth 20000 in
theorem gX1_orderByInsertion_X1_bySum : GoodIn wsX1_orderByInsertion (wsV RX1 97 RX1 yX1_bySum wsX1_bySum) := goodIn_app (goodIn_of _ (by decide +kernel)) ggX1_orderByInsertion_X1_bySum
set_option maxRecDepth 20000 in
theorem ggX1_orderByInsertion_X1_puts : GoodIn wsX1_orderByInsertion wsX1_puts := goodIn_r _ [23, 4, 58, 59, 60, 61, 62, 63, 64, 65, 66, 67] (by decide +kernel) (by decide +kernel)
set_option maxRecDepth 20000 in
theorem gX1_orderByInsertion_X1_puts : GoodIn wsX1_orderByInsertion (wsV RX1 101 RX1 yX1_puts wsX1_puts) := goodIn_app (goodIn_of _ (by decide +kernel)) ggX1_orderByInsertion_X1_puts
set_option maxRecDepth 20000 in
theorem ggX1_orderByInsertion_X1_lays : GoodIn wsX1_orderByInsertion wsX1_lays := goodIn_r _ [27, 10, 28, 29, 30, 31, 8, 32, 33, 34, 35, 36, 37, 38, 39, 40, 15, 16, 17, 18, 19, 41, 42, 43, 44, 58, 59, 60, 61, 62, 63, 64, 65, 66, 67] (by decide +kernel) (by decide +kernel)
set_option maxRecDepth 20000 in
theorem gX1_orderByInsertion_X1_lays : GoodIn wsX1_orderByInsertion (wsV RX1 69 RX1 yX1_lays wsX1_lays) := goodIn_app (goodIn_of _ (by decide +kernel)) ggX1_orderByInsertion_X1_lays
set_option maxRecDepth 20000 in
theorem ggX1_orderByInsertion_X1_takesOut : GoodIn wsX1_orderByInsertion wsX1_takesOut := goodIn_r _ [48, 4, 58, 59, 60, 61, 62, 63, 64, 65, 66, 67] (by decide +kernel) (by decide +kernel)
set_option maxRecDepth 20000 in
theorem gX1_orderByInsertion_X1_takesOut : GoodIn wsX1_orderByInsertion (wsV RX1 105 RX1 yX1_takesOut wsX1_takesOut) := goodIn_app (goodIn_of _ (by decide +kernel)) ggX1_orderByInsertion_X1_takesOut
set_option maxRecDepth 20000 in
theorem ggX1_orderByInsertion_X1_takesTrial : GoodIn wsX1_orderByInsertion wsX1_takesTrial := goodIn_r _ [52, 2, 53, 4, 58, 59, 60, 61, 62, 63, 64, 65, 66, 67] (by decide +kernel) (by decide +kernel)
set_option maxRecDepth 20000 in
theorem gX1_orderByInsertion_X1_takesTrial : GoodIn wsX1_orderByInsertion (wsV RX1 83 RX1 yX1_takesTrial wsX1_takesTrial) := goodIn_app (goodIn_of _ (by decide +kernel)) ggX1_orderByInsertion_X1_takesTrial
set_option maxRecDepth 20000 in
theorem ggX1_orderByInsertion_X1_plain : GoodIn wsX1_orderByInsertion wsX1_plain := goodIn_r _ [57, 53, 2, 24, 25, 26, 8, 27, 10, 28, 29, 30, 31, 32, 33, 34, 35, 36, 37, 38, 39, 40, 15, 16, 17, 18, 19, 41, 42, 43, 44, 58, 59, 60, 61, 62, 63, 64, 65, 66, 67] (by decide +kernel) (by decide +kernel)
set_option maxRecDepth 20000 in
theorem gX1_orderByInsertion_X1_plain : GoodIn wsX1_orderByInsertion (wsV RX1 89 RX1 yX1_plain wsX1_plain) := goodIn_app (goodIn_of _ (by decide +kernel)) ggX1_orderByInsertion_X1_plain
theorem dX1_orderByInsertion_0 : decode cX1_orderByInsertion 0 = .ok (.aload_n 0, 1) := by decide +kernel
theorem dX1_orderByInsertion_1 : decode cX1_orderByInsertion 1 = .ok (.iconst 0, 1) := by decide +kernel
theorem dX1_orderByInsertion_2 : decode cX1_orderByInsertion 2 = .ok (.putfield 32, 3) := by decide +kernel
theorem dX1_orderByInsertion_5 : decode cX1_orderByInsertion 5 = .ok (.iconst 0, 1) := by decide +kernel
theorem dX1_orderByInsertion_6 : decode cX1_orderByInsertion 6 = .ok (.istore_n 1, 1) := by decide +kernel
theorem dX1_orderByInsertion_7 : decode cX1_orderByInsertion 7 = .ok (.iload_n 1, 1) := by decide +kernel
theorem dX1_orderByInsertion_8 : decode cX1_orderByInsertion 8 = .ok (.aload_n 0, 1) := by decide +kernel
theorem dX1_orderByInsertion_9 : decode cX1_orderByInsertion 9 = .ok (.getfield 35, 3) := by decide +kernel
theorem dX1_orderByInsertion_12 : decode cX1_orderByInsertion 12 = .ok (.if_icmp .ge 102, 3) := by decide +kernel
theorem dX1_orderByInsertion_15 : decode cX1_orderByInsertion 15 = .ok (.aload_n 0, 1) := by decide +kernel
theorem dX1_orderByInsertion_16 : decode cX1_orderByInsertion 16 = .ok (.iload_n 1, 1) := by decide +kernel
theorem dX1_orderByInsertion_17 : decode cX1_orderByInsertion 17 = .ok (.invokevirtual 97, 3) := by decide +kernel
theorem dX1_orderByInsertion_20 : decode cX1_orderByInsertion 20 = .ok (.istore_n 2, 1) := by decide +kernel
theorem dX1_orderByInsertion_21 : decode cX1_orderByInsertion 21 = .ok (.iconst 0, 1) := by decide +kernel
theorem dX1_orderByInsertion_22 : decode cX1_orderByInsertion 22 = .ok (.istore_n 3, 1) := by decide +kernel
theorem dX1_orderByInsertion_23 : decode cX1_orderByInsertion 23 = .ok (.ldc 100, 2) := by decide +kernel
theorem dX1_orderByInsertion_25 : decode cX1_orderByInsertion 25 = .ok (.istore 4, 2) := by decide +kernel
theorem dX1_orderByInsertion_27 : decode cX1_orderByInsertion 27 = .ok (.iconst 0, 1) := by decide +kernel
theorem dX1_orderByInsertion_28 : decode cX1_orderByInsertion 28 = .ok (.istore 5, 2) := by decide +kernel
theorem dX1_orderByInsertion_30 : decode cX1_orderByInsertion 30 = .ok (.iload 5, 2) := by decide +kernel
theorem dX1_orderByInsertion_32 : decode cX1_orderByInsertion 32 = .ok (.iload_n 1, 1) := by decide +kernel
theorem dX1_orderByInsertion_33 : decode cX1_orderByInsertion 33 = .ok (.if_icmp .gt 68, 3) := by decide +kernel
theorem dX1_orderByInsertion_36 : decode cX1_orderByInsertion 36 = .ok (.aload_n 0, 1) := by decide +kernel
theorem dX1_orderByInsertion_37 : decode cX1_orderByInsertion 37 = .ok (.iload_n 2, 1) := by decide +kernel
theorem dX1_orderByInsertion_38 : decode cX1_orderByInsertion 38 = .ok (.iload 5, 2) := by decide +kernel
theorem dX1_orderByInsertion_40 : decode cX1_orderByInsertion 40 = .ok (.iload_n 1, 1) := by decide +kernel
theorem dX1_orderByInsertion_41 : decode cX1_orderByInsertion 41 = .ok (.invokevirtual 101, 3) := by decide +kernel
theorem dX1_orderByInsertion_44 : decode cX1_orderByInsertion 44 = .ok (.aload_n 0, 1) := by decide +kernel
theorem dX1_orderByInsertion_45 : decode cX1_orderByInsertion 45 = .ok (.iconst 0, 1) := by decide +kernel
theorem dX1_orderByInsertion_46 : decode cX1_orderByInsertion 46 = .ok (.aload_n 0, 1) := by decide +kernel
theorem dX1_orderByInsertion_47 : decode cX1_orderByInsertion 47 = .ok (.getfield 26, 3) := by decide +kernel
theorem dX1_orderByInsertion_50 : decode cX1_orderByInsertion 50 = .ok (.iload_n 1, 1) := by decide +kernel
theorem dX1_orderByInsertion_51 : decode cX1_orderByInsertion 51 = .ok (.iconst 1, 1) := by decide +kernel
theorem dX1_orderByInsertion_52 : decode cX1_orderByInsertion 52 = .ok (.iadd, 1) := by decide +kernel
theorem dX1_orderByInsertion_53 : decode cX1_orderByInsertion 53 = .ok (.invokevirtual 69, 3) := by decide +kernel
theorem dX1_orderByInsertion_56 : decode cX1_orderByInsertion 56 = .ok (.istore 6, 2) := by decide +kernel
theorem dX1_orderByInsertion_58 : decode cX1_orderByInsertion 58 = .ok (.iload 6, 2) := by decide +kernel
theorem dX1_orderByInsertion_60 : decode cX1_orderByInsertion 60 = .ok (.iload 4, 2) := by decide +kernel
theorem dX1_orderByInsertion_62 : decode cX1_orderByInsertion 62 = .ok (.if_icmp .ge 8, 3) := by decide +kernel
theorem dX1_orderByInsertion_65 : decode cX1_orderByInsertion 65 = .ok (.iload 5, 2) := by decide +kernel
theorem dX1_orderByInsertion_67 : decode cX1_orderByInsertion 67 = .ok (.goto 4, 3) := by decide +kernel
theorem dX1_orderByInsertion_70 : decode cX1_orderByInsertion 70 = .ok (.iload_n 3, 1) := by decide +kernel
theorem dX1_orderByInsertion_71 : decode cX1_orderByInsertion 71 = .ok (.istore_n 3, 1) := by decide +kernel
theorem dX1_orderByInsertion_72 : decode cX1_orderByInsertion 72 = .ok (.iload 6, 2) := by decide +kernel
theorem dX1_orderByInsertion_74 : decode cX1_orderByInsertion 74 = .ok (.iload 4, 2) := by decide +kernel
theorem dX1_orderByInsertion_76 : decode cX1_orderByInsertion 76 = .ok (.if_icmp .ge 8, 3) := by decide +kernel
theorem dX1_orderByInsertion_79 : decode cX1_orderByInsertion 79 = .ok (.iload 6, 2) := by decide +kernel
theorem dX1_orderByInsertion_81 : decode cX1_orderByInsertion 81 = .ok (.goto 5, 3) := by decide +kernel
theorem dX1_orderByInsertion_84 : decode cX1_orderByInsertion 84 = .ok (.iload 4, 2) := by decide +kernel
theorem dX1_orderByInsertion_86 : decode cX1_orderByInsertion 86 = .ok (.istore 4, 2) := by decide +kernel
theorem dX1_orderByInsertion_88 : decode cX1_orderByInsertion 88 = .ok (.aload_n 0, 1) := by decide +kernel
theorem dX1_orderByInsertion_89 : decode cX1_orderByInsertion 89 = .ok (.iload 5, 2) := by decide +kernel
theorem dX1_orderByInsertion_91 : decode cX1_orderByInsertion 91 = .ok (.iload_n 1, 1) := by decide +kernel
theorem dX1_orderByInsertion_92 : decode cX1_orderByInsertion 92 = .ok (.invokevirtual 105, 3) := by decide +kernel
theorem dX1_orderByInsertion_95 : decode cX1_orderByInsertion 95 = .ok (.iinc 5 1, 3) := by decide +kernel
theorem dX1_orderByInsertion_98 : decode cX1_orderByInsertion 98 = .ok (.goto (-68), 3) := by decide +kernel
theorem dX1_orderByInsertion_101 : decode cX1_orderByInsertion 101 = .ok (.aload_n 0, 1) := by decide +kernel
theorem dX1_orderByInsertion_102 : decode cX1_orderByInsertion 102 = .ok (.iload_n 2, 1) := by decide +kernel
theorem dX1_orderByInsertion_103 : decode cX1_orderByInsertion 103 = .ok (.iload_n 3, 1) := by decide +kernel
theorem dX1_orderByInsertion_104 : decode cX1_orderByInsertion 104 = .ok (.iload_n 1, 1) := by decide +kernel
theorem dX1_orderByInsertion_105 : decode cX1_orderByInsertion 105 = .ok (.invokevirtual 101, 3) := by decide +kernel
theorem dX1_orderByInsertion_108 : decode cX1_orderByInsertion 108 = .ok (.iinc 1 1, 3) := by decide +kernel
theorem dX1_orderByInsertion_111 : decode cX1_orderByInsertion 111 = .ok (.goto (-104), 3) := by decide +kernel
theorem dX1_orderByInsertion_114 : decode cX1_orderByInsertion 114 = .ok (.aload_n 0, 1) := by decide +kernel
theorem dX1_orderByInsertion_115 : decode cX1_orderByInsertion 115 = .ok (.invokevirtual 83, 3) := by decide +kernel
theorem dX1_orderByInsertion_118 : decode cX1_orderByInsertion 118 = .ok (.aload_n 0, 1) := by decide +kernel
theorem dX1_orderByInsertion_119 : decode cX1_orderByInsertion 119 = .ok (.invokevirtual 89, 3) := by decide +kernel
theorem dX1_orderByInsertion_122 : decode cX1_orderByInsertion 122 = .ok (.ireturn, 1) := by decide +kernel
set_option maxRecDepth 20000 in
theorem ggX1_improve_X1_plain : GoodIn wsX1_improve wsX1_plain := goodIn_r _ [9, 10, 3, 11, 12, 13, 8, 14, 15, 16, 17, 18, 19, 20, 21, 22, 23, 24, 25, 26, 27, 28, 29, 30, 31, 32, 33, 34, 35, 36, 37, 46, 47, 48, 49, 50, 51, 52, 53, 54, 55] (by decide +kernel) (by decide +kernel)
set_option maxRecDepth 20000 in
theorem gX1_improve_X1_plain : GoodIn wsX1_improve (wsV RX1 89 RX1 yX1_plain wsX1_plain) := goodIn_app (goodIn_of _ (by decide +kernel)) ggX1_improve_X1_plain
set_option maxRecDepth 20000 in
theorem ggX1_improve_X1_triesMove : GoodIn wsX1_improve wsX1_triesMove := goodIn_r _ [41, 3, 4, 10, 46, 47, 48, 49, 50, 51, 52, 53, 54, 55] (by decide +kernel) (by decide +kernel)
set_option maxRecDepth 20000 in
theorem gX1_improve_X1_triesMove : GoodIn wsX1_improve (wsV RX1 79 RX1 yX1_triesMove wsX1_triesMove) := goodIn_app (goodIn_of _ (by decide +kernel)) ggX1_improve_X1_triesMove
set_option maxRecDepth 20000 in
theorem ggX1_improve_X1_lays : GoodIn wsX1_improve wsX1_lays := goodIn_r _ [14, 15, 16, 17, 18, 19, 8, 20, 21, 22, 23, 24, 25, 26, 27, 28, 29, 30, 31, 32, 33, 34, 35, 36, 37, 46, 47, 48, 49, 50, 51, 52, 53, 54, 55] (by decide +kernel) (by decide +kernel)
set_option maxRecDepth 20000 in
theorem gX1_improve_X1_lays : GoodIn wsX1_improve (wsV RX1 69 RX1 yX1_lays wsX1_lays) := goodIn_app (goodIn_of _ (by decide +kernel)) ggX1_improve_X1_lays
set_option maxRecDepth 20000 in
theorem ggX1_improve_X1_takesTrial : GoodIn wsX1_improve wsX1_takesTrial := goodIn_r _ [45, 3, 10, 4, 46, 47, 48, 49, 50, 51, 52, 53, 54, 55] (by decide +kernel) (by decide +kernel)
set_option maxRecDepth 20000 in
theorem gX1_improve_X1_takesTrial : GoodIn wsX1_improve (wsV RX1 83 RX1 yX1_takesTrial wsX1_takesTrial) := goodIn_app (goodIn_of _ (by decide +kernel)) ggX1_improve_X1_takesTrial
theorem dX1_improve_0 : decode cX1_improve 0 = .ok (.aload_n 0, 1) := by decide +kernel
theorem dX1_improve_1 : decode cX1_improve 1 = .ok (.iconst 0, 1) := by decide +kernel
theorem dX1_improve_2 : decode cX1_improve 2 = .ok (.putfield 32, 3) := by decide +kernel
theorem dX1_improve_5 : decode cX1_improve 5 = .ok (.aload_n 0, 1) := by decide +kernel
theorem dX1_improve_6 : decode cX1_improve 6 = .ok (.invokevirtual 89, 3) := by decide +kernel
theorem dX1_improve_9 : decode cX1_improve 9 = .ok (.istore_n 1, 1) := by decide +kernel
theorem dX1_improve_10 : decode cX1_improve 10 = .ok (.ldc 100, 2) := by decide +kernel
theorem dX1_improve_12 : decode cX1_improve 12 = .ok (.istore_n 2, 1) := by decide +kernel
theorem dX1_improve_13 : decode cX1_improve 13 = .ok (.iconst 0, 1) := by decide +kernel
theorem dX1_improve_14 : decode cX1_improve 14 = .ok (.istore_n 3, 1) := by decide +kernel
theorem dX1_improve_15 : decode cX1_improve 15 = .ok (.iconst 0, 1) := by decide +kernel
theorem dX1_improve_16 : decode cX1_improve 16 = .ok (.istore 4, 2) := by decide +kernel
theorem dX1_improve_18 : decode cX1_improve 18 = .ok (.iconst 0, 1) := by decide +kernel
theorem dX1_improve_19 : decode cX1_improve 19 = .ok (.istore 5, 2) := by decide +kernel
theorem dX1_improve_21 : decode cX1_improve 21 = .ok (.iload 5, 2) := by decide +kernel
theorem dX1_improve_23 : decode cX1_improve 23 = .ok (.aload_n 0, 1) := by decide +kernel
theorem dX1_improve_24 : decode cX1_improve 24 = .ok (.getfield 35, 3) := by decide +kernel
theorem dX1_improve_27 : decode cX1_improve 27 = .ok (.if_icmp .ge 103, 3) := by decide +kernel
theorem dX1_improve_30 : decode cX1_improve 30 = .ok (.iconst 0, 1) := by decide +kernel
theorem dX1_improve_31 : decode cX1_improve 31 = .ok (.istore 6, 2) := by decide +kernel
theorem dX1_improve_33 : decode cX1_improve 33 = .ok (.iload 6, 2) := by decide +kernel
theorem dX1_improve_35 : decode cX1_improve 35 = .ok (.aload_n 0, 1) := by decide +kernel
theorem dX1_improve_36 : decode cX1_improve 36 = .ok (.getfield 35, 3) := by decide +kernel
theorem dX1_improve_39 : decode cX1_improve 39 = .ok (.if_icmp .ge 85, 3) := by decide +kernel
theorem dX1_improve_42 : decode cX1_improve 42 = .ok (.aload_n 0, 1) := by decide +kernel
theorem dX1_improve_43 : decode cX1_improve 43 = .ok (.iload 5, 2) := by decide +kernel
theorem dX1_improve_45 : decode cX1_improve 45 = .ok (.iload 6, 2) := by decide +kernel
theorem dX1_improve_47 : decode cX1_improve 47 = .ok (.invokevirtual 79, 3) := by decide +kernel
theorem dX1_improve_50 : decode cX1_improve 50 = .ok (.iload 5, 2) := by decide +kernel
theorem dX1_improve_52 : decode cX1_improve 52 = .ok (.iload 6, 2) := by decide +kernel
theorem dX1_improve_54 : decode cX1_improve 54 = .ok (.if_icmp .ne 8, 3) := by decide +kernel
theorem dX1_improve_57 : decode cX1_improve 57 = .ok (.ldc 100, 2) := by decide +kernel
theorem dX1_improve_59 : decode cX1_improve 59 = .ok (.goto 16, 3) := by decide +kernel
theorem dX1_improve_62 : decode cX1_improve 62 = .ok (.aload_n 0, 1) := by decide +kernel
theorem dX1_improve_63 : decode cX1_improve 63 = .ok (.iconst 0, 1) := by decide +kernel
theorem dX1_improve_64 : decode cX1_improve 64 = .ok (.aload_n 0, 1) := by decide +kernel
theorem dX1_improve_65 : decode cX1_improve 65 = .ok (.getfield 26, 3) := by decide +kernel
theorem dX1_improve_68 : decode cX1_improve 68 = .ok (.aload_n 0, 1) := by decide +kernel
theorem dX1_improve_69 : decode cX1_improve 69 = .ok (.getfield 35, 3) := by decide +kernel
theorem dX1_improve_72 : decode cX1_improve 72 = .ok (.invokevirtual 69, 3) := by decide +kernel
theorem dX1_improve_75 : decode cX1_improve 75 = .ok (.istore 7, 2) := by decide +kernel
theorem dX1_improve_77 : decode cX1_improve 77 = .ok (.iload 7, 2) := by decide +kernel
theorem dX1_improve_79 : decode cX1_improve 79 = .ok (.iload_n 2, 1) := by decide +kernel
theorem dX1_improve_80 : decode cX1_improve 80 = .ok (.if_icmp .ge 8, 3) := by decide +kernel
theorem dX1_improve_83 : decode cX1_improve 83 = .ok (.iload 5, 2) := by decide +kernel
theorem dX1_improve_85 : decode cX1_improve 85 = .ok (.goto 4, 3) := by decide +kernel
theorem dX1_improve_88 : decode cX1_improve 88 = .ok (.iload_n 3, 1) := by decide +kernel
theorem dX1_improve_89 : decode cX1_improve 89 = .ok (.istore_n 3, 1) := by decide +kernel
theorem dX1_improve_90 : decode cX1_improve 90 = .ok (.iload 7, 2) := by decide +kernel
theorem dX1_improve_92 : decode cX1_improve 92 = .ok (.iload_n 2, 1) := by decide +kernel
theorem dX1_improve_93 : decode cX1_improve 93 = .ok (.if_icmp .ge 8, 3) := by decide +kernel
theorem dX1_improve_96 : decode cX1_improve 96 = .ok (.iload 6, 2) := by decide +kernel
theorem dX1_improve_98 : decode cX1_improve 98 = .ok (.goto 5, 3) := by decide +kernel
theorem dX1_improve_101 : decode cX1_improve 101 = .ok (.iload 4, 2) := by decide +kernel
theorem dX1_improve_103 : decode cX1_improve 103 = .ok (.istore 4, 2) := by decide +kernel
theorem dX1_improve_105 : decode cX1_improve 105 = .ok (.iload 7, 2) := by decide +kernel
theorem dX1_improve_107 : decode cX1_improve 107 = .ok (.iload_n 2, 1) := by decide +kernel
theorem dX1_improve_108 : decode cX1_improve 108 = .ok (.if_icmp .ge 8, 3) := by decide +kernel
theorem dX1_improve_111 : decode cX1_improve 111 = .ok (.iload 7, 2) := by decide +kernel
theorem dX1_improve_113 : decode cX1_improve 113 = .ok (.goto 4, 3) := by decide +kernel
theorem dX1_improve_116 : decode cX1_improve 116 = .ok (.iload_n 2, 1) := by decide +kernel
theorem dX1_improve_117 : decode cX1_improve 117 = .ok (.istore_n 2, 1) := by decide +kernel
theorem dX1_improve_118 : decode cX1_improve 118 = .ok (.iinc 6 1, 3) := by decide +kernel
theorem dX1_improve_121 : decode cX1_improve 121 = .ok (.goto (-88), 3) := by decide +kernel
theorem dX1_improve_124 : decode cX1_improve 124 = .ok (.iinc 5 1, 3) := by decide +kernel
theorem dX1_improve_127 : decode cX1_improve 127 = .ok (.goto (-106), 3) := by decide +kernel
theorem dX1_improve_130 : decode cX1_improve 130 = .ok (.iload_n 2, 1) := by decide +kernel
theorem dX1_improve_131 : decode cX1_improve 131 = .ok (.iload_n 1, 1) := by decide +kernel
theorem dX1_improve_132 : decode cX1_improve 132 = .ok (.if_icmp .lt 5, 3) := by decide +kernel
theorem dX1_improve_135 : decode cX1_improve 135 = .ok (.iconst 0, 1) := by decide +kernel
theorem dX1_improve_136 : decode cX1_improve 136 = .ok (.ireturn, 1) := by decide +kernel
theorem dX1_improve_137 : decode cX1_improve 137 = .ok (.aload_n 0, 1) := by decide +kernel
theorem dX1_improve_138 : decode cX1_improve 138 = .ok (.iload_n 3, 1) := by decide +kernel
theorem dX1_improve_139 : decode cX1_improve 139 = .ok (.iload 4, 2) := by decide +kernel
theorem dX1_improve_141 : decode cX1_improve 141 = .ok (.invokevirtual 79, 3) := by decide +kernel
theorem dX1_improve_144 : decode cX1_improve 144 = .ok (.aload_n 0, 1) := by decide +kernel
theorem dX1_improve_145 : decode cX1_improve 145 = .ok (.invokevirtual 83, 3) := by decide +kernel
theorem dX1_improve_148 : decode cX1_improve 148 = .ok (.iload_n 1, 1) := by decide +kernel
theorem dX1_improve_149 : decode cX1_improve 149 = .ok (.iload_n 2, 1) := by decide +kernel
theorem dX1_improve_150 : decode cX1_improve 150 = .ok (.isub, 1) := by decide +kernel
theorem dX1_improve_151 : decode cX1_improve 151 = .ok (.ireturn, 1) := by decide +kernel
set_option maxRecDepth 20000 in
theorem ggX1_isVariant_X1_in : GoodIn wsX1_isVariant wsX1_in := goodIn_r _ [4] (by decide +kernel) (by decide +kernel)
set_option maxRecDepth 20000 in
theorem gX1_isVariant_X1_in : GoodIn wsX1_isVariant (va_wsS RX1 38 yX1_in wsX1_in) := goodIn_app (goodIn_of _ (by decide +kernel)) ggX1_isVariant_X1_in
theorem dX1_isVariant_0 : decode cX1_isVariant 0 = .ok (.iload_n 0, 1) := by decide +kernel
theorem dX1_isVariant_1 : decode cX1_isVariant 1 = .ok (.iconst 0, 1) := by decide +kernel
theorem dX1_isVariant_2 : decode cX1_isVariant 2 = .ok (.iconst 2, 1) := by decide +kernel
theorem dX1_isVariant_3 : decode cX1_isVariant 3 = .ok (.invokestatic 38, 3) := by decide +kernel
theorem dX1_isVariant_6 : decode cX1_isVariant 6 = .ok (.ireturn, 1) := by decide +kernel
set_option maxRecDepth 20000 in
theorem ggX1_makespan_X1_isVariant : GoodIn wsX1_makespan wsX1_isVariant := goodIn_r _ [7, 8, 9, 6, 10] (by decide +kernel) (by decide +kernel)
set_option maxRecDepth 20000 in
theorem gX1_makespan_X1_isVariant : GoodIn wsX1_makespan (va_wsS RX1 108 yX1_isVariant wsX1_isVariant) := goodIn_app (goodIn_of _ (by decide +kernel)) ggX1_makespan_X1_isVariant
set_option maxRecDepth 20000 in
theorem ggX1_makespan_X1_lays : GoodIn wsX1_makespan wsX1_lays := goodIn_r _ [14, 15, 16, 17, 18, 19, 6, 20, 21, 22, 23, 24, 25, 26, 27, 28, 29, 30, 31, 32, 33, 34, 35, 36, 37, 38, 39, 40, 41, 42, 43, 44, 45, 46, 47] (by decide +kernel) (by decide +kernel)
set_option maxRecDepth 20000 in
theorem gX1_makespan_X1_lays : GoodIn wsX1_makespan (wsV RX1 69 RX1 yX1_lays wsX1_lays) := goodIn_app (goodIn_of _ (by decide +kernel)) ggX1_makespan_X1_lays
theorem dX1_makespan_0 : decode cX1_makespan 0 = .ok (.aload_n 0, 1) := by decide +kernel
theorem dX1_makespan_1 : decode cX1_makespan 1 = .ok (.iload_n 1, 1) := by decide +kernel
theorem dX1_makespan_2 : decode cX1_makespan 2 = .ok (.invokestatic 108, 3) := by decide +kernel
theorem dX1_makespan_5 : decode cX1_makespan 5 = .ok (.ifCond .eq 7, 3) := by decide +kernel
theorem dX1_makespan_8 : decode cX1_makespan 8 = .ok (.iconst 0, 1) := by decide +kernel
theorem dX1_makespan_9 : decode cX1_makespan 9 = .ok (.goto 4, 3) := by decide +kernel
theorem dX1_makespan_12 : decode cX1_makespan 12 = .ok (.iconst 1, 1) := by decide +kernel
theorem dX1_makespan_13 : decode cX1_makespan 13 = .ok (.putfield 32, 3) := by decide +kernel
theorem dX1_makespan_16 : decode cX1_makespan 16 = .ok (.aload_n 0, 1) := by decide +kernel
theorem dX1_makespan_17 : decode cX1_makespan 17 = .ok (.getfield 32, 3) := by decide +kernel
theorem dX1_makespan_20 : decode cX1_makespan 20 = .ok (.ifCond .le 7, 3) := by decide +kernel
theorem dX1_makespan_23 : decode cX1_makespan 23 = .ok (.iconst 0, 1) := by decide +kernel
theorem dX1_makespan_24 : decode cX1_makespan 24 = .ok (.goto 16, 3) := by decide +kernel
theorem dX1_makespan_27 : decode cX1_makespan 27 = .ok (.aload_n 0, 1) := by decide +kernel
theorem dX1_makespan_28 : decode cX1_makespan 28 = .ok (.iload_n 1, 1) := by decide +kernel
theorem dX1_makespan_29 : decode cX1_makespan 29 = .ok (.aload_n 0, 1) := by decide +kernel
theorem dX1_makespan_30 : decode cX1_makespan 30 = .ok (.getfield 17, 3) := by decide +kernel
theorem dX1_makespan_33 : decode cX1_makespan 33 = .ok (.aload_n 0, 1) := by decide +kernel
theorem dX1_makespan_34 : decode cX1_makespan 34 = .ok (.getfield 35, 3) := by decide +kernel
theorem dX1_makespan_37 : decode cX1_makespan 37 = .ok (.invokevirtual 69, 3) := by decide +kernel
theorem dX1_makespan_40 : decode cX1_makespan 40 = .ok (.ireturn, 1) := by decide +kernel
set_option maxRecDepth 20000 in
theorem ggX1_begin_X1_isVariant : GoodIn wsX1_begin wsX1_isVariant := goodIn_r _ [7, 8, 9, 6, 10] (by decide +kernel) (by decide +kernel)
set_option maxRecDepth 20000 in
theorem gX1_begin_X1_isVariant : GoodIn wsX1_begin (va_wsS RX1 108 yX1_isVariant wsX1_isVariant) := goodIn_app (goodIn_of _ (by decide +kernel)) ggX1_begin_X1_isVariant
set_option maxRecDepth 20000 in
theorem ggX1_begin_X1_isOf : GoodIn wsX1_begin wsX1_isOf := goodIn_r _ [14, 3, 15, 8, 9, 6, 10, 42, 43, 44, 45, 46, 47, 48, 49, 50, 51] (by decide +kernel) (by decide +kernel)
set_option maxRecDepth 20000 in
theorem gX1_begin_X1_isOf : GoodIn wsX1_begin (wsV RX1 42 RX1 yX1_isOf wsX1_isOf) := goodIn_app (goodIn_of _ (by decide +kernel)) ggX1_begin_X1_isOf
set_option maxRecDepth 20000 in
theorem ggX1_begin_X1_lays : GoodIn wsX1_begin wsX1_lays := goodIn_r _ [19, 15, 20, 21, 22, 23, 6, 24, 25, 26, 27, 28, 29, 30, 31, 32, 33, 34, 35, 36, 37, 38, 39, 40, 41, 42, 43, 44, 45, 46, 47, 48, 49, 50, 51] (by decide +kernel) (by decide +kernel)
set_option maxRecDepth 20000 in
theorem gX1_begin_X1_lays : GoodIn wsX1_begin (wsV RX1 69 RX1 yX1_lays wsX1_lays) := goodIn_app (goodIn_of _ (by decide +kernel)) ggX1_begin_X1_lays
set_option maxRecDepth 20000 in
theorem ggX1_begin_X1_startOf : GoodIn wsX1_begin wsX1_startOf := goodIn_r _ [28, 20, 42, 43, 44, 45, 46, 47, 48, 49, 50, 51] (by decide +kernel) (by decide +kernel)
set_option maxRecDepth 20000 in
theorem gX1_begin_X1_startOf : GoodIn wsX1_begin (wsV RX1 54 RX1 yX1_startOf wsX1_startOf) := goodIn_app (goodIn_of _ (by decide +kernel)) ggX1_begin_X1_startOf
theorem dX1_begin_0 : decode cX1_begin 0 = .ok (.aload_n 0, 1) := by decide +kernel
theorem dX1_begin_1 : decode cX1_begin 1 = .ok (.iload_n 1, 1) := by decide +kernel
theorem dX1_begin_2 : decode cX1_begin 2 = .ok (.invokestatic 108, 3) := by decide +kernel
theorem dX1_begin_5 : decode cX1_begin 5 = .ok (.ifCond .ne 7, 3) := by decide +kernel
theorem dX1_begin_8 : decode cX1_begin 8 = .ok (.iconst 1, 1) := by decide +kernel
theorem dX1_begin_9 : decode cX1_begin 9 = .ok (.goto 17, 3) := by decide +kernel
theorem dX1_begin_12 : decode cX1_begin 12 = .ok (.aload_n 0, 1) := by decide +kernel
theorem dX1_begin_13 : decode cX1_begin 13 = .ok (.iload_n 2, 1) := by decide +kernel
theorem dX1_begin_14 : decode cX1_begin 14 = .ok (.iload_n 3, 1) := by decide +kernel
theorem dX1_begin_15 : decode cX1_begin 15 = .ok (.invokevirtual 42, 3) := by decide +kernel
theorem dX1_begin_18 : decode cX1_begin 18 = .ok (.ifCond .eq 7, 3) := by decide +kernel
theorem dX1_begin_21 : decode cX1_begin 21 = .ok (.iconst 0, 1) := by decide +kernel
theorem dX1_begin_22 : decode cX1_begin 22 = .ok (.goto 4, 3) := by decide +kernel
theorem dX1_begin_25 : decode cX1_begin 25 = .ok (.iconst 2, 1) := by decide +kernel
theorem dX1_begin_26 : decode cX1_begin 26 = .ok (.putfield 32, 3) := by decide +kernel
theorem dX1_begin_29 : decode cX1_begin 29 = .ok (.aload_n 0, 1) := by decide +kernel
theorem dX1_begin_30 : decode cX1_begin 30 = .ok (.getfield 32, 3) := by decide +kernel
theorem dX1_begin_33 : decode cX1_begin 33 = .ok (.ifCond .le 5, 3) := by decide +kernel
theorem dX1_begin_36 : decode cX1_begin 36 = .ok (.iconst 0, 1) := by decide +kernel
theorem dX1_begin_37 : decode cX1_begin 37 = .ok (.ireturn, 1) := by decide +kernel
theorem dX1_begin_38 : decode cX1_begin 38 = .ok (.aload_n 0, 1) := by decide +kernel
theorem dX1_begin_39 : decode cX1_begin 39 = .ok (.iload_n 1, 1) := by decide +kernel
theorem dX1_begin_40 : decode cX1_begin 40 = .ok (.aload_n 0, 1) := by decide +kernel
theorem dX1_begin_41 : decode cX1_begin 41 = .ok (.getfield 17, 3) := by decide +kernel
theorem dX1_begin_44 : decode cX1_begin 44 = .ok (.aload_n 0, 1) := by decide +kernel
theorem dX1_begin_45 : decode cX1_begin 45 = .ok (.getfield 35, 3) := by decide +kernel
theorem dX1_begin_48 : decode cX1_begin 48 = .ok (.invokevirtual 69, 3) := by decide +kernel
theorem dX1_begin_51 : decode cX1_begin 51 = .ok (.pop, 1) := by decide +kernel
theorem dX1_begin_52 : decode cX1_begin 52 = .ok (.aload_n 0, 1) := by decide +kernel
theorem dX1_begin_53 : decode cX1_begin 53 = .ok (.iload_n 2, 1) := by decide +kernel
theorem dX1_begin_54 : decode cX1_begin 54 = .ok (.iload_n 3, 1) := by decide +kernel
theorem dX1_begin_55 : decode cX1_begin 55 = .ok (.invokevirtual 54, 3) := by decide +kernel
theorem dX1_begin_58 : decode cX1_begin 58 = .ok (.ireturn, 1) := by decide +kernel
set_option maxRecDepth 20000 in
theorem ggX1_totalTime_X1_plain : GoodIn wsX1_totalTime wsX1_plain := goodIn_r _ [9, 3, 2, 10, 11, 12, 8, 13, 4, 14, 15, 16, 17, 18, 19, 20, 21, 22, 23, 24, 25, 26, 27, 28, 29, 30, 31, 32, 33, 34, 35, 36, 37, 38, 39, 40, 41, 42, 43, 44, 45] (by decide +kernel) (by decide +kernel)
set_option maxRecDepth 20000 in
theorem gX1_totalTime_X1_plain : GoodIn wsX1_totalTime (wsV RX1 89 RX1 yX1_plain wsX1_plain) := goodIn_app (goodIn_of _ (by decide +kernel)) ggX1_totalTime_X1_plain
set_option maxRecDepth 20000 in
theorem ggX1_totalTime_X1_endOf : GoodIn wsX1_totalTime wsX1_endOf := goodIn_r _ [26, 19, 20, 21, 8, 22, 14, 27, 28, 29, 30, 31, 36, 37, 38, 39, 40, 41, 42, 43, 44, 45] (by decide +kernel) (by decide +kernel)
set_option maxRecDepth 20000 in
theorem gX1_totalTime_X1_endOf : GoodIn wsX1_totalTime (wsV RX1 57 RX1 yX1_endOf wsX1_endOf) := goodIn_app (goodIn_of _ (by decide +kernel)) ggX1_totalTime_X1_endOf
theorem dX1_totalTime_0 : decode cX1_totalTime 0 = .ok (.aload_n 0, 1) := by decide +kernel
theorem dX1_totalTime_1 : decode cX1_totalTime 1 = .ok (.iconst 0, 1) := by decide +kernel
theorem dX1_totalTime_2 : decode cX1_totalTime 2 = .ok (.putfield 32, 3) := by decide +kernel
theorem dX1_totalTime_5 : decode cX1_totalTime 5 = .ok (.aload_n 0, 1) := by decide +kernel
theorem dX1_totalTime_6 : decode cX1_totalTime 6 = .ok (.invokevirtual 89, 3) := by decide +kernel
theorem dX1_totalTime_9 : decode cX1_totalTime 9 = .ok (.pop, 1) := by decide +kernel
theorem dX1_totalTime_10 : decode cX1_totalTime 10 = .ok (.iconst 0, 1) := by decide +kernel
theorem dX1_totalTime_11 : decode cX1_totalTime 11 = .ok (.istore_n 1, 1) := by decide +kernel
theorem dX1_totalTime_12 : decode cX1_totalTime 12 = .ok (.iconst 0, 1) := by decide +kernel
theorem dX1_totalTime_13 : decode cX1_totalTime 13 = .ok (.istore_n 2, 1) := by decide +kernel
theorem dX1_totalTime_14 : decode cX1_totalTime 14 = .ok (.iload_n 2, 1) := by decide +kernel
theorem dX1_totalTime_15 : decode cX1_totalTime 15 = .ok (.aload_n 0, 1) := by decide +kernel
theorem dX1_totalTime_16 : decode cX1_totalTime 16 = .ok (.getfield 35, 3) := by decide +kernel
theorem dX1_totalTime_19 : decode cX1_totalTime 19 = .ok (.if_icmp .ge 27, 3) := by decide +kernel
theorem dX1_totalTime_22 : decode cX1_totalTime 22 = .ok (.iload_n 1, 1) := by decide +kernel
theorem dX1_totalTime_23 : decode cX1_totalTime 23 = .ok (.aload_n 0, 1) := by decide +kernel
theorem dX1_totalTime_24 : decode cX1_totalTime 24 = .ok (.aload_n 0, 1) := by decide +kernel
theorem dX1_totalTime_25 : decode cX1_totalTime 25 = .ok (.getfield 17, 3) := by decide +kernel
theorem dX1_totalTime_28 : decode cX1_totalTime 28 = .ok (.iload_n 2, 1) := by decide +kernel
theorem dX1_totalTime_29 : decode cX1_totalTime 29 = .ok (.aload_n 0, 1) := by decide +kernel
theorem dX1_totalTime_30 : decode cX1_totalTime 30 = .ok (.getfield 7, 3) := by decide +kernel
theorem dX1_totalTime_33 : decode cX1_totalTime 33 = .ok (.iconst 1, 1) := by decide +kernel
theorem dX1_totalTime_34 : decode cX1_totalTime 34 = .ok (.isub, 1) := by decide +kernel
theorem dX1_totalTime_35 : decode cX1_totalTime 35 = .ok (.invokevirtual 57, 3) := by decide +kernel
theorem dX1_totalTime_38 : decode cX1_totalTime 38 = .ok (.iadd, 1) := by decide +kernel
theorem dX1_totalTime_39 : decode cX1_totalTime 39 = .ok (.istore_n 1, 1) := by decide +kernel
theorem dX1_totalTime_40 : decode cX1_totalTime 40 = .ok (.iinc 2 1, 3) := by decide +kernel
theorem dX1_totalTime_43 : decode cX1_totalTime 43 = .ok (.goto (-29), 3) := by decide +kernel
theorem dX1_totalTime_46 : decode cX1_totalTime 46 = .ok (.iload_n 1, 1) := by decide +kernel
theorem dX1_totalTime_47 : decode cX1_totalTime 47 = .ok (.ireturn, 1) := by decide +kernel
set_option maxRecDepth 20000 in
theorem ggX1_laysTails_X1_timeOf : GoodIn wsX1_laysTails wsX1_timeOf := goodIn_r _ [9, 10, 11, 12, 13, 14, 15, 16, 17, 18, 19, 20] (by decide +kernel) (by decide +kernel)
set_option maxRecDepth 20000 in
theorem gX1_laysTails_X1_timeOf : GoodIn wsX1_laysTails (wsV RX1 46 RX1 yX1_timeOf wsX1_timeOf) := goodIn_app (goodIn_of _ (by decide +kernel)) ggX1_laysTails_X1_timeOf
theorem dX1_laysTails_0 : decode cX1_laysTails 0 = .ok (.aload_n 0, 1) := by decide +kernel
theorem dX1_laysTails_1 : decode cX1_laysTails 1 = .ok (.getfield 35, 3) := by decide +kernel
theorem dX1_laysTails_4 : decode cX1_laysTails 4 = .ok (.iconst 1, 1) := by decide +kernel
theorem dX1_laysTails_5 : decode cX1_laysTails 5 = .ok (.isub, 1) := by decide +kernel
theorem dX1_laysTails_6 : decode cX1_laysTails 6 = .ok (.istore_n 1, 1) := by decide +kernel
theorem dX1_laysTails_7 : decode cX1_laysTails 7 = .ok (.iload_n 1, 1) := by decide +kernel
theorem dX1_laysTails_8 : decode cX1_laysTails 8 = .ok (.ifCond .lt 115, 3) := by decide +kernel
theorem dX1_laysTails_11 : decode cX1_laysTails 11 = .ok (.aload_n 0, 1) := by decide +kernel
theorem dX1_laysTails_12 : decode cX1_laysTails 12 = .ok (.getfield 7, 3) := by decide +kernel
theorem dX1_laysTails_15 : decode cX1_laysTails 15 = .ok (.iconst 1, 1) := by decide +kernel
theorem dX1_laysTails_16 : decode cX1_laysTails 16 = .ok (.isub, 1) := by decide +kernel
theorem dX1_laysTails_17 : decode cX1_laysTails 17 = .ok (.istore_n 2, 1) := by decide +kernel
theorem dX1_laysTails_18 : decode cX1_laysTails 18 = .ok (.iload_n 2, 1) := by decide +kernel
theorem dX1_laysTails_19 : decode cX1_laysTails 19 = .ok (.ifCond .lt 98, 3) := by decide +kernel
theorem dX1_laysTails_22 : decode cX1_laysTails 22 = .ok (.iload_n 2, 1) := by decide +kernel
theorem dX1_laysTails_23 : decode cX1_laysTails 23 = .ok (.iconst 1, 1) := by decide +kernel
theorem dX1_laysTails_24 : decode cX1_laysTails 24 = .ok (.iadd, 1) := by decide +kernel
theorem dX1_laysTails_25 : decode cX1_laysTails 25 = .ok (.aload_n 0, 1) := by decide +kernel
theorem dX1_laysTails_26 : decode cX1_laysTails 26 = .ok (.getfield 7, 3) := by decide +kernel
theorem dX1_laysTails_29 : decode cX1_laysTails 29 = .ok (.if_icmp .ge 18, 3) := by decide +kernel
theorem dX1_laysTails_32 : decode cX1_laysTails 32 = .ok (.aload_n 0, 1) := by decide +kernel
theorem dX1_laysTails_33 : decode cX1_laysTails 33 = .ok (.getfield 23, 3) := by decide +kernel
theorem dX1_laysTails_36 : decode cX1_laysTails 36 = .ok (.iconst 5, 1) := by decide +kernel
theorem dX1_laysTails_37 : decode cX1_laysTails 37 = .ok (.iload_n 1, 1) := by decide +kernel
theorem dX1_laysTails_38 : decode cX1_laysTails 38 = .ok (.imul, 1) := by decide +kernel
theorem dX1_laysTails_39 : decode cX1_laysTails 39 = .ok (.iload_n 2, 1) := by decide +kernel
theorem dX1_laysTails_40 : decode cX1_laysTails 40 = .ok (.iadd, 1) := by decide +kernel
theorem dX1_laysTails_41 : decode cX1_laysTails 41 = .ok (.iconst 1, 1) := by decide +kernel
theorem dX1_laysTails_42 : decode cX1_laysTails 42 = .ok (.iadd, 1) := by decide +kernel
theorem dX1_laysTails_43 : decode cX1_laysTails 43 = .ok (.iaload, 1) := by decide +kernel
theorem dX1_laysTails_44 : decode cX1_laysTails 44 = .ok (.goto 4, 3) := by decide +kernel
theorem dX1_laysTails_47 : decode cX1_laysTails 47 = .ok (.iconst 0, 1) := by decide +kernel
theorem dX1_laysTails_48 : decode cX1_laysTails 48 = .ok (.istore_n 3, 1) := by decide +kernel
theorem dX1_laysTails_49 : decode cX1_laysTails 49 = .ok (.iload_n 1, 1) := by decide +kernel
theorem dX1_laysTails_50 : decode cX1_laysTails 50 = .ok (.iconst 1, 1) := by decide +kernel
theorem dX1_laysTails_51 : decode cX1_laysTails 51 = .ok (.iadd, 1) := by decide +kernel
theorem dX1_laysTails_52 : decode cX1_laysTails 52 = .ok (.aload_n 0, 1) := by decide +kernel
theorem dX1_laysTails_53 : decode cX1_laysTails 53 = .ok (.getfield 35, 3) := by decide +kernel
theorem dX1_laysTails_56 : decode cX1_laysTails 56 = .ok (.if_icmp .ge 18, 3) := by decide +kernel
theorem dX1_laysTails_59 : decode cX1_laysTails 59 = .ok (.aload_n 0, 1) := by decide +kernel
theorem dX1_laysTails_60 : decode cX1_laysTails 60 = .ok (.getfield 23, 3) := by decide +kernel
theorem dX1_laysTails_63 : decode cX1_laysTails 63 = .ok (.iconst 5, 1) := by decide +kernel
theorem dX1_laysTails_64 : decode cX1_laysTails 64 = .ok (.iload_n 1, 1) := by decide +kernel
theorem dX1_laysTails_65 : decode cX1_laysTails 65 = .ok (.iconst 1, 1) := by decide +kernel
theorem dX1_laysTails_66 : decode cX1_laysTails 66 = .ok (.iadd, 1) := by decide +kernel
theorem dX1_laysTails_67 : decode cX1_laysTails 67 = .ok (.imul, 1) := by decide +kernel
theorem dX1_laysTails_68 : decode cX1_laysTails 68 = .ok (.iload_n 2, 1) := by decide +kernel
theorem dX1_laysTails_69 : decode cX1_laysTails 69 = .ok (.iadd, 1) := by decide +kernel
theorem dX1_laysTails_70 : decode cX1_laysTails 70 = .ok (.iaload, 1) := by decide +kernel
theorem dX1_laysTails_71 : decode cX1_laysTails 71 = .ok (.goto 4, 3) := by decide +kernel
theorem dX1_laysTails_74 : decode cX1_laysTails 74 = .ok (.iconst 0, 1) := by decide +kernel
theorem dX1_laysTails_75 : decode cX1_laysTails 75 = .ok (.istore 4, 2) := by decide +kernel
theorem dX1_laysTails_77 : decode cX1_laysTails 77 = .ok (.aload_n 0, 1) := by decide +kernel
theorem dX1_laysTails_78 : decode cX1_laysTails 78 = .ok (.getfield 23, 3) := by decide +kernel
theorem dX1_laysTails_81 : decode cX1_laysTails 81 = .ok (.iconst 5, 1) := by decide +kernel
theorem dX1_laysTails_82 : decode cX1_laysTails 82 = .ok (.iload_n 1, 1) := by decide +kernel
theorem dX1_laysTails_83 : decode cX1_laysTails 83 = .ok (.imul, 1) := by decide +kernel
theorem dX1_laysTails_84 : decode cX1_laysTails 84 = .ok (.iload_n 2, 1) := by decide +kernel
theorem dX1_laysTails_85 : decode cX1_laysTails 85 = .ok (.iadd, 1) := by decide +kernel
theorem dX1_laysTails_86 : decode cX1_laysTails 86 = .ok (.aload_n 0, 1) := by decide +kernel
theorem dX1_laysTails_87 : decode cX1_laysTails 87 = .ok (.aload_n 0, 1) := by decide +kernel
theorem dX1_laysTails_88 : decode cX1_laysTails 88 = .ok (.getfield 17, 3) := by decide +kernel
theorem dX1_laysTails_91 : decode cX1_laysTails 91 = .ok (.iload_n 1, 1) := by decide +kernel
theorem dX1_laysTails_92 : decode cX1_laysTails 92 = .ok (.iaload, 1) := by decide +kernel
theorem dX1_laysTails_93 : decode cX1_laysTails 93 = .ok (.iload_n 2, 1) := by decide +kernel
theorem dX1_laysTails_94 : decode cX1_laysTails 94 = .ok (.invokevirtual 46, 3) := by decide +kernel
theorem dX1_laysTails_97 : decode cX1_laysTails 97 = .ok (.iload_n 3, 1) := by decide +kernel
theorem dX1_laysTails_98 : decode cX1_laysTails 98 = .ok (.iload 4, 2) := by decide +kernel
theorem dX1_laysTails_100 : decode cX1_laysTails 100 = .ok (.if_icmp .le 7, 3) := by decide +kernel
theorem dX1_laysTails_103 : decode cX1_laysTails 103 = .ok (.iload_n 3, 1) := by decide +kernel
theorem dX1_laysTails_104 : decode cX1_laysTails 104 = .ok (.goto 5, 3) := by decide +kernel
theorem dX1_laysTails_107 : decode cX1_laysTails 107 = .ok (.iload 4, 2) := by decide +kernel
theorem dX1_laysTails_109 : decode cX1_laysTails 109 = .ok (.iadd, 1) := by decide +kernel
theorem dX1_laysTails_110 : decode cX1_laysTails 110 = .ok (.iastore, 1) := by decide +kernel
theorem dX1_laysTails_111 : decode cX1_laysTails 111 = .ok (.iinc 2 (-1), 3) := by decide +kernel
theorem dX1_laysTails_114 : decode cX1_laysTails 114 = .ok (.goto (-96), 3) := by decide +kernel
theorem dX1_laysTails_117 : decode cX1_laysTails 117 = .ok (.iinc 1 (-1), 3) := by decide +kernel
theorem dX1_laysTails_120 : decode cX1_laysTails 120 = .ok (.goto (-113), 3) := by decide +kernel
theorem dX1_laysTails_123 : decode cX1_laysTails 123 = .ok (.return_, 1) := by decide +kernel
set_option maxRecDepth 20000 in
theorem ggX1_head_X1_isOf : GoodIn wsX1_head wsX1_isOf := goodIn_r _ [7, 8, 9, 10, 11, 6, 12, 43, 44, 45, 46, 47, 48, 49, 50, 51, 52] (by decide +kernel) (by decide +kernel)
set_option maxRecDepth 20000 in
theorem gX1_head_X1_isOf : GoodIn wsX1_head (wsV RX1 42 RX1 yX1_isOf wsX1_isOf) := goodIn_app (goodIn_of _ (by decide +kernel)) ggX1_head_X1_isOf
set_option maxRecDepth 20000 in
theorem ggX1_head_X1_plain : GoodIn wsX1_head wsX1_plain := goodIn_r _ [16, 2, 8, 17, 18, 19, 6, 20, 9, 21, 22, 23, 24, 25, 26, 27, 28, 29, 30, 31, 32, 33, 34, 35, 36, 37, 38, 39, 40, 41, 42, 43, 44, 45, 46, 47, 48, 49, 50, 51, 52] (by decide +kernel) (by decide +kernel)
set_option maxRecDepth 20000 in
theorem gX1_head_X1_plain : GoodIn wsX1_head (wsV RX1 89 RX1 yX1_plain wsX1_plain) := goodIn_app (goodIn_of _ (by decide +kernel)) ggX1_head_X1_plain
set_option maxRecDepth 20000 in
theorem ggX1_head_X1_endOf : GoodIn wsX1_head wsX1_endOf := goodIn_r _ [33, 26, 27, 28, 6, 29, 21, 34, 35, 36, 37, 38, 43, 44, 45, 46, 47, 48, 49, 50, 51, 52] (by decide +kernel) (by decide +kernel)
set_option maxRecDepth 20000 in
theorem gX1_head_X1_endOf : GoodIn wsX1_head (wsV RX1 57 RX1 yX1_endOf wsX1_endOf) := goodIn_app (goodIn_of _ (by decide +kernel)) ggX1_head_X1_endOf
theorem dX1_head_0 : decode cX1_head 0 = .ok (.aload_n 0, 1) := by decide +kernel
theorem dX1_head_1 : decode cX1_head 1 = .ok (.aload_n 0, 1) := by decide +kernel
theorem dX1_head_2 : decode cX1_head 2 = .ok (.iload_n 1, 1) := by decide +kernel
theorem dX1_head_3 : decode cX1_head 3 = .ok (.iload_n 2, 1) := by decide +kernel
theorem dX1_head_4 : decode cX1_head 4 = .ok (.invokevirtual 42, 3) := by decide +kernel
theorem dX1_head_7 : decode cX1_head 7 = .ok (.ifCond .eq 7, 3) := by decide +kernel
theorem dX1_head_10 : decode cX1_head 10 = .ok (.iconst 0, 1) := by decide +kernel
theorem dX1_head_11 : decode cX1_head 11 = .ok (.goto 4, 3) := by decide +kernel
theorem dX1_head_14 : decode cX1_head 14 = .ok (.iconst 1, 1) := by decide +kernel
theorem dX1_head_15 : decode cX1_head 15 = .ok (.putfield 32, 3) := by decide +kernel
theorem dX1_head_18 : decode cX1_head 18 = .ok (.aload_n 0, 1) := by decide +kernel
theorem dX1_head_19 : decode cX1_head 19 = .ok (.getfield 32, 3) := by decide +kernel
theorem dX1_head_22 : decode cX1_head 22 = .ok (.ifCond .le 5, 3) := by decide +kernel
theorem dX1_head_25 : decode cX1_head 25 = .ok (.iconst 0, 1) := by decide +kernel
theorem dX1_head_26 : decode cX1_head 26 = .ok (.ireturn, 1) := by decide +kernel
theorem dX1_head_27 : decode cX1_head 27 = .ok (.aload_n 0, 1) := by decide +kernel
theorem dX1_head_28 : decode cX1_head 28 = .ok (.invokevirtual 89, 3) := by decide +kernel
theorem dX1_head_31 : decode cX1_head 31 = .ok (.pop, 1) := by decide +kernel
theorem dX1_head_32 : decode cX1_head 32 = .ok (.aload_n 0, 1) := by decide +kernel
theorem dX1_head_33 : decode cX1_head 33 = .ok (.aload_n 0, 1) := by decide +kernel
theorem dX1_head_34 : decode cX1_head 34 = .ok (.getfield 17, 3) := by decide +kernel
theorem dX1_head_37 : decode cX1_head 37 = .ok (.iload_n 1, 1) := by decide +kernel
theorem dX1_head_38 : decode cX1_head 38 = .ok (.iload_n 2, 1) := by decide +kernel
theorem dX1_head_39 : decode cX1_head 39 = .ok (.invokevirtual 57, 3) := by decide +kernel
theorem dX1_head_42 : decode cX1_head 42 = .ok (.ireturn, 1) := by decide +kernel
set_option maxRecDepth 20000 in
theorem ggX1_tail_X1_isOf : GoodIn wsX1_tail wsX1_isOf := goodIn_r _ [7, 8, 9, 10, 11, 6, 12, 23, 24, 25, 26, 27, 28, 29, 30, 31, 32] (by decide +kernel) (by decide +kernel)
set_option maxRecDepth 20000 in
theorem gX1_tail_X1_isOf : GoodIn wsX1_tail (wsV RX1 42 RX1 yX1_isOf wsX1_isOf) := goodIn_app (goodIn_of _ (by decide +kernel)) ggX1_tail_X1_isOf
set_option maxRecDepth 20000 in
theorem ggX1_tail_X1_laysTails : GoodIn wsX1_tail wsX1_laysTails := goodIn_r _ [16, 8, 9, 2, 17, 18, 19, 20, 6, 21, 22, 23, 24, 25, 26, 27, 28, 29, 30, 31, 32] (by decide +kernel) (by decide +kernel)
set_option maxRecDepth 20000 in
theorem gX1_tail_X1_laysTails : GoodIn wsX1_tail (wsV RX1 112 RX1 yX1_laysTails wsX1_laysTails) := goodIn_app (goodIn_of _ (by decide +kernel)) ggX1_tail_X1_laysTails
theorem dX1_tail_0 : decode cX1_tail 0 = .ok (.aload_n 0, 1) := by decide +kernel
theorem dX1_tail_1 : decode cX1_tail 1 = .ok (.aload_n 0, 1) := by decide +kernel
theorem dX1_tail_2 : decode cX1_tail 2 = .ok (.iload_n 1, 1) := by decide +kernel
theorem dX1_tail_3 : decode cX1_tail 3 = .ok (.iload_n 2, 1) := by decide +kernel
theorem dX1_tail_4 : decode cX1_tail 4 = .ok (.invokevirtual 42, 3) := by decide +kernel
theorem dX1_tail_7 : decode cX1_tail 7 = .ok (.ifCond .eq 7, 3) := by decide +kernel
theorem dX1_tail_10 : decode cX1_tail 10 = .ok (.iconst 0, 1) := by decide +kernel
theorem dX1_tail_11 : decode cX1_tail 11 = .ok (.goto 4, 3) := by decide +kernel
theorem dX1_tail_14 : decode cX1_tail 14 = .ok (.iconst 1, 1) := by decide +kernel
theorem dX1_tail_15 : decode cX1_tail 15 = .ok (.putfield 32, 3) := by decide +kernel
theorem dX1_tail_18 : decode cX1_tail 18 = .ok (.aload_n 0, 1) := by decide +kernel
theorem dX1_tail_19 : decode cX1_tail 19 = .ok (.invokevirtual 112, 3) := by decide +kernel
theorem dX1_tail_22 : decode cX1_tail 22 = .ok (.aload_n 0, 1) := by decide +kernel
theorem dX1_tail_23 : decode cX1_tail 23 = .ok (.getfield 32, 3) := by decide +kernel
theorem dX1_tail_26 : decode cX1_tail 26 = .ok (.ifCond .le 7, 3) := by decide +kernel
theorem dX1_tail_29 : decode cX1_tail 29 = .ok (.iconst 0, 1) := by decide +kernel
theorem dX1_tail_30 : decode cX1_tail 30 = .ok (.goto 13, 3) := by decide +kernel
theorem dX1_tail_33 : decode cX1_tail 33 = .ok (.aload_n 0, 1) := by decide +kernel
theorem dX1_tail_34 : decode cX1_tail 34 = .ok (.getfield 23, 3) := by decide +kernel
theorem dX1_tail_37 : decode cX1_tail 37 = .ok (.iconst 5, 1) := by decide +kernel
theorem dX1_tail_38 : decode cX1_tail 38 = .ok (.iload_n 1, 1) := by decide +kernel
theorem dX1_tail_39 : decode cX1_tail 39 = .ok (.imul, 1) := by decide +kernel
theorem dX1_tail_40 : decode cX1_tail 40 = .ok (.iload_n 2, 1) := by decide +kernel
theorem dX1_tail_41 : decode cX1_tail 41 = .ok (.iadd, 1) := by decide +kernel
theorem dX1_tail_42 : decode cX1_tail 42 = .ok (.iaload, 1) := by decide +kernel
theorem dX1_tail_43 : decode cX1_tail 43 = .ok (.ireturn, 1) := by decide +kernel
set_option maxRecDepth 20000 in
theorem ggX1_isCritical_X1_isOf : GoodIn wsX1_isCritical wsX1_isOf := goodIn_r _ [7, 8, 9, 10, 11, 6, 12, 48, 49, 50, 51, 52, 53, 54, 55, 56, 57] (by decide +kernel) (by decide +kernel)
set_option maxRecDepth 20000 in
theorem gX1_isCritical_X1_isOf : GoodIn wsX1_isCritical (wsV RX1 42 RX1 yX1_isOf wsX1_isOf) := goodIn_app (goodIn_of _ (by decide +kernel)) ggX1_isCritical_X1_isOf
set_option maxRecDepth 20000 in
theorem ggX1_isCritical_X1_plain : GoodIn wsX1_isCritical wsX1_plain := goodIn_r _ [16, 17, 8, 18, 19, 20, 6, 21, 9, 22, 23, 24, 25, 26, 27, 28, 29, 30, 31, 32, 33, 34, 35, 36, 37, 38, 39, 40, 41, 42, 43, 48, 49, 50, 51, 52, 53, 54, 55, 56, 57] (by decide +kernel) (by decide +kernel)
set_option maxRecDepth 20000 in
theorem gX1_isCritical_X1_plain : GoodIn wsX1_isCritical (wsV RX1 89 RX1 yX1_plain wsX1_plain) := goodIn_app (goodIn_of _ (by decide +kernel)) ggX1_isCritical_X1_plain
set_option maxRecDepth 20000 in
theorem ggX1_isCritical_X1_laysTails : GoodIn wsX1_isCritical wsX1_laysTails := goodIn_r _ [47, 8, 9, 2, 17, 35, 36, 37, 6, 38, 39, 48, 49, 50, 51, 52, 53, 54, 55, 56, 57] (by decide +kernel) (by decide +kernel)
set_option maxRecDepth 20000 in
theorem gX1_isCritical_X1_laysTails : GoodIn wsX1_isCritical (wsV RX1 112 RX1 yX1_laysTails wsX1_laysTails) := goodIn_app (goodIn_of _ (by decide +kernel)) ggX1_isCritical_X1_laysTails
set_option maxRecDepth 20000 in
theorem ggX1_isCritical_X1_startOf : GoodIn wsX1_isCritical wsX1_startOf := goodIn_r _ [30, 22, 48, 49, 50, 51, 52, 53, 54, 55, 56, 57] (by decide +kernel) (by decide +kernel)
set_option maxRecDepth 20000 in
theorem gX1_isCritical_X1_startOf : GoodIn wsX1_isCritical (wsV RX1 54 RX1 yX1_startOf wsX1_startOf) := goodIn_app (goodIn_of _ (by decide +kernel)) ggX1_isCritical_X1_startOf
theorem dX1_isCritical_0 : decode cX1_isCritical 0 = .ok (.aload_n 0, 1) := by decide +kernel
theorem dX1_isCritical_1 : decode cX1_isCritical 1 = .ok (.aload_n 0, 1) := by decide +kernel
theorem dX1_isCritical_2 : decode cX1_isCritical 2 = .ok (.iload_n 1, 1) := by decide +kernel
theorem dX1_isCritical_3 : decode cX1_isCritical 3 = .ok (.iload_n 2, 1) := by decide +kernel
theorem dX1_isCritical_4 : decode cX1_isCritical 4 = .ok (.invokevirtual 42, 3) := by decide +kernel
theorem dX1_isCritical_7 : decode cX1_isCritical 7 = .ok (.ifCond .eq 7, 3) := by decide +kernel
theorem dX1_isCritical_10 : decode cX1_isCritical 10 = .ok (.iconst 0, 1) := by decide +kernel
theorem dX1_isCritical_11 : decode cX1_isCritical 11 = .ok (.goto 4, 3) := by decide +kernel
theorem dX1_isCritical_14 : decode cX1_isCritical 14 = .ok (.iconst 1, 1) := by decide +kernel
theorem dX1_isCritical_15 : decode cX1_isCritical 15 = .ok (.putfield 32, 3) := by decide +kernel
theorem dX1_isCritical_18 : decode cX1_isCritical 18 = .ok (.aload_n 0, 1) := by decide +kernel
theorem dX1_isCritical_19 : decode cX1_isCritical 19 = .ok (.getfield 32, 3) := by decide +kernel
theorem dX1_isCritical_22 : decode cX1_isCritical 22 = .ok (.ifCond .le 5, 3) := by decide +kernel
theorem dX1_isCritical_25 : decode cX1_isCritical 25 = .ok (.iconst 0, 1) := by decide +kernel
theorem dX1_isCritical_26 : decode cX1_isCritical 26 = .ok (.ireturn, 1) := by decide +kernel
theorem dX1_isCritical_27 : decode cX1_isCritical 27 = .ok (.aload_n 0, 1) := by decide +kernel
theorem dX1_isCritical_28 : decode cX1_isCritical 28 = .ok (.invokevirtual 89, 3) := by decide +kernel
theorem dX1_isCritical_31 : decode cX1_isCritical 31 = .ok (.istore_n 3, 1) := by decide +kernel
theorem dX1_isCritical_32 : decode cX1_isCritical 32 = .ok (.aload_n 0, 1) := by decide +kernel
theorem dX1_isCritical_33 : decode cX1_isCritical 33 = .ok (.invokevirtual 112, 3) := by decide +kernel
theorem dX1_isCritical_36 : decode cX1_isCritical 36 = .ok (.aload_n 0, 1) := by decide +kernel
theorem dX1_isCritical_37 : decode cX1_isCritical 37 = .ok (.iload_n 1, 1) := by decide +kernel
theorem dX1_isCritical_38 : decode cX1_isCritical 38 = .ok (.iload_n 2, 1) := by decide +kernel
theorem dX1_isCritical_39 : decode cX1_isCritical 39 = .ok (.invokevirtual 54, 3) := by decide +kernel
theorem dX1_isCritical_42 : decode cX1_isCritical 42 = .ok (.aload_n 0, 1) := by decide +kernel
theorem dX1_isCritical_43 : decode cX1_isCritical 43 = .ok (.getfield 23, 3) := by decide +kernel
theorem dX1_isCritical_46 : decode cX1_isCritical 46 = .ok (.iconst 5, 1) := by decide +kernel
theorem dX1_isCritical_47 : decode cX1_isCritical 47 = .ok (.iload_n 1, 1) := by decide +kernel
theorem dX1_isCritical_48 : decode cX1_isCritical 48 = .ok (.imul, 1) := by decide +kernel
theorem dX1_isCritical_49 : decode cX1_isCritical 49 = .ok (.iload_n 2, 1) := by decide +kernel
theorem dX1_isCritical_50 : decode cX1_isCritical 50 = .ok (.iadd, 1) := by decide +kernel
theorem dX1_isCritical_51 : decode cX1_isCritical 51 = .ok (.iaload, 1) := by decide +kernel
theorem dX1_isCritical_52 : decode cX1_isCritical 52 = .ok (.iadd, 1) := by decide +kernel
theorem dX1_isCritical_53 : decode cX1_isCritical 53 = .ok (.iload_n 3, 1) := by decide +kernel
theorem dX1_isCritical_54 : decode cX1_isCritical 54 = .ok (.if_icmp .ne 7, 3) := by decide +kernel
theorem dX1_isCritical_57 : decode cX1_isCritical 57 = .ok (.iconst 1, 1) := by decide +kernel
theorem dX1_isCritical_58 : decode cX1_isCritical 58 = .ok (.goto 4, 3) := by decide +kernel
theorem dX1_isCritical_61 : decode cX1_isCritical 61 = .ok (.iconst 0, 1) := by decide +kernel
theorem dX1_isCritical_62 : decode cX1_isCritical 62 = .ok (.ireturn, 1) := by decide +kernel
set_option maxRecDepth 20000 in
theorem ggX1_idle_X1_isVariant : GoodIn wsX1_idle wsX1_isVariant := goodIn_r _ [8, 9, 10, 7, 11] (by decide +kernel) (by decide +kernel)
set_option maxRecDepth 20000 in
theorem gX1_idle_X1_isVariant : GoodIn wsX1_idle (va_wsS RX1 108 yX1_isVariant wsX1_isVariant) := goodIn_app (goodIn_of _ (by decide +kernel)) ggX1_idle_X1_isVariant
set_option maxRecDepth 20000 in
theorem ggX1_idle_X1_in : GoodIn wsX1_idle wsX1_in := goodIn_r _ [11] (by decide +kernel) (by decide +kernel)
set_option maxRecDepth 20000 in
theorem gX1_idle_X1_in : GoodIn wsX1_idle (va_wsS RX1 38 yX1_in wsX1_in) := goodIn_app (goodIn_of _ (by decide +kernel)) ggX1_idle_X1_in
set_option maxRecDepth 20000 in
theorem ggX1_idle_X1_lays : GoodIn wsX1_idle wsX1_lays := goodIn_r _ [15, 1, 16, 17, 18, 19, 7, 20, 21, 22, 23, 24, 25, 26, 27, 28, 29, 30, 31, 32, 33, 34, 35, 36, 37, 38, 39, 40, 41, 42, 43, 44, 45, 46, 47] (by decide +kernel) (by decide +kernel)
set_option maxRecDepth 20000 in
theorem gX1_idle_X1_lays : GoodIn wsX1_idle (wsV RX1 69 RX1 yX1_lays wsX1_lays) := goodIn_app (goodIn_of _ (by decide +kernel)) ggX1_idle_X1_lays
set_option maxRecDepth 20000 in
theorem ggX1_idle_X1_endOf : GoodIn wsX1_idle wsX1_endOf := goodIn_r _ [28, 21, 22, 23, 7, 24, 16, 29, 30, 31, 32, 33, 38, 39, 40, 41, 42, 43, 44, 45, 46, 47] (by decide +kernel) (by decide +kernel)
set_option maxRecDepth 20000 in
theorem gX1_idle_X1_endOf : GoodIn wsX1_idle (wsV RX1 57 RX1 yX1_endOf wsX1_endOf) := goodIn_app (goodIn_of _ (by decide +kernel)) ggX1_idle_X1_endOf
set_option maxRecDepth 20000 in
theorem ggX1_idle_X1_startOf : GoodIn wsX1_idle wsX1_startOf := goodIn_r _ [24, 16, 38, 39, 40, 41, 42, 43, 44, 45, 46, 47] (by decide +kernel) (by decide +kernel)
set_option maxRecDepth 20000 in
theorem gX1_idle_X1_startOf : GoodIn wsX1_idle (wsV RX1 54 RX1 yX1_startOf wsX1_startOf) := goodIn_app (goodIn_of _ (by decide +kernel)) ggX1_idle_X1_startOf
set_option maxRecDepth 20000 in
theorem ggX1_idle_X1_timeOf : GoodIn wsX1_idle wsX1_timeOf := goodIn_r _ [32, 33, 38, 39, 40, 41, 42, 43, 44, 45, 46, 47] (by decide +kernel) (by decide +kernel)
set_option maxRecDepth 20000 in
theorem gX1_idle_X1_timeOf : GoodIn wsX1_idle (wsV RX1 46 RX1 yX1_timeOf wsX1_timeOf) := goodIn_app (goodIn_of _ (by decide +kernel)) ggX1_idle_X1_timeOf
theorem dX1_idle_0 : decode cX1_idle 0 = .ok (.aload_n 0, 1) := by decide +kernel
theorem dX1_idle_1 : decode cX1_idle 1 = .ok (.iload_n 1, 1) := by decide +kernel
theorem dX1_idle_2 : decode cX1_idle 2 = .ok (.invokestatic 108, 3) := by decide +kernel
theorem dX1_idle_5 : decode cX1_idle 5 = .ok (.ifCond .ne 7, 3) := by decide +kernel
theorem dX1_idle_8 : decode cX1_idle 8 = .ok (.iconst 1, 1) := by decide +kernel
theorem dX1_idle_9 : decode cX1_idle 9 = .ok (.goto 22, 3) := by decide +kernel
theorem dX1_idle_12 : decode cX1_idle 12 = .ok (.iload_n 2, 1) := by decide +kernel
theorem dX1_idle_13 : decode cX1_idle 13 = .ok (.iconst 0, 1) := by decide +kernel
theorem dX1_idle_14 : decode cX1_idle 14 = .ok (.aload_n 0, 1) := by decide +kernel
theorem dX1_idle_15 : decode cX1_idle 15 = .ok (.getfield 7, 3) := by decide +kernel
theorem dX1_idle_18 : decode cX1_idle 18 = .ok (.iconst 1, 1) := by decide +kernel
theorem dX1_idle_19 : decode cX1_idle 19 = .ok (.isub, 1) := by decide +kernel
theorem dX1_idle_20 : decode cX1_idle 20 = .ok (.invokestatic 38, 3) := by decide +kernel
theorem dX1_idle_23 : decode cX1_idle 23 = .ok (.ifCond .eq 7, 3) := by decide +kernel
theorem dX1_idle_26 : decode cX1_idle 26 = .ok (.iconst 0, 1) := by decide +kernel
theorem dX1_idle_27 : decode cX1_idle 27 = .ok (.goto 4, 3) := by decide +kernel
theorem dX1_idle_30 : decode cX1_idle 30 = .ok (.iconst 2, 1) := by decide +kernel
theorem dX1_idle_31 : decode cX1_idle 31 = .ok (.putfield 32, 3) := by decide +kernel
theorem dX1_idle_34 : decode cX1_idle 34 = .ok (.aload_n 0, 1) := by decide +kernel
theorem dX1_idle_35 : decode cX1_idle 35 = .ok (.getfield 32, 3) := by decide +kernel
theorem dX1_idle_38 : decode cX1_idle 38 = .ok (.ifCond .gt 10, 3) := by decide +kernel
theorem dX1_idle_41 : decode cX1_idle 41 = .ok (.aload_n 0, 1) := by decide +kernel
theorem dX1_idle_42 : decode cX1_idle 42 = .ok (.getfield 35, 3) := by decide +kernel
theorem dX1_idle_45 : decode cX1_idle 45 = .ok (.ifCond .ne 5, 3) := by decide +kernel
theorem dX1_idle_48 : decode cX1_idle 48 = .ok (.iconst 0, 1) := by decide +kernel
theorem dX1_idle_49 : decode cX1_idle 49 = .ok (.ireturn, 1) := by decide +kernel
theorem dX1_idle_50 : decode cX1_idle 50 = .ok (.aload_n 0, 1) := by decide +kernel
theorem dX1_idle_51 : decode cX1_idle 51 = .ok (.iload_n 1, 1) := by decide +kernel
theorem dX1_idle_52 : decode cX1_idle 52 = .ok (.aload_n 0, 1) := by decide +kernel
theorem dX1_idle_53 : decode cX1_idle 53 = .ok (.getfield 17, 3) := by decide +kernel
theorem dX1_idle_56 : decode cX1_idle 56 = .ok (.aload_n 0, 1) := by decide +kernel
theorem dX1_idle_57 : decode cX1_idle 57 = .ok (.getfield 35, 3) := by decide +kernel
theorem dX1_idle_60 : decode cX1_idle 60 = .ok (.invokevirtual 69, 3) := by decide +kernel
theorem dX1_idle_63 : decode cX1_idle 63 = .ok (.pop, 1) := by decide +kernel
theorem dX1_idle_64 : decode cX1_idle 64 = .ok (.aload_n 0, 1) := by decide +kernel
theorem dX1_idle_65 : decode cX1_idle 65 = .ok (.aload_n 0, 1) := by decide +kernel
theorem dX1_idle_66 : decode cX1_idle 66 = .ok (.getfield 17, 3) := by decide +kernel
theorem dX1_idle_69 : decode cX1_idle 69 = .ok (.aload_n 0, 1) := by decide +kernel
theorem dX1_idle_70 : decode cX1_idle 70 = .ok (.getfield 35, 3) := by decide +kernel
theorem dX1_idle_73 : decode cX1_idle 73 = .ok (.iconst 1, 1) := by decide +kernel
theorem dX1_idle_74 : decode cX1_idle 74 = .ok (.isub, 1) := by decide +kernel
theorem dX1_idle_75 : decode cX1_idle 75 = .ok (.iload_n 2, 1) := by decide +kernel
theorem dX1_idle_76 : decode cX1_idle 76 = .ok (.invokevirtual 57, 3) := by decide +kernel
theorem dX1_idle_79 : decode cX1_idle 79 = .ok (.aload_n 0, 1) := by decide +kernel
theorem dX1_idle_80 : decode cX1_idle 80 = .ok (.iconst 0, 1) := by decide +kernel
theorem dX1_idle_81 : decode cX1_idle 81 = .ok (.iload_n 2, 1) := by decide +kernel
theorem dX1_idle_82 : decode cX1_idle 82 = .ok (.invokevirtual 54, 3) := by decide +kernel
theorem dX1_idle_85 : decode cX1_idle 85 = .ok (.isub, 1) := by decide +kernel
theorem dX1_idle_86 : decode cX1_idle 86 = .ok (.istore_n 3, 1) := by decide +kernel
theorem dX1_idle_87 : decode cX1_idle 87 = .ok (.iconst 0, 1) := by decide +kernel
theorem dX1_idle_88 : decode cX1_idle 88 = .ok (.istore 4, 2) := by decide +kernel
theorem dX1_idle_90 : decode cX1_idle 90 = .ok (.iload 4, 2) := by decide +kernel
theorem dX1_idle_92 : decode cX1_idle 92 = .ok (.aload_n 0, 1) := by decide +kernel
theorem dX1_idle_93 : decode cX1_idle 93 = .ok (.getfield 35, 3) := by decide +kernel
theorem dX1_idle_96 : decode cX1_idle 96 = .ok (.if_icmp .ge 19, 3) := by decide +kernel
theorem dX1_idle_99 : decode cX1_idle 99 = .ok (.iload_n 3, 1) := by decide +kernel
theorem dX1_idle_100 : decode cX1_idle 100 = .ok (.aload_n 0, 1) := by decide +kernel
theorem dX1_idle_101 : decode cX1_idle 101 = .ok (.iload 4, 2) := by decide +kernel
theorem dX1_idle_103 : decode cX1_idle 103 = .ok (.iload_n 2, 1) := by decide +kernel
theorem dX1_idle_104 : decode cX1_idle 104 = .ok (.invokevirtual 46, 3) := by decide +kernel
theorem dX1_idle_107 : decode cX1_idle 107 = .ok (.isub, 1) := by decide +kernel
theorem dX1_idle_108 : decode cX1_idle 108 = .ok (.istore_n 3, 1) := by decide +kernel
theorem dX1_idle_109 : decode cX1_idle 109 = .ok (.iinc 4 1, 3) := by decide +kernel
theorem dX1_idle_112 : decode cX1_idle 112 = .ok (.goto (-22), 3) := by decide +kernel
theorem dX1_idle_115 : decode cX1_idle 115 = .ok (.iload_n 3, 1) := by decide +kernel
theorem dX1_idle_116 : decode cX1_idle 116 = .ok (.ireturn, 1) := by decide +kernel
set_option maxRecDepth 20000 in
theorem ggX1_leastSum_X1_sumOf : GoodIn wsX1_leastSum wsX1_sumOf := goodIn_r _ [7, 8, 9, 10, 6, 11, 12, 13, 14, 15, 16, 17, 18, 19, 20, 21, 22] (by decide +kernel) (by decide +kernel)
set_option maxRecDepth 20000 in
theorem gX1_leastSum_X1_sumOf : GoodIn wsX1_leastSum (wsV RX1 93 RX1 yX1_sumOf wsX1_sumOf) := goodIn_app (goodIn_of _ (by decide +kernel)) ggX1_leastSum_X1_sumOf
theorem dX1_leastSum_0 : decode cX1_leastSum 0 = .ok (.ldc 100, 2) := by decide +kernel
theorem dX1_leastSum_2 : decode cX1_leastSum 2 = .ok (.istore_n 3, 1) := by decide +kernel
theorem dX1_leastSum_3 : decode cX1_leastSum 3 = .ok (.iconst 0, 1) := by decide +kernel
theorem dX1_leastSum_4 : decode cX1_leastSum 4 = .ok (.istore 4, 2) := by decide +kernel
theorem dX1_leastSum_6 : decode cX1_leastSum 6 = .ok (.iload 4, 2) := by decide +kernel
theorem dX1_leastSum_8 : decode cX1_leastSum 8 = .ok (.aload_n 0, 1) := by decide +kernel
theorem dX1_leastSum_9 : decode cX1_leastSum 9 = .ok (.getfield 35, 3) := by decide +kernel
theorem dX1_leastSum_12 : decode cX1_leastSum 12 = .ok (.if_icmp .ge 34, 3) := by decide +kernel
theorem dX1_leastSum_15 : decode cX1_leastSum 15 = .ok (.aload_n 0, 1) := by decide +kernel
theorem dX1_leastSum_16 : decode cX1_leastSum 16 = .ok (.iload 4, 2) := by decide +kernel
theorem dX1_leastSum_18 : decode cX1_leastSum 18 = .ok (.iload_n 1, 1) := by decide +kernel
theorem dX1_leastSum_19 : decode cX1_leastSum 19 = .ok (.iload_n 2, 1) := by decide +kernel
theorem dX1_leastSum_20 : decode cX1_leastSum 20 = .ok (.invokevirtual 93, 3) := by decide +kernel
theorem dX1_leastSum_23 : decode cX1_leastSum 23 = .ok (.iload_n 3, 1) := by decide +kernel
theorem dX1_leastSum_24 : decode cX1_leastSum 24 = .ok (.if_icmp .ge 14, 3) := by decide +kernel
theorem dX1_leastSum_27 : decode cX1_leastSum 27 = .ok (.aload_n 0, 1) := by decide +kernel
theorem dX1_leastSum_28 : decode cX1_leastSum 28 = .ok (.iload 4, 2) := by decide +kernel
theorem dX1_leastSum_30 : decode cX1_leastSum 30 = .ok (.iload_n 1, 1) := by decide +kernel
theorem dX1_leastSum_31 : decode cX1_leastSum 31 = .ok (.iload_n 2, 1) := by decide +kernel
theorem dX1_leastSum_32 : decode cX1_leastSum 32 = .ok (.invokevirtual 93, 3) := by decide +kernel
theorem dX1_leastSum_35 : decode cX1_leastSum 35 = .ok (.goto 4, 3) := by decide +kernel
theorem dX1_leastSum_38 : decode cX1_leastSum 38 = .ok (.iload_n 3, 1) := by decide +kernel
theorem dX1_leastSum_39 : decode cX1_leastSum 39 = .ok (.istore_n 3, 1) := by decide +kernel
theorem dX1_leastSum_40 : decode cX1_leastSum 40 = .ok (.iinc 4 1, 3) := by decide +kernel
theorem dX1_leastSum_43 : decode cX1_leastSum 43 = .ok (.goto (-37), 3) := by decide +kernel
theorem dX1_leastSum_46 : decode cX1_leastSum 46 = .ok (.iload_n 3, 1) := by decide +kernel
theorem dX1_leastSum_47 : decode cX1_leastSum 47 = .ok (.ireturn, 1) := by decide +kernel
set_option maxRecDepth 20000 in
theorem ggX1_machineBound_X1_in : GoodIn wsX1_machineBound wsX1_in := goodIn_r _ [7] (by decide +kernel) (by decide +kernel)
set_option maxRecDepth 20000 in
theorem gX1_machineBound_X1_in : GoodIn wsX1_machineBound (va_wsS RX1 38 yX1_in wsX1_in) := goodIn_app (goodIn_of _ (by decide +kernel)) ggX1_machineBound_X1_in
set_option maxRecDepth 20000 in
theorem ggX1_machineBound_X1_leastSum : GoodIn wsX1_machineBound wsX1_leastSum := goodIn_r _ [11, 12, 3, 13, 14, 15, 6, 16, 17, 18, 19, 20, 21, 22, 23, 24, 25, 26, 27, 28, 29, 30, 31] (by decide +kernel) (by decide +kernel)
set_option maxRecDepth 20000 in
theorem gX1_machineBound_X1_leastSum : GoodIn wsX1_machineBound (wsV RX1 115 RX1 yX1_leastSum wsX1_leastSum) := goodIn_app (goodIn_of _ (by decide +kernel)) ggX1_machineBound_X1_leastSum
set_option maxRecDepth 20000 in
theorem ggX1_machineBound_X1_timeOf : GoodIn wsX1_machineBound wsX1_timeOf := goodIn_r _ [20, 21, 22, 23, 24, 25, 26, 27, 28, 29, 30, 31] (by decide +kernel) (by decide +kernel)
set_option maxRecDepth 20000 in
theorem gX1_machineBound_X1_timeOf : GoodIn wsX1_machineBound (wsV RX1 46 RX1 yX1_timeOf wsX1_timeOf) := goodIn_app (goodIn_of _ (by decide +kernel)) ggX1_machineBound_X1_timeOf
theorem dX1_machineBound_0 : decode cX1_machineBound 0 = .ok (.aload_n 0, 1) := by decide +kernel
theorem dX1_machineBound_1 : decode cX1_machineBound 1 = .ok (.iload_n 1, 1) := by decide +kernel
theorem dX1_machineBound_2 : decode cX1_machineBound 2 = .ok (.iconst 0, 1) := by decide +kernel
theorem dX1_machineBound_3 : decode cX1_machineBound 3 = .ok (.aload_n 0, 1) := by decide +kernel
theorem dX1_machineBound_4 : decode cX1_machineBound 4 = .ok (.getfield 7, 3) := by decide +kernel
theorem dX1_machineBound_7 : decode cX1_machineBound 7 = .ok (.iconst 1, 1) := by decide +kernel
theorem dX1_machineBound_8 : decode cX1_machineBound 8 = .ok (.isub, 1) := by decide +kernel
theorem dX1_machineBound_9 : decode cX1_machineBound 9 = .ok (.invokestatic 38, 3) := by decide +kernel
theorem dX1_machineBound_12 : decode cX1_machineBound 12 = .ok (.ifCond .eq 7, 3) := by decide +kernel
theorem dX1_machineBound_15 : decode cX1_machineBound 15 = .ok (.iconst 0, 1) := by decide +kernel
theorem dX1_machineBound_16 : decode cX1_machineBound 16 = .ok (.goto 4, 3) := by decide +kernel
theorem dX1_machineBound_19 : decode cX1_machineBound 19 = .ok (.iconst 1, 1) := by decide +kernel
theorem dX1_machineBound_20 : decode cX1_machineBound 20 = .ok (.putfield 32, 3) := by decide +kernel
theorem dX1_machineBound_23 : decode cX1_machineBound 23 = .ok (.aload_n 0, 1) := by decide +kernel
theorem dX1_machineBound_24 : decode cX1_machineBound 24 = .ok (.getfield 32, 3) := by decide +kernel
theorem dX1_machineBound_27 : decode cX1_machineBound 27 = .ok (.ifCond .gt 10, 3) := by decide +kernel
theorem dX1_machineBound_30 : decode cX1_machineBound 30 = .ok (.aload_n 0, 1) := by decide +kernel
theorem dX1_machineBound_31 : decode cX1_machineBound 31 = .ok (.getfield 35, 3) := by decide +kernel
theorem dX1_machineBound_34 : decode cX1_machineBound 34 = .ok (.ifCond .ne 5, 3) := by decide +kernel
theorem dX1_machineBound_37 : decode cX1_machineBound 37 = .ok (.iconst 0, 1) := by decide +kernel
theorem dX1_machineBound_38 : decode cX1_machineBound 38 = .ok (.ireturn, 1) := by decide +kernel
theorem dX1_machineBound_39 : decode cX1_machineBound 39 = .ok (.aload_n 0, 1) := by decide +kernel
theorem dX1_machineBound_40 : decode cX1_machineBound 40 = .ok (.iconst 0, 1) := by decide +kernel
theorem dX1_machineBound_41 : decode cX1_machineBound 41 = .ok (.iload_n 1, 1) := by decide +kernel
theorem dX1_machineBound_42 : decode cX1_machineBound 42 = .ok (.invokevirtual 115, 3) := by decide +kernel
theorem dX1_machineBound_45 : decode cX1_machineBound 45 = .ok (.aload_n 0, 1) := by decide +kernel
theorem dX1_machineBound_46 : decode cX1_machineBound 46 = .ok (.iload_n 1, 1) := by decide +kernel
theorem dX1_machineBound_47 : decode cX1_machineBound 47 = .ok (.iconst 1, 1) := by decide +kernel
theorem dX1_machineBound_48 : decode cX1_machineBound 48 = .ok (.iadd, 1) := by decide +kernel
theorem dX1_machineBound_49 : decode cX1_machineBound 49 = .ok (.aload_n 0, 1) := by decide +kernel
theorem dX1_machineBound_50 : decode cX1_machineBound 50 = .ok (.getfield 7, 3) := by decide +kernel
theorem dX1_machineBound_53 : decode cX1_machineBound 53 = .ok (.invokevirtual 115, 3) := by decide +kernel
theorem dX1_machineBound_56 : decode cX1_machineBound 56 = .ok (.iadd, 1) := by decide +kernel
theorem dX1_machineBound_57 : decode cX1_machineBound 57 = .ok (.istore_n 2, 1) := by decide +kernel
theorem dX1_machineBound_58 : decode cX1_machineBound 58 = .ok (.iconst 0, 1) := by decide +kernel
theorem dX1_machineBound_59 : decode cX1_machineBound 59 = .ok (.istore_n 3, 1) := by decide +kernel
theorem dX1_machineBound_60 : decode cX1_machineBound 60 = .ok (.iload_n 3, 1) := by decide +kernel
theorem dX1_machineBound_61 : decode cX1_machineBound 61 = .ok (.aload_n 0, 1) := by decide +kernel
theorem dX1_machineBound_62 : decode cX1_machineBound 62 = .ok (.getfield 35, 3) := by decide +kernel
theorem dX1_machineBound_65 : decode cX1_machineBound 65 = .ok (.if_icmp .ge 18, 3) := by decide +kernel
theorem dX1_machineBound_68 : decode cX1_machineBound 68 = .ok (.iload_n 2, 1) := by decide +kernel
theorem dX1_machineBound_69 : decode cX1_machineBound 69 = .ok (.aload_n 0, 1) := by decide +kernel
theorem dX1_machineBound_70 : decode cX1_machineBound 70 = .ok (.iload_n 3, 1) := by decide +kernel
theorem dX1_machineBound_71 : decode cX1_machineBound 71 = .ok (.iload_n 1, 1) := by decide +kernel
theorem dX1_machineBound_72 : decode cX1_machineBound 72 = .ok (.invokevirtual 46, 3) := by decide +kernel
theorem dX1_machineBound_75 : decode cX1_machineBound 75 = .ok (.iadd, 1) := by decide +kernel
theorem dX1_machineBound_76 : decode cX1_machineBound 76 = .ok (.istore_n 2, 1) := by decide +kernel
theorem dX1_machineBound_77 : decode cX1_machineBound 77 = .ok (.iinc 3 1, 3) := by decide +kernel
theorem dX1_machineBound_80 : decode cX1_machineBound 80 = .ok (.goto (-20), 3) := by decide +kernel
theorem dX1_machineBound_83 : decode cX1_machineBound 83 = .ok (.iload_n 2, 1) := by decide +kernel
theorem dX1_machineBound_84 : decode cX1_machineBound 84 = .ok (.ireturn, 1) := by decide +kernel
theorem dX1_startsTrial_0 : decode cX1_startsTrial 0 = .ok (.iconst 0, 1) := by decide +kernel
theorem dX1_startsTrial_1 : decode cX1_startsTrial 1 = .ok (.istore_n 1, 1) := by decide +kernel
theorem dX1_startsTrial_2 : decode cX1_startsTrial 2 = .ok (.iload_n 1, 1) := by decide +kernel
theorem dX1_startsTrial_3 : decode cX1_startsTrial 3 = .ok (.aload_n 0, 1) := by decide +kernel
theorem dX1_startsTrial_4 : decode cX1_startsTrial 4 = .ok (.getfield 35, 3) := by decide +kernel
theorem dX1_startsTrial_7 : decode cX1_startsTrial 7 = .ok (.if_icmp .ge 16, 3) := by decide +kernel
theorem dX1_startsTrial_10 : decode cX1_startsTrial 10 = .ok (.aload_n 0, 1) := by decide +kernel
theorem dX1_startsTrial_11 : decode cX1_startsTrial 11 = .ok (.getfield 26, 3) := by decide +kernel
theorem dX1_startsTrial_14 : decode cX1_startsTrial 14 = .ok (.iload_n 1, 1) := by decide +kernel
theorem dX1_startsTrial_15 : decode cX1_startsTrial 15 = .ok (.iload_n 1, 1) := by decide +kernel
theorem dX1_startsTrial_16 : decode cX1_startsTrial 16 = .ok (.iastore, 1) := by decide +kernel
theorem dX1_startsTrial_17 : decode cX1_startsTrial 17 = .ok (.iinc 1 1, 3) := by decide +kernel
theorem dX1_startsTrial_20 : decode cX1_startsTrial 20 = .ok (.goto (-18), 3) := by decide +kernel
theorem dX1_startsTrial_23 : decode cX1_startsTrial 23 = .ok (.return_, 1) := by decide +kernel
set_option maxRecDepth 20000 in
theorem ggX1_goesOn_X1_swaps : GoodIn wsX1_goesOn wsX1_swaps := goodIn_r _ [7, 2, 8, 9, 10, 11, 12, 13, 14, 15, 16, 17] (by decide +kernel) (by decide +kernel)
set_option maxRecDepth 20000 in
theorem gX1_goesOn_X1_swaps : GoodIn wsX1_goesOn (wsV RX1 118 RX1 yX1_swaps wsX1_swaps) := goodIn_app (goodIn_of _ (by decide +kernel)) ggX1_goesOn_X1_swaps
theorem dX1_goesOn_0 : decode cX1_goesOn 0 = .ok (.aload_n 0, 1) := by decide +kernel
theorem dX1_goesOn_1 : decode cX1_goesOn 1 = .ok (.getfield 35, 3) := by decide +kernel
theorem dX1_goesOn_4 : decode cX1_goesOn 4 = .ok (.iconst 2, 1) := by decide +kernel
theorem dX1_goesOn_5 : decode cX1_goesOn 5 = .ok (.isub, 1) := by decide +kernel
theorem dX1_goesOn_6 : decode cX1_goesOn 6 = .ok (.istore_n 1, 1) := by decide +kernel
theorem dX1_goesOn_7 : decode cX1_goesOn 7 = .ok (.iload_n 1, 1) := by decide +kernel
theorem dX1_goesOn_8 : decode cX1_goesOn 8 = .ok (.ifCond .lt 26, 3) := by decide +kernel
theorem dX1_goesOn_11 : decode cX1_goesOn 11 = .ok (.aload_n 0, 1) := by decide +kernel
theorem dX1_goesOn_12 : decode cX1_goesOn 12 = .ok (.getfield 26, 3) := by decide +kernel
theorem dX1_goesOn_15 : decode cX1_goesOn 15 = .ok (.iload_n 1, 1) := by decide +kernel
theorem dX1_goesOn_16 : decode cX1_goesOn 16 = .ok (.iaload, 1) := by decide +kernel
theorem dX1_goesOn_17 : decode cX1_goesOn 17 = .ok (.aload_n 0, 1) := by decide +kernel
theorem dX1_goesOn_18 : decode cX1_goesOn 18 = .ok (.getfield 26, 3) := by decide +kernel
theorem dX1_goesOn_21 : decode cX1_goesOn 21 = .ok (.iload_n 1, 1) := by decide +kernel
theorem dX1_goesOn_22 : decode cX1_goesOn 22 = .ok (.iconst 1, 1) := by decide +kernel
theorem dX1_goesOn_23 : decode cX1_goesOn 23 = .ok (.iadd, 1) := by decide +kernel
theorem dX1_goesOn_24 : decode cX1_goesOn 24 = .ok (.iaload, 1) := by decide +kernel
theorem dX1_goesOn_25 : decode cX1_goesOn 25 = .ok (.if_icmp .le 9, 3) := by decide +kernel
theorem dX1_goesOn_28 : decode cX1_goesOn 28 = .ok (.iinc 1 (-1), 3) := by decide +kernel
theorem dX1_goesOn_31 : decode cX1_goesOn 31 = .ok (.goto (-24), 3) := by decide +kernel
theorem dX1_goesOn_34 : decode cX1_goesOn 34 = .ok (.iload_n 1, 1) := by decide +kernel
theorem dX1_goesOn_35 : decode cX1_goesOn 35 = .ok (.ifCond .ge 5, 3) := by decide +kernel
theorem dX1_goesOn_38 : decode cX1_goesOn 38 = .ok (.iconst 0, 1) := by decide +kernel
theorem dX1_goesOn_39 : decode cX1_goesOn 39 = .ok (.ireturn, 1) := by decide +kernel
theorem dX1_goesOn_40 : decode cX1_goesOn 40 = .ok (.aload_n 0, 1) := by decide +kernel
theorem dX1_goesOn_41 : decode cX1_goesOn 41 = .ok (.getfield 35, 3) := by decide +kernel
theorem dX1_goesOn_44 : decode cX1_goesOn 44 = .ok (.iconst 1, 1) := by decide +kernel
theorem dX1_goesOn_45 : decode cX1_goesOn 45 = .ok (.isub, 1) := by decide +kernel
theorem dX1_goesOn_46 : decode cX1_goesOn 46 = .ok (.istore_n 2, 1) := by decide +kernel
theorem dX1_goesOn_47 : decode cX1_goesOn 47 = .ok (.aload_n 0, 1) := by decide +kernel
theorem dX1_goesOn_48 : decode cX1_goesOn 48 = .ok (.getfield 26, 3) := by decide +kernel
theorem dX1_goesOn_51 : decode cX1_goesOn 51 = .ok (.iload_n 2, 1) := by decide +kernel
theorem dX1_goesOn_52 : decode cX1_goesOn 52 = .ok (.iaload, 1) := by decide +kernel
theorem dX1_goesOn_53 : decode cX1_goesOn 53 = .ok (.aload_n 0, 1) := by decide +kernel
theorem dX1_goesOn_54 : decode cX1_goesOn 54 = .ok (.getfield 26, 3) := by decide +kernel
theorem dX1_goesOn_57 : decode cX1_goesOn 57 = .ok (.iload_n 1, 1) := by decide +kernel
theorem dX1_goesOn_58 : decode cX1_goesOn 58 = .ok (.iaload, 1) := by decide +kernel
theorem dX1_goesOn_59 : decode cX1_goesOn 59 = .ok (.if_icmp .ge 9, 3) := by decide +kernel
theorem dX1_goesOn_62 : decode cX1_goesOn 62 = .ok (.iinc 2 (-1), 3) := by decide +kernel
theorem dX1_goesOn_65 : decode cX1_goesOn 65 = .ok (.goto (-18), 3) := by decide +kernel
theorem dX1_goesOn_68 : decode cX1_goesOn 68 = .ok (.aload_n 0, 1) := by decide +kernel
theorem dX1_goesOn_69 : decode cX1_goesOn 69 = .ok (.iload_n 1, 1) := by decide +kernel
theorem dX1_goesOn_70 : decode cX1_goesOn 70 = .ok (.iload_n 2, 1) := by decide +kernel
theorem dX1_goesOn_71 : decode cX1_goesOn 71 = .ok (.invokevirtual 118, 3) := by decide +kernel
theorem dX1_goesOn_74 : decode cX1_goesOn 74 = .ok (.iload_n 1, 1) := by decide +kernel
theorem dX1_goesOn_75 : decode cX1_goesOn 75 = .ok (.iconst 1, 1) := by decide +kernel
theorem dX1_goesOn_76 : decode cX1_goesOn 76 = .ok (.iadd, 1) := by decide +kernel
theorem dX1_goesOn_77 : decode cX1_goesOn 77 = .ok (.istore_n 3, 1) := by decide +kernel
theorem dX1_goesOn_78 : decode cX1_goesOn 78 = .ok (.aload_n 0, 1) := by decide +kernel
theorem dX1_goesOn_79 : decode cX1_goesOn 79 = .ok (.getfield 35, 3) := by decide +kernel
theorem dX1_goesOn_82 : decode cX1_goesOn 82 = .ok (.iconst 1, 1) := by decide +kernel
theorem dX1_goesOn_83 : decode cX1_goesOn 83 = .ok (.isub, 1) := by decide +kernel
theorem dX1_goesOn_84 : decode cX1_goesOn 84 = .ok (.istore 4, 2) := by decide +kernel
theorem dX1_goesOn_86 : decode cX1_goesOn 86 = .ok (.iload_n 3, 1) := by decide +kernel
theorem dX1_goesOn_87 : decode cX1_goesOn 87 = .ok (.iload 4, 2) := by decide +kernel
theorem dX1_goesOn_89 : decode cX1_goesOn 89 = .ok (.if_icmp .ge 19, 3) := by decide +kernel
theorem dX1_goesOn_92 : decode cX1_goesOn 92 = .ok (.aload_n 0, 1) := by decide +kernel
theorem dX1_goesOn_93 : decode cX1_goesOn 93 = .ok (.iload_n 3, 1) := by decide +kernel
theorem dX1_goesOn_94 : decode cX1_goesOn 94 = .ok (.iload 4, 2) := by decide +kernel
theorem dX1_goesOn_96 : decode cX1_goesOn 96 = .ok (.invokevirtual 118, 3) := by decide +kernel
theorem dX1_goesOn_99 : decode cX1_goesOn 99 = .ok (.iinc 4 (-1), 3) := by decide +kernel
theorem dX1_goesOn_102 : decode cX1_goesOn 102 = .ok (.iinc 3 1, 3) := by decide +kernel
theorem dX1_goesOn_105 : decode cX1_goesOn 105 = .ok (.goto (-19), 3) := by decide +kernel
theorem dX1_goesOn_108 : decode cX1_goesOn 108 = .ok (.iconst 1, 1) := by decide +kernel
theorem dX1_goesOn_109 : decode cX1_goesOn 109 = .ok (.ireturn, 1) := by decide +kernel
theorem dX1_swaps_0 : decode cX1_swaps 0 = .ok (.aload_n 0, 1) := by decide +kernel
theorem dX1_swaps_1 : decode cX1_swaps 1 = .ok (.getfield 26, 3) := by decide +kernel
theorem dX1_swaps_4 : decode cX1_swaps 4 = .ok (.iload_n 1, 1) := by decide +kernel
theorem dX1_swaps_5 : decode cX1_swaps 5 = .ok (.iaload, 1) := by decide +kernel
theorem dX1_swaps_6 : decode cX1_swaps 6 = .ok (.istore_n 3, 1) := by decide +kernel
theorem dX1_swaps_7 : decode cX1_swaps 7 = .ok (.aload_n 0, 1) := by decide +kernel
theorem dX1_swaps_8 : decode cX1_swaps 8 = .ok (.getfield 26, 3) := by decide +kernel
theorem dX1_swaps_11 : decode cX1_swaps 11 = .ok (.iload_n 1, 1) := by decide +kernel
theorem dX1_swaps_12 : decode cX1_swaps 12 = .ok (.aload_n 0, 1) := by decide +kernel
theorem dX1_swaps_13 : decode cX1_swaps 13 = .ok (.getfield 26, 3) := by decide +kernel
theorem dX1_swaps_16 : decode cX1_swaps 16 = .ok (.iload_n 2, 1) := by decide +kernel
theorem dX1_swaps_17 : decode cX1_swaps 17 = .ok (.iaload, 1) := by decide +kernel
theorem dX1_swaps_18 : decode cX1_swaps 18 = .ok (.iastore, 1) := by decide +kernel
theorem dX1_swaps_19 : decode cX1_swaps 19 = .ok (.aload_n 0, 1) := by decide +kernel
theorem dX1_swaps_20 : decode cX1_swaps 20 = .ok (.getfield 26, 3) := by decide +kernel
theorem dX1_swaps_23 : decode cX1_swaps 23 = .ok (.iload_n 2, 1) := by decide +kernel
theorem dX1_swaps_24 : decode cX1_swaps 24 = .ok (.iload_n 3, 1) := by decide +kernel
theorem dX1_swaps_25 : decode cX1_swaps 25 = .ok (.iastore, 1) := by decide +kernel
theorem dX1_swaps_26 : decode cX1_swaps 26 = .ok (.return_, 1) := by decide +kernel
set_option maxRecDepth 20000 in
theorem ggX1_onTwo_X1_timeOf : GoodIn wsX1_onTwo wsX1_timeOf := goodIn_r _ [7, 8, 9, 10, 11, 12, 13, 14, 15, 16, 17, 18] (by decide +kernel) (by decide +kernel)
set_option maxRecDepth 20000 in
theorem gX1_onTwo_X1_timeOf : GoodIn wsX1_onTwo (wsV RX1 46 RX1 yX1_timeOf wsX1_timeOf) := goodIn_app (goodIn_of _ (by decide +kernel)) ggX1_onTwo_X1_timeOf
theorem dX1_onTwo_0 : decode cX1_onTwo 0 = .ok (.iconst 0, 1) := by decide +kernel
theorem dX1_onTwo_1 : decode cX1_onTwo 1 = .ok (.istore_n 3, 1) := by decide +kernel
theorem dX1_onTwo_2 : decode cX1_onTwo 2 = .ok (.iconst 0, 1) := by decide +kernel
theorem dX1_onTwo_3 : decode cX1_onTwo 3 = .ok (.istore 4, 2) := by decide +kernel
theorem dX1_onTwo_5 : decode cX1_onTwo 5 = .ok (.iconst 0, 1) := by decide +kernel
theorem dX1_onTwo_6 : decode cX1_onTwo 6 = .ok (.istore 5, 2) := by decide +kernel
theorem dX1_onTwo_8 : decode cX1_onTwo 8 = .ok (.iload 5, 2) := by decide +kernel
theorem dX1_onTwo_10 : decode cX1_onTwo 10 = .ok (.aload_n 0, 1) := by decide +kernel
theorem dX1_onTwo_11 : decode cX1_onTwo 11 = .ok (.getfield 35, 3) := by decide +kernel
theorem dX1_onTwo_14 : decode cX1_onTwo 14 = .ok (.if_icmp .ge 51, 3) := by decide +kernel
theorem dX1_onTwo_17 : decode cX1_onTwo 17 = .ok (.iload_n 3, 1) := by decide +kernel
theorem dX1_onTwo_18 : decode cX1_onTwo 18 = .ok (.aload_n 0, 1) := by decide +kernel
theorem dX1_onTwo_19 : decode cX1_onTwo 19 = .ok (.aload_n 0, 1) := by decide +kernel
theorem dX1_onTwo_20 : decode cX1_onTwo 20 = .ok (.getfield 26, 3) := by decide +kernel
theorem dX1_onTwo_23 : decode cX1_onTwo 23 = .ok (.iload 5, 2) := by decide +kernel
theorem dX1_onTwo_25 : decode cX1_onTwo 25 = .ok (.iaload, 1) := by decide +kernel
theorem dX1_onTwo_26 : decode cX1_onTwo 26 = .ok (.iload_n 1, 1) := by decide +kernel
theorem dX1_onTwo_27 : decode cX1_onTwo 27 = .ok (.invokevirtual 46, 3) := by decide +kernel
theorem dX1_onTwo_30 : decode cX1_onTwo 30 = .ok (.iadd, 1) := by decide +kernel
theorem dX1_onTwo_31 : decode cX1_onTwo 31 = .ok (.istore_n 3, 1) := by decide +kernel
theorem dX1_onTwo_32 : decode cX1_onTwo 32 = .ok (.iload_n 3, 1) := by decide +kernel
theorem dX1_onTwo_33 : decode cX1_onTwo 33 = .ok (.iload 4, 2) := by decide +kernel
theorem dX1_onTwo_35 : decode cX1_onTwo 35 = .ok (.if_icmp .le 7, 3) := by decide +kernel
theorem dX1_onTwo_38 : decode cX1_onTwo 38 = .ok (.iload_n 3, 1) := by decide +kernel
theorem dX1_onTwo_39 : decode cX1_onTwo 39 = .ok (.goto 5, 3) := by decide +kernel
theorem dX1_onTwo_42 : decode cX1_onTwo 42 = .ok (.iload 4, 2) := by decide +kernel
theorem dX1_onTwo_44 : decode cX1_onTwo 44 = .ok (.aload_n 0, 1) := by decide +kernel
theorem dX1_onTwo_45 : decode cX1_onTwo 45 = .ok (.aload_n 0, 1) := by decide +kernel
theorem dX1_onTwo_46 : decode cX1_onTwo 46 = .ok (.getfield 26, 3) := by decide +kernel
theorem dX1_onTwo_49 : decode cX1_onTwo 49 = .ok (.iload 5, 2) := by decide +kernel
theorem dX1_onTwo_51 : decode cX1_onTwo 51 = .ok (.iaload, 1) := by decide +kernel
theorem dX1_onTwo_52 : decode cX1_onTwo 52 = .ok (.iload_n 2, 1) := by decide +kernel
theorem dX1_onTwo_53 : decode cX1_onTwo 53 = .ok (.invokevirtual 46, 3) := by decide +kernel
theorem dX1_onTwo_56 : decode cX1_onTwo 56 = .ok (.iadd, 1) := by decide +kernel
theorem dX1_onTwo_57 : decode cX1_onTwo 57 = .ok (.istore 4, 2) := by decide +kernel
theorem dX1_onTwo_59 : decode cX1_onTwo 59 = .ok (.iinc 5 1, 3) := by decide +kernel
theorem dX1_onTwo_62 : decode cX1_onTwo 62 = .ok (.goto (-54), 3) := by decide +kernel
theorem dX1_onTwo_65 : decode cX1_onTwo 65 = .ok (.iload 4, 2) := by decide +kernel
theorem dX1_onTwo_67 : decode cX1_onTwo 67 = .ok (.ireturn, 1) := by decide +kernel
set_option maxRecDepth 20000 in
theorem ggX1_pairBound_X1_in : GoodIn wsX1_pairBound wsX1_in := goodIn_r _ [8] (by decide +kernel) (by decide +kernel)
set_option maxRecDepth 20000 in
theorem gX1_pairBound_X1_in : GoodIn wsX1_pairBound (va_wsS RX1 38 yX1_in wsX1_in) := goodIn_app (goodIn_of _ (by decide +kernel)) ggX1_pairBound_X1_in
set_option maxRecDepth 20000 in
theorem ggX1_pairBound_X1_startsTrial : GoodIn wsX1_pairBound wsX1_startsTrial := goodIn_r _ [12, 3, 13, 39, 40, 41, 42, 43, 44, 45, 46, 47, 48] (by decide +kernel) (by decide +kernel)
set_option maxRecDepth 20000 in
theorem gX1_pairBound_X1_startsTrial : GoodIn wsX1_pairBound (wsV RX1 121 RX1 yX1_startsTrial wsX1_startsTrial) := goodIn_app (goodIn_of _ (by decide +kernel)) ggX1_pairBound_X1_startsTrial
set_option maxRecDepth 20000 in
theorem ggX1_pairBound_X1_onTwo : GoodIn wsX1_pairBound wsX1_onTwo := goodIn_r _ [17, 3, 13, 18, 19, 20, 7, 21, 22, 39, 40, 41, 42, 43, 44, 45, 46, 47, 48] (by decide +kernel) (by decide +kernel)
set_option maxRecDepth 20000 in
theorem gX1_pairBound_X1_onTwo : GoodIn wsX1_pairBound (wsV RX1 124 RX1 yX1_onTwo wsX1_onTwo) := goodIn_app (goodIn_of _ (by decide +kernel)) ggX1_pairBound_X1_onTwo
set_option maxRecDepth 20000 in
theorem ggX1_pairBound_X1_goesOn : GoodIn wsX1_pairBound wsX1_goesOn := goodIn_r _ [26, 3, 13, 27, 28, 29, 7, 30, 39, 40, 41, 42, 43, 44, 45, 46, 47, 48] (by decide +kernel) (by decide +kernel)
set_option maxRecDepth 20000 in
theorem gX1_pairBound_X1_goesOn : GoodIn wsX1_pairBound (wsV RX1 127 RX1 yX1_goesOn wsX1_goesOn) := goodIn_app (goodIn_of _ (by decide +kernel)) ggX1_pairBound_X1_goesOn
set_option maxRecDepth 20000 in
theorem ggX1_pairBound_X1_leastSum : GoodIn wsX1_pairBound wsX1_leastSum := goodIn_r _ [34, 4, 3, 35, 36, 37, 7, 38, 18, 19, 20, 21, 22, 39, 40, 41, 42, 43, 44, 45, 46, 47, 48] (by decide +kernel) (by decide +kernel)
set_option maxRecDepth 20000 in
theorem gX1_pairBound_X1_leastSum : GoodIn wsX1_pairBound (wsV RX1 115 RX1 yX1_leastSum wsX1_leastSum) := goodIn_app (goodIn_of _ (by decide +kernel)) ggX1_pairBound_X1_leastSum
theorem dX1_pairBound_0 : decode cX1_pairBound 0 = .ok (.aload_n 0, 1) := by decide +kernel
theorem dX1_pairBound_1 : decode cX1_pairBound 1 = .ok (.iload_n 1, 1) := by decide +kernel
theorem dX1_pairBound_2 : decode cX1_pairBound 2 = .ok (.iconst 0, 1) := by decide +kernel
theorem dX1_pairBound_3 : decode cX1_pairBound 3 = .ok (.aload_n 0, 1) := by decide +kernel
theorem dX1_pairBound_4 : decode cX1_pairBound 4 = .ok (.getfield 7, 3) := by decide +kernel
theorem dX1_pairBound_7 : decode cX1_pairBound 7 = .ok (.iconst 1, 1) := by decide +kernel
theorem dX1_pairBound_8 : decode cX1_pairBound 8 = .ok (.isub, 1) := by decide +kernel
theorem dX1_pairBound_9 : decode cX1_pairBound 9 = .ok (.invokestatic 38, 3) := by decide +kernel
theorem dX1_pairBound_12 : decode cX1_pairBound 12 = .ok (.ifCond .eq 17, 3) := by decide +kernel
theorem dX1_pairBound_15 : decode cX1_pairBound 15 = .ok (.iload_n 2, 1) := by decide +kernel
theorem dX1_pairBound_16 : decode cX1_pairBound 16 = .ok (.iconst 0, 1) := by decide +kernel
theorem dX1_pairBound_17 : decode cX1_pairBound 17 = .ok (.aload_n 0, 1) := by decide +kernel
theorem dX1_pairBound_18 : decode cX1_pairBound 18 = .ok (.getfield 7, 3) := by decide +kernel
theorem dX1_pairBound_21 : decode cX1_pairBound 21 = .ok (.iconst 1, 1) := by decide +kernel
theorem dX1_pairBound_22 : decode cX1_pairBound 22 = .ok (.isub, 1) := by decide +kernel
theorem dX1_pairBound_23 : decode cX1_pairBound 23 = .ok (.invokestatic 38, 3) := by decide +kernel
theorem dX1_pairBound_26 : decode cX1_pairBound 26 = .ok (.ifCond .ne 7, 3) := by decide +kernel
theorem dX1_pairBound_29 : decode cX1_pairBound 29 = .ok (.iconst 1, 1) := by decide +kernel
theorem dX1_pairBound_30 : decode cX1_pairBound 30 = .ok (.goto 13, 3) := by decide +kernel
theorem dX1_pairBound_33 : decode cX1_pairBound 33 = .ok (.iload_n 1, 1) := by decide +kernel
theorem dX1_pairBound_34 : decode cX1_pairBound 34 = .ok (.iload_n 2, 1) := by decide +kernel
theorem dX1_pairBound_35 : decode cX1_pairBound 35 = .ok (.if_icmp .ge 7, 3) := by decide +kernel
theorem dX1_pairBound_38 : decode cX1_pairBound 38 = .ok (.iconst 0, 1) := by decide +kernel
theorem dX1_pairBound_39 : decode cX1_pairBound 39 = .ok (.goto 4, 3) := by decide +kernel
theorem dX1_pairBound_42 : decode cX1_pairBound 42 = .ok (.iconst 2, 1) := by decide +kernel
theorem dX1_pairBound_43 : decode cX1_pairBound 43 = .ok (.putfield 32, 3) := by decide +kernel
theorem dX1_pairBound_46 : decode cX1_pairBound 46 = .ok (.aload_n 0, 1) := by decide +kernel
theorem dX1_pairBound_47 : decode cX1_pairBound 47 = .ok (.getfield 32, 3) := by decide +kernel
theorem dX1_pairBound_50 : decode cX1_pairBound 50 = .ok (.ifCond .gt 10, 3) := by decide +kernel
theorem dX1_pairBound_53 : decode cX1_pairBound 53 = .ok (.aload_n 0, 1) := by decide +kernel
theorem dX1_pairBound_54 : decode cX1_pairBound 54 = .ok (.getfield 35, 3) := by decide +kernel
theorem dX1_pairBound_57 : decode cX1_pairBound 57 = .ok (.ifCond .ne 5, 3) := by decide +kernel
theorem dX1_pairBound_60 : decode cX1_pairBound 60 = .ok (.iconst 0, 1) := by decide +kernel
theorem dX1_pairBound_61 : decode cX1_pairBound 61 = .ok (.ireturn, 1) := by decide +kernel
theorem dX1_pairBound_62 : decode cX1_pairBound 62 = .ok (.ldc 100, 2) := by decide +kernel
theorem dX1_pairBound_64 : decode cX1_pairBound 64 = .ok (.istore_n 3, 1) := by decide +kernel
theorem dX1_pairBound_65 : decode cX1_pairBound 65 = .ok (.iconst 1, 1) := by decide +kernel
theorem dX1_pairBound_66 : decode cX1_pairBound 66 = .ok (.istore 4, 2) := by decide +kernel
theorem dX1_pairBound_68 : decode cX1_pairBound 68 = .ok (.aload_n 0, 1) := by decide +kernel
theorem dX1_pairBound_69 : decode cX1_pairBound 69 = .ok (.invokevirtual 121, 3) := by decide +kernel
theorem dX1_pairBound_72 : decode cX1_pairBound 72 = .ok (.iload 4, 2) := by decide +kernel
theorem dX1_pairBound_74 : decode cX1_pairBound 74 = .ok (.ifCond .eq 33, 3) := by decide +kernel
theorem dX1_pairBound_77 : decode cX1_pairBound 77 = .ok (.aload_n 0, 1) := by decide +kernel
theorem dX1_pairBound_78 : decode cX1_pairBound 78 = .ok (.iload_n 1, 1) := by decide +kernel
theorem dX1_pairBound_79 : decode cX1_pairBound 79 = .ok (.iload_n 2, 1) := by decide +kernel
theorem dX1_pairBound_80 : decode cX1_pairBound 80 = .ok (.invokevirtual 124, 3) := by decide +kernel
theorem dX1_pairBound_83 : decode cX1_pairBound 83 = .ok (.iload_n 3, 1) := by decide +kernel
theorem dX1_pairBound_84 : decode cX1_pairBound 84 = .ok (.if_icmp .ge 12, 3) := by decide +kernel
theorem dX1_pairBound_87 : decode cX1_pairBound 87 = .ok (.aload_n 0, 1) := by decide +kernel
theorem dX1_pairBound_88 : decode cX1_pairBound 88 = .ok (.iload_n 1, 1) := by decide +kernel
theorem dX1_pairBound_89 : decode cX1_pairBound 89 = .ok (.iload_n 2, 1) := by decide +kernel
theorem dX1_pairBound_90 : decode cX1_pairBound 90 = .ok (.invokevirtual 124, 3) := by decide +kernel
theorem dX1_pairBound_93 : decode cX1_pairBound 93 = .ok (.goto 4, 3) := by decide +kernel
theorem dX1_pairBound_96 : decode cX1_pairBound 96 = .ok (.iload_n 3, 1) := by decide +kernel
theorem dX1_pairBound_97 : decode cX1_pairBound 97 = .ok (.istore_n 3, 1) := by decide +kernel
theorem dX1_pairBound_98 : decode cX1_pairBound 98 = .ok (.aload_n 0, 1) := by decide +kernel
theorem dX1_pairBound_99 : decode cX1_pairBound 99 = .ok (.invokevirtual 127, 3) := by decide +kernel
theorem dX1_pairBound_102 : decode cX1_pairBound 102 = .ok (.istore 4, 2) := by decide +kernel
theorem dX1_pairBound_104 : decode cX1_pairBound 104 = .ok (.goto (-32), 3) := by decide +kernel
theorem dX1_pairBound_107 : decode cX1_pairBound 107 = .ok (.iload_n 3, 1) := by decide +kernel
theorem dX1_pairBound_108 : decode cX1_pairBound 108 = .ok (.aload_n 0, 1) := by decide +kernel
theorem dX1_pairBound_109 : decode cX1_pairBound 109 = .ok (.iconst 0, 1) := by decide +kernel
theorem dX1_pairBound_110 : decode cX1_pairBound 110 = .ok (.iload_n 1, 1) := by decide +kernel
theorem dX1_pairBound_111 : decode cX1_pairBound 111 = .ok (.invokevirtual 115, 3) := by decide +kernel
theorem dX1_pairBound_114 : decode cX1_pairBound 114 = .ok (.iadd, 1) := by decide +kernel
theorem dX1_pairBound_115 : decode cX1_pairBound 115 = .ok (.aload_n 0, 1) := by decide +kernel
theorem dX1_pairBound_116 : decode cX1_pairBound 116 = .ok (.iload_n 2, 1) := by decide +kernel
theorem dX1_pairBound_117 : decode cX1_pairBound 117 = .ok (.iconst 1, 1) := by decide +kernel
theorem dX1_pairBound_118 : decode cX1_pairBound 118 = .ok (.iadd, 1) := by decide +kernel
theorem dX1_pairBound_119 : decode cX1_pairBound 119 = .ok (.aload_n 0, 1) := by decide +kernel
theorem dX1_pairBound_120 : decode cX1_pairBound 120 = .ok (.getfield 7, 3) := by decide +kernel
theorem dX1_pairBound_123 : decode cX1_pairBound 123 = .ok (.invokevirtual 115, 3) := by decide +kernel
theorem dX1_pairBound_126 : decode cX1_pairBound 126 = .ok (.iadd, 1) := by decide +kernel
theorem dX1_pairBound_127 : decode cX1_pairBound 127 = .ok (.ireturn, 1) := by decide +kernel
set_option maxRecDepth 20000 in
theorem ggX1_searches_X1_startsTrial : GoodIn wsX1_searches wsX1_startsTrial := goodIn_r _ [10, 4, 3, 46, 47, 48, 49, 50, 51, 52, 53, 54, 55] (by decide +kernel) (by decide +kernel)
set_option maxRecDepth 20000 in
theorem gX1_searches_X1_startsTrial : GoodIn wsX1_searches (wsV RX1 121 RX1 yX1_startsTrial wsX1_startsTrial) := goodIn_app (goodIn_of _ (by decide +kernel)) ggX1_searches_X1_startsTrial
set_option maxRecDepth 20000 in
theorem ggX1_searches_X1_lays : GoodIn wsX1_searches wsX1_lays := goodIn_r _ [14, 15, 16, 17, 18, 19, 9, 20, 21, 22, 23, 24, 25, 26, 27, 28, 29, 30, 31, 32, 33, 34, 35, 36, 37, 46, 47, 48, 49, 50, 51, 52, 53, 54, 55] (by decide +kernel) (by decide +kernel)
set_option maxRecDepth 20000 in
theorem gX1_searches_X1_lays : GoodIn wsX1_searches (wsV RX1 69 RX1 yX1_lays wsX1_lays) := goodIn_app (goodIn_of _ (by decide +kernel)) ggX1_searches_X1_lays
set_option maxRecDepth 20000 in
theorem ggX1_searches_X1_goesOn : GoodIn wsX1_searches wsX1_goesOn := goodIn_r _ [41, 4, 3, 42, 43, 44, 9, 45, 46, 47, 48, 49, 50, 51, 52, 53, 54, 55] (by decide +kernel) (by decide +kernel)
set_option maxRecDepth 20000 in
theorem gX1_searches_X1_goesOn : GoodIn wsX1_searches (wsV RX1 127 RX1 yX1_goesOn wsX1_goesOn) := goodIn_app (goodIn_of _ (by decide +kernel)) ggX1_searches_X1_goesOn
theorem dX1_searches_0 : decode cX1_searches 0 = .ok (.ldc 100, 2) := by decide +kernel
theorem dX1_searches_2 : decode cX1_searches 2 = .ok (.istore_n 2, 1) := by decide +kernel
theorem dX1_searches_3 : decode cX1_searches 3 = .ok (.iconst 1, 1) := by decide +kernel
theorem dX1_searches_4 : decode cX1_searches 4 = .ok (.istore_n 3, 1) := by decide +kernel
theorem dX1_searches_5 : decode cX1_searches 5 = .ok (.aload_n 0, 1) := by decide +kernel
theorem dX1_searches_6 : decode cX1_searches 6 = .ok (.iconst 0, 1) := by decide +kernel
theorem dX1_searches_7 : decode cX1_searches 7 = .ok (.putfield 131, 3) := by decide +kernel
theorem dX1_searches_10 : decode cX1_searches 10 = .ok (.aload_n 0, 1) := by decide +kernel
theorem dX1_searches_11 : decode cX1_searches 11 = .ok (.invokevirtual 121, 3) := by decide +kernel
theorem dX1_searches_14 : decode cX1_searches 14 = .ok (.iload_n 3, 1) := by decide +kernel
theorem dX1_searches_15 : decode cX1_searches 15 = .ok (.ifCond .eq 110, 3) := by decide +kernel
theorem dX1_searches_18 : decode cX1_searches 18 = .ok (.aload_n 0, 1) := by decide +kernel
theorem dX1_searches_19 : decode cX1_searches 19 = .ok (.iload_n 1, 1) := by decide +kernel
theorem dX1_searches_20 : decode cX1_searches 20 = .ok (.aload_n 0, 1) := by decide +kernel
theorem dX1_searches_21 : decode cX1_searches 21 = .ok (.getfield 26, 3) := by decide +kernel
theorem dX1_searches_24 : decode cX1_searches 24 = .ok (.aload_n 0, 1) := by decide +kernel
theorem dX1_searches_25 : decode cX1_searches 25 = .ok (.getfield 35, 3) := by decide +kernel
theorem dX1_searches_28 : decode cX1_searches 28 = .ok (.invokevirtual 69, 3) := by decide +kernel
theorem dX1_searches_31 : decode cX1_searches 31 = .ok (.istore 4, 2) := by decide +kernel
theorem dX1_searches_33 : decode cX1_searches 33 = .ok (.aload_n 0, 1) := by decide +kernel
theorem dX1_searches_34 : decode cX1_searches 34 = .ok (.iload 4, 2) := by decide +kernel
theorem dX1_searches_36 : decode cX1_searches 36 = .ok (.iload_n 2, 1) := by decide +kernel
theorem dX1_searches_37 : decode cX1_searches 37 = .ok (.if_icmp .ge 7, 3) := by decide +kernel
theorem dX1_searches_40 : decode cX1_searches 40 = .ok (.iconst 1, 1) := by decide +kernel
theorem dX1_searches_41 : decode cX1_searches 41 = .ok (.goto 22, 3) := by decide +kernel
theorem dX1_searches_44 : decode cX1_searches 44 = .ok (.iload 4, 2) := by decide +kernel
theorem dX1_searches_46 : decode cX1_searches 46 = .ok (.iload_n 2, 1) := by decide +kernel
theorem dX1_searches_47 : decode cX1_searches 47 = .ok (.if_icmp .ne 12, 3) := by decide +kernel
theorem dX1_searches_50 : decode cX1_searches 50 = .ok (.aload_n 0, 1) := by decide +kernel
theorem dX1_searches_51 : decode cX1_searches 51 = .ok (.getfield 131, 3) := by decide +kernel
theorem dX1_searches_54 : decode cX1_searches 54 = .ok (.iconst 1, 1) := by decide +kernel
theorem dX1_searches_55 : decode cX1_searches 55 = .ok (.iadd, 1) := by decide +kernel
theorem dX1_searches_56 : decode cX1_searches 56 = .ok (.goto 7, 3) := by decide +kernel
theorem dX1_searches_59 : decode cX1_searches 59 = .ok (.aload_n 0, 1) := by decide +kernel
theorem dX1_searches_60 : decode cX1_searches 60 = .ok (.getfield 131, 3) := by decide +kernel
theorem dX1_searches_63 : decode cX1_searches 63 = .ok (.putfield 131, 3) := by decide +kernel
theorem dX1_searches_66 : decode cX1_searches 66 = .ok (.iconst 0, 1) := by decide +kernel
theorem dX1_searches_67 : decode cX1_searches 67 = .ok (.istore 5, 2) := by decide +kernel
theorem dX1_searches_69 : decode cX1_searches 69 = .ok (.iload 5, 2) := by decide +kernel
theorem dX1_searches_71 : decode cX1_searches 71 = .ok (.aload_n 0, 1) := by decide +kernel
theorem dX1_searches_72 : decode cX1_searches 72 = .ok (.getfield 35, 3) := by decide +kernel
theorem dX1_searches_75 : decode cX1_searches 75 = .ok (.if_icmp .ge 29, 3) := by decide +kernel
theorem dX1_searches_78 : decode cX1_searches 78 = .ok (.iload 4, 2) := by decide +kernel
theorem dX1_searches_80 : decode cX1_searches 80 = .ok (.iload_n 2, 1) := by decide +kernel
theorem dX1_searches_81 : decode cX1_searches 81 = .ok (.if_icmp .ge 23, 3) := by decide +kernel
theorem dX1_searches_84 : decode cX1_searches 84 = .ok (.aload_n 0, 1) := by decide +kernel
theorem dX1_searches_85 : decode cX1_searches 85 = .ok (.getfield 29, 3) := by decide +kernel
theorem dX1_searches_88 : decode cX1_searches 88 = .ok (.iload 5, 2) := by decide +kernel
theorem dX1_searches_90 : decode cX1_searches 90 = .ok (.aload_n 0, 1) := by decide +kernel
theorem dX1_searches_91 : decode cX1_searches 91 = .ok (.getfield 26, 3) := by decide +kernel
theorem dX1_searches_94 : decode cX1_searches 94 = .ok (.iload 5, 2) := by decide +kernel
theorem dX1_searches_96 : decode cX1_searches 96 = .ok (.iaload, 1) := by decide +kernel
theorem dX1_searches_97 : decode cX1_searches 97 = .ok (.iastore, 1) := by decide +kernel
theorem dX1_searches_98 : decode cX1_searches 98 = .ok (.iinc 5 1, 3) := by decide +kernel
theorem dX1_searches_101 : decode cX1_searches 101 = .ok (.goto (-32), 3) := by decide +kernel
theorem dX1_searches_104 : decode cX1_searches 104 = .ok (.iload 4, 2) := by decide +kernel
theorem dX1_searches_106 : decode cX1_searches 106 = .ok (.iload_n 2, 1) := by decide +kernel
theorem dX1_searches_107 : decode cX1_searches 107 = .ok (.if_icmp .ge 8, 3) := by decide +kernel
theorem dX1_searches_110 : decode cX1_searches 110 = .ok (.iload 4, 2) := by decide +kernel
theorem dX1_searches_112 : decode cX1_searches 112 = .ok (.goto 4, 3) := by decide +kernel
theorem dX1_searches_115 : decode cX1_searches 115 = .ok (.iload_n 2, 1) := by decide +kernel
theorem dX1_searches_116 : decode cX1_searches 116 = .ok (.istore_n 2, 1) := by decide +kernel
theorem dX1_searches_117 : decode cX1_searches 117 = .ok (.aload_n 0, 1) := by decide +kernel
theorem dX1_searches_118 : decode cX1_searches 118 = .ok (.invokevirtual 127, 3) := by decide +kernel
theorem dX1_searches_121 : decode cX1_searches 121 = .ok (.istore_n 3, 1) := by decide +kernel
theorem dX1_searches_122 : decode cX1_searches 122 = .ok (.goto (-108), 3) := by decide +kernel
theorem dX1_searches_125 : decode cX1_searches 125 = .ok (.iload_n 2, 1) := by decide +kernel
theorem dX1_searches_126 : decode cX1_searches 126 = .ok (.ireturn, 1) := by decide +kernel
set_option maxRecDepth 20000 in
theorem ggX1_best_X1_isVariant : GoodIn wsX1_best wsX1_isVariant := goodIn_r _ [5, 6, 7, 4, 8] (by decide +kernel) (by decide +kernel)
set_option maxRecDepth 20000 in
theorem gX1_best_X1_isVariant : GoodIn wsX1_best (va_wsS RX1 108 yX1_isVariant wsX1_isVariant) := goodIn_app (goodIn_of _ (by decide +kernel)) ggX1_best_X1_isVariant
set_option maxRecDepth 20000 in
theorem ggX1_best_X1_searches : GoodIn wsX1_best wsX1_searches := goodIn_r _ [12, 13, 14, 15, 16, 17, 18, 19, 20, 4, 21, 22, 23, 24, 25, 26, 27, 28, 29, 30, 31, 32, 33, 34, 35, 36, 37, 38, 39, 40, 41, 42, 43, 44, 45, 46, 47, 48, 49, 50, 51, 52, 53, 54, 55, 56, 57, 58, 59, 60, 61, 62, 63, 64, 65, 66] (by decide +kernel) (by decide +kernel)
set_option maxRecDepth 20000 in
theorem gX1_best_X1_searches : GoodIn wsX1_best (wsV RX1 134 RX1 yX1_searches wsX1_searches) := goodIn_app (goodIn_of _ (by decide +kernel)) ggX1_best_X1_searches
theorem dX1_best_0 : decode cX1_best 0 = .ok (.aload_n 0, 1) := by decide +kernel
theorem dX1_best_1 : decode cX1_best 1 = .ok (.iload_n 1, 1) := by decide +kernel
theorem dX1_best_2 : decode cX1_best 2 = .ok (.invokestatic 108, 3) := by decide +kernel
theorem dX1_best_5 : decode cX1_best 5 = .ok (.ifCond .eq 7, 3) := by decide +kernel
theorem dX1_best_8 : decode cX1_best 8 = .ok (.iconst 0, 1) := by decide +kernel
theorem dX1_best_9 : decode cX1_best 9 = .ok (.goto 4, 3) := by decide +kernel
theorem dX1_best_12 : decode cX1_best 12 = .ok (.iconst 1, 1) := by decide +kernel
theorem dX1_best_13 : decode cX1_best 13 = .ok (.putfield 32, 3) := by decide +kernel
theorem dX1_best_16 : decode cX1_best 16 = .ok (.aload_n 0, 1) := by decide +kernel
theorem dX1_best_17 : decode cX1_best 17 = .ok (.getfield 32, 3) := by decide +kernel
theorem dX1_best_20 : decode cX1_best 20 = .ok (.ifCond .le 7, 3) := by decide +kernel
theorem dX1_best_23 : decode cX1_best 23 = .ok (.iconst 0, 1) := by decide +kernel
theorem dX1_best_24 : decode cX1_best 24 = .ok (.goto 8, 3) := by decide +kernel
theorem dX1_best_27 : decode cX1_best 27 = .ok (.aload_n 0, 1) := by decide +kernel
theorem dX1_best_28 : decode cX1_best 28 = .ok (.iload_n 1, 1) := by decide +kernel
theorem dX1_best_29 : decode cX1_best 29 = .ok (.invokevirtual 134, 3) := by decide +kernel
theorem dX1_best_32 : decode cX1_best 32 = .ok (.ireturn, 1) := by decide +kernel
set_option maxRecDepth 20000 in
theorem ggX1_bestAt_X1_isVariant : GoodIn wsX1_bestAt wsX1_isVariant := goodIn_r _ [7, 8, 9, 6, 10] (by decide +kernel) (by decide +kernel)
set_option maxRecDepth 20000 in
theorem gX1_bestAt_X1_isVariant : GoodIn wsX1_bestAt (va_wsS RX1 108 yX1_isVariant wsX1_isVariant) := goodIn_app (goodIn_of _ (by decide +kernel)) ggX1_bestAt_X1_isVariant
set_option maxRecDepth 20000 in
theorem ggX1_bestAt_X1_in : GoodIn wsX1_bestAt wsX1_in := goodIn_r _ [10] (by decide +kernel) (by decide +kernel)
set_option maxRecDepth 20000 in
theorem gX1_bestAt_X1_in : GoodIn wsX1_bestAt (va_wsS RX1 38 yX1_in wsX1_in) := goodIn_app (goodIn_of _ (by decide +kernel)) ggX1_bestAt_X1_in
set_option maxRecDepth 20000 in
theorem ggX1_bestAt_X1_searches : GoodIn wsX1_bestAt wsX1_searches := goodIn_r _ [14, 15, 16, 17, 1, 3, 18, 19, 20, 6, 21, 22, 23, 24, 25, 26, 27, 28, 29, 30, 31, 32, 33, 34, 35, 36, 37, 38, 39, 40, 41, 42, 43, 44, 45, 46, 47, 48, 49, 50, 51, 52, 53, 54, 55, 56, 57, 58, 59, 60, 61, 62, 63, 64, 65, 66] (by decide +kernel) (by decide +kernel)
set_option maxRecDepth 20000 in
theorem gX1_bestAt_X1_searches : GoodIn wsX1_bestAt (wsV RX1 134 RX1 yX1_searches wsX1_searches) := goodIn_app (goodIn_of _ (by decide +kernel)) ggX1_bestAt_X1_searches
theorem dX1_bestAt_0 : decode cX1_bestAt 0 = .ok (.aload_n 0, 1) := by decide +kernel
theorem dX1_bestAt_1 : decode cX1_bestAt 1 = .ok (.iload_n 1, 1) := by decide +kernel
theorem dX1_bestAt_2 : decode cX1_bestAt 2 = .ok (.invokestatic 108, 3) := by decide +kernel
theorem dX1_bestAt_5 : decode cX1_bestAt 5 = .ok (.ifCond .ne 7, 3) := by decide +kernel
theorem dX1_bestAt_8 : decode cX1_bestAt 8 = .ok (.iconst 1, 1) := by decide +kernel
theorem dX1_bestAt_9 : decode cX1_bestAt 9 = .ok (.goto 22, 3) := by decide +kernel
theorem dX1_bestAt_12 : decode cX1_bestAt 12 = .ok (.iload_n 2, 1) := by decide +kernel
theorem dX1_bestAt_13 : decode cX1_bestAt 13 = .ok (.iconst 0, 1) := by decide +kernel
theorem dX1_bestAt_14 : decode cX1_bestAt 14 = .ok (.aload_n 0, 1) := by decide +kernel
theorem dX1_bestAt_15 : decode cX1_bestAt 15 = .ok (.getfield 35, 3) := by decide +kernel
theorem dX1_bestAt_18 : decode cX1_bestAt 18 = .ok (.iconst 1, 1) := by decide +kernel
theorem dX1_bestAt_19 : decode cX1_bestAt 19 = .ok (.isub, 1) := by decide +kernel
theorem dX1_bestAt_20 : decode cX1_bestAt 20 = .ok (.invokestatic 38, 3) := by decide +kernel
theorem dX1_bestAt_23 : decode cX1_bestAt 23 = .ok (.ifCond .eq 7, 3) := by decide +kernel
theorem dX1_bestAt_26 : decode cX1_bestAt 26 = .ok (.iconst 0, 1) := by decide +kernel
theorem dX1_bestAt_27 : decode cX1_bestAt 27 = .ok (.goto 4, 3) := by decide +kernel
theorem dX1_bestAt_30 : decode cX1_bestAt 30 = .ok (.iconst 2, 1) := by decide +kernel
theorem dX1_bestAt_31 : decode cX1_bestAt 31 = .ok (.putfield 32, 3) := by decide +kernel
theorem dX1_bestAt_34 : decode cX1_bestAt 34 = .ok (.aload_n 0, 1) := by decide +kernel
theorem dX1_bestAt_35 : decode cX1_bestAt 35 = .ok (.getfield 32, 3) := by decide +kernel
theorem dX1_bestAt_38 : decode cX1_bestAt 38 = .ok (.ifCond .le 5, 3) := by decide +kernel
theorem dX1_bestAt_41 : decode cX1_bestAt 41 = .ok (.iconst 0, 1) := by decide +kernel
theorem dX1_bestAt_42 : decode cX1_bestAt 42 = .ok (.ireturn, 1) := by decide +kernel
theorem dX1_bestAt_43 : decode cX1_bestAt 43 = .ok (.aload_n 0, 1) := by decide +kernel
theorem dX1_bestAt_44 : decode cX1_bestAt 44 = .ok (.iload_n 1, 1) := by decide +kernel
theorem dX1_bestAt_45 : decode cX1_bestAt 45 = .ok (.invokevirtual 134, 3) := by decide +kernel
theorem dX1_bestAt_48 : decode cX1_bestAt 48 = .ok (.pop, 1) := by decide +kernel
theorem dX1_bestAt_49 : decode cX1_bestAt 49 = .ok (.aload_n 0, 1) := by decide +kernel
theorem dX1_bestAt_50 : decode cX1_bestAt 50 = .ok (.getfield 29, 3) := by decide +kernel
theorem dX1_bestAt_53 : decode cX1_bestAt 53 = .ok (.iload_n 2, 1) := by decide +kernel
theorem dX1_bestAt_54 : decode cX1_bestAt 54 = .ok (.iaload, 1) := by decide +kernel
theorem dX1_bestAt_55 : decode cX1_bestAt 55 = .ok (.ireturn, 1) := by decide +kernel
set_option maxRecDepth 20000 in
theorem ggX1_bestOrders_X1_isVariant : GoodIn wsX1_bestOrders wsX1_isVariant := goodIn_r _ [6, 7, 8, 5, 9] (by decide +kernel) (by decide +kernel)
set_option maxRecDepth 20000 in
theorem gX1_bestOrders_X1_isVariant : GoodIn wsX1_bestOrders (va_wsS RX1 108 yX1_isVariant wsX1_isVariant) := goodIn_app (goodIn_of _ (by decide +kernel)) ggX1_bestOrders_X1_isVariant
set_option maxRecDepth 20000 in
theorem ggX1_bestOrders_X1_searches : GoodIn wsX1_bestOrders wsX1_searches := goodIn_r _ [13, 14, 2, 15, 16, 17, 18, 19, 20, 5, 21, 22, 23, 24, 25, 26, 27, 28, 29, 30, 31, 32, 33, 34, 35, 36, 37, 38, 39, 40, 41, 42, 43, 44, 45, 46, 47, 48, 49, 50, 51, 52, 53, 54, 55, 56, 57, 58, 59, 60, 61, 62, 63, 64, 65, 66] (by decide +kernel) (by decide +kernel)
set_option maxRecDepth 20000 in
theorem gX1_bestOrders_X1_searches : GoodIn wsX1_bestOrders (wsV RX1 134 RX1 yX1_searches wsX1_searches) := goodIn_app (goodIn_of _ (by decide +kernel)) ggX1_bestOrders_X1_searches
theorem dX1_bestOrders_0 : decode cX1_bestOrders 0 = .ok (.aload_n 0, 1) := by decide +kernel
theorem dX1_bestOrders_1 : decode cX1_bestOrders 1 = .ok (.iload_n 1, 1) := by decide +kernel
theorem dX1_bestOrders_2 : decode cX1_bestOrders 2 = .ok (.invokestatic 108, 3) := by decide +kernel
theorem dX1_bestOrders_5 : decode cX1_bestOrders 5 = .ok (.ifCond .eq 7, 3) := by decide +kernel
theorem dX1_bestOrders_8 : decode cX1_bestOrders 8 = .ok (.iconst 0, 1) := by decide +kernel
theorem dX1_bestOrders_9 : decode cX1_bestOrders 9 = .ok (.goto 4, 3) := by decide +kernel
theorem dX1_bestOrders_12 : decode cX1_bestOrders 12 = .ok (.iconst 1, 1) := by decide +kernel
theorem dX1_bestOrders_13 : decode cX1_bestOrders 13 = .ok (.putfield 32, 3) := by decide +kernel
theorem dX1_bestOrders_16 : decode cX1_bestOrders 16 = .ok (.aload_n 0, 1) := by decide +kernel
theorem dX1_bestOrders_17 : decode cX1_bestOrders 17 = .ok (.getfield 32, 3) := by decide +kernel
theorem dX1_bestOrders_20 : decode cX1_bestOrders 20 = .ok (.ifCond .le 5, 3) := by decide +kernel
theorem dX1_bestOrders_23 : decode cX1_bestOrders 23 = .ok (.iconst 0, 1) := by decide +kernel
theorem dX1_bestOrders_24 : decode cX1_bestOrders 24 = .ok (.ireturn, 1) := by decide +kernel
theorem dX1_bestOrders_25 : decode cX1_bestOrders 25 = .ok (.aload_n 0, 1) := by decide +kernel
theorem dX1_bestOrders_26 : decode cX1_bestOrders 26 = .ok (.iload_n 1, 1) := by decide +kernel
theorem dX1_bestOrders_27 : decode cX1_bestOrders 27 = .ok (.invokevirtual 134, 3) := by decide +kernel
theorem dX1_bestOrders_30 : decode cX1_bestOrders 30 = .ok (.pop, 1) := by decide +kernel
theorem dX1_bestOrders_31 : decode cX1_bestOrders 31 = .ok (.aload_n 0, 1) := by decide +kernel
theorem dX1_bestOrders_32 : decode cX1_bestOrders 32 = .ok (.getfield 131, 3) := by decide +kernel
theorem dX1_bestOrders_35 : decode cX1_bestOrders 35 = .ok (.ireturn, 1) := by decide +kernel
set_option maxRecDepth 20000 in
theorem ggX1_gap_X1_searches : GoodIn wsX1_gap wsX1_searches := goodIn_r _ [6, 7, 8, 9, 10, 11, 12, 13, 14, 5, 15, 16, 17, 18, 19, 20, 21, 22, 23, 24, 25, 26, 27, 28, 29, 30, 31, 32, 33, 34, 35, 36, 37, 38, 39, 40, 41, 42, 43, 44, 45, 46, 47, 48, 49, 50, 56, 57, 58, 59, 60, 61, 62, 63, 64, 65] (by decide +kernel) (by decide +kernel)
set_option maxRecDepth 20000 in
theorem gX1_gap_X1_searches : GoodIn wsX1_gap (wsV RX1 134 RX1 yX1_searches wsX1_searches) := goodIn_app (goodIn_of _ (by decide +kernel)) ggX1_gap_X1_searches
set_option maxRecDepth 20000 in
theorem ggX1_gap_X1_plain : GoodIn wsX1_gap wsX1_plain := goodIn_r _ [54, 55, 10, 16, 17, 18, 5, 19, 20, 21, 22, 23, 24, 25, 26, 27, 28, 29, 30, 31, 32, 33, 34, 35, 36, 37, 38, 39, 40, 41, 42, 56, 57, 58, 59, 60, 61, 62, 63, 64, 65] (by decide +kernel) (by decide +kernel)
set_option maxRecDepth 20000 in
theorem gX1_gap_X1_plain : GoodIn wsX1_gap (wsV RX1 89 RX1 yX1_plain wsX1_plain) := goodIn_app (goodIn_of _ (by decide +kernel)) ggX1_gap_X1_plain
theorem dX1_gap_0 : decode cX1_gap 0 = .ok (.aload_n 0, 1) := by decide +kernel
theorem dX1_gap_1 : decode cX1_gap 1 = .ok (.iconst 0, 1) := by decide +kernel
theorem dX1_gap_2 : decode cX1_gap 2 = .ok (.putfield 32, 3) := by decide +kernel
theorem dX1_gap_5 : decode cX1_gap 5 = .ok (.aload_n 0, 1) := by decide +kernel
theorem dX1_gap_6 : decode cX1_gap 6 = .ok (.iconst 0, 1) := by decide +kernel
theorem dX1_gap_7 : decode cX1_gap 7 = .ok (.invokevirtual 134, 3) := by decide +kernel
theorem dX1_gap_10 : decode cX1_gap 10 = .ok (.istore_n 1, 1) := by decide +kernel
theorem dX1_gap_11 : decode cX1_gap 11 = .ok (.aload_n 0, 1) := by decide +kernel
theorem dX1_gap_12 : decode cX1_gap 12 = .ok (.invokevirtual 89, 3) := by decide +kernel
theorem dX1_gap_15 : decode cX1_gap 15 = .ok (.istore_n 2, 1) := by decide +kernel
theorem dX1_gap_16 : decode cX1_gap 16 = .ok (.iload_n 1, 1) := by decide +kernel
theorem dX1_gap_17 : decode cX1_gap 17 = .ok (.ifCond .ne 7, 3) := by decide +kernel
theorem dX1_gap_20 : decode cX1_gap 20 = .ok (.dconst 0, 1) := by decide +kernel
theorem dX1_gap_21 : decode cX1_gap 21 = .ok (.goto 10, 3) := by decide +kernel
theorem dX1_gap_24 : decode cX1_gap 24 = .ok (.iload_n 2, 1) := by decide +kernel
theorem dX1_gap_25 : decode cX1_gap 25 = .ok (.iload_n 1, 1) := by decide +kernel
theorem dX1_gap_26 : decode cX1_gap 26 = .ok (.isub, 1) := by decide +kernel
theorem dX1_gap_27 : decode cX1_gap 27 = .ok (.i2d, 1) := by decide +kernel
theorem dX1_gap_28 : decode cX1_gap 28 = .ok (.iload_n 1, 1) := by decide +kernel
theorem dX1_gap_29 : decode cX1_gap 29 = .ok (.i2d, 1) := by decide +kernel
theorem dX1_gap_30 : decode cX1_gap 30 = .ok (.ddiv, 1) := by decide +kernel
theorem dX1_gap_31 : decode cX1_gap 31 = .ok (.dreturn, 1) := by decide +kernel
end
section
/-! whole numbers as ints, and rows over them -/
def iI (z : Int) : Int32 := Int32.ofInt z
theorem iI_add (a b : Int) : iI a + iI b = iI (a + b) := (Int32.ofInt_add a b).symm
theorem iI_sub (a b : Int) : iI a - iI b = iI (a - b) := (Int32.ofInt_sub a b).symm
theorem iI_mul (a b : Int) : iI a * iI b = iI (a * b) := (Int32.ofInt_mul a b).symm
theorem iI_neg (a : Int) : -iI a = iI (-a) := (Int32.ofInt_neg a).symm
abbrev rg (z : Int) : Prop := -2147483648 ≤ z ∧ z < 2147483648
theorem iI_toInt {z : Int} (h : rg z) : (iI z).toInt = z := Int32.toInt_ofInt_of_le (by have := h.1; omega) (by have := h.2; omega)
theorem iI_le {a b : Int} (ha : rg a) (hb : rg b) : iI a ≤ iI b ↔ a ≤ b := by rw [Int32.le_iff_toInt_le, iI_toInt ha, iI_toInt hb]
theorem iI_lt {a b : Int} (ha : rg a) (hb : rg b) : iI a < iI b ↔ a < b := by rw [Int32.lt_iff_toInt_lt, iI_toInt ha, iI_toInt hb]
theorem iI_eq {a b : Int} (ha : rg a) (hb : rg b) : iI a = iI b ↔ a = b := by rw [← Int32.toInt_inj, iI_toInt ha, iI_toInt hb]
theorem iI_of (x : Int32) : ∃ z : Int, rg z ∧ x = iI z := ⟨x.toInt, ⟨by have := Int32.le_toInt x; omega, by have := Int32.toInt_lt x; omega⟩, (Int32.ofInt_toInt x).symm⟩
theorem iI_cl {z : Int} {k : Nat} (hz : z = (k : Int)) (hk : k < 2147483648) : (iI z).toNatClampNeg = k := by
  show (iI z).toInt.toNat = k
  rw [iI_toInt ⟨by omega, by omega⟩]
  omega
theorem iI_in {z : Int} {k n : Nat} (hz : z = (k : Int)) (hk : k < n) (hn : n ≤ 2147483648) : vp_in (iI z) n := by
  intro h
  rcases h with h | h
  · have := (iI_lt (a := z) (b := 0) ⟨by omega, by omega⟩ ⟨by omega, by omega⟩).mp h
    omega
  · rw [iI_cl hz (by omega)] at h
    omega
theorem iI_inc {a z n : Int} (h : a + n = z) : iI a + Int32.ofInt n = iI z := by rw [← h]; exact iI_add a n
theorem iI_max {a b : Int} (ha : rg a) (hb : rg b) : (if iI a < iI b then iI b else iI a) = iI (max a b) := by
  by_cases h : a < b
  · rw [if_pos ((iI_lt ha hb).mpr h), show max a b = b by omega]
  · rw [if_neg (fun q => h ((iI_lt ha hb).mp q)), show max a b = a by omega]
theorem iI_min {a b : Int} (ha : rg a) (hb : rg b) : (if iI b < iI a then iI b else iI a) = iI (min a b) := by
  by_cases h : b < a
  · rw [if_pos ((iI_lt hb ha).mpr h), show min a b = b by omega]
  · rw [if_neg (fun q => h ((iI_lt hb ha).mp q)), show min a b = a by omega]
end
section
section WK
variable {p : Program} {l : Launch} {e : Env} {R : Room} {s : State} {m : MethodId} {args : Array Value} {below : List Frame} {meth : Method} {c : Code} {H : Heap} {locs : List Loc} {cells slots : Nat} {Q : State → Prop}
variable {cc : ByteArray} {pc : Nat} {ls : Array Slot} {rest : List Value}
theorem w_top {x v : Int32} (h : x = v) (k : W p l e R s m args below meth c H locs cells slots Q (F0 m pc ls (.int v :: rest))) : W p l e R s m args below meth c H locs cells slots Q (F0 m pc ls (.int x :: rest)) := by rw [h]; exact k
theorem w_iadd (hx : p.tables.exec = Jvm.exec) (hb : c.code = cc) {a b z : Int} (hd : decode cc pc = .ok (.iadd, 1)) (hz : a + b = z)
    (k : W p l e R s m args below meth c H locs cells slots Q (F0 m (pc + 1) ls (.int (iI z) :: rest))) : W p l e R s m args below meth c H locs cells slots Q (F0 m pc ls (.int (iI b) :: .int (iI a) :: rest)) := lv_iadd hx hb hd (by rw [iI_add, hz]; exact k)
theorem w_isub (hx : p.tables.exec = Jvm.exec) (hb : c.code = cc) {a b z : Int} (hd : decode cc pc = .ok (.isub, 1)) (hz : a - b = z)
    (k : W p l e R s m args below meth c H locs cells slots Q (F0 m (pc + 1) ls (.int (iI z) :: rest))) : W p l e R s m args below meth c H locs cells slots Q (F0 m pc ls (.int (iI b) :: .int (iI a) :: rest)) := lv_isub hx hb hd (by rw [iI_sub, hz]; exact k)
theorem w_imul (hx : p.tables.exec = Jvm.exec) (hb : c.code = cc) {a b z : Int} (hd : decode cc pc = .ok (.imul, 1)) (hz : a * b = z)
    (k : W p l e R s m args below meth c H locs cells slots Q (F0 m (pc + 1) ls (.int (iI z) :: rest))) : W p l e R s m args below meth c H locs cells slots Q (F0 m pc ls (.int (iI b) :: .int (iI a) :: rest)) := lv_imul hx hb hd (by rw [iI_mul, hz]; exact k)
theorem w_ineg (hx : p.tables.exec = Jvm.exec) (hb : c.code = cc) {a z : Int} (hd : decode cc pc = .ok (.ineg, 1)) (hz : -a = z)
    (k : W p l e R s m args below meth c H locs cells slots Q (F0 m (pc + 1) ls (.int (iI z) :: rest))) : W p l e R s m args below meth c H locs cells slots Q (F0 m pc ls (.int (iI a) :: rest)) := lv_ineg hx hb hd (by rw [iI_neg, hz]; exact k)
theorem w_icmp_ge (hx : p.tables.exec = Jvm.exec) (hb : c.code = cc) {a b : Int} {off : Int} {tgt : Nat} (hd : decode cc pc = .ok (.if_icmp .ge off, 3)) (ht : (pc : Int) + off = (tgt : Int)) (ra : rg a) (rb : rg b)
    (kt : b ≤ a → W p l e R s m args below meth c H locs cells slots Q (F0 m tgt ls rest)) (kf : a < b → W p l e R s m args below meth c H locs cells slots Q (F0 m (pc + 3) ls rest)) : W p l e R s m args below meth c H locs cells slots Q (F0 m pc ls (.int (iI b) :: .int (iI a) :: rest)) :=
  lv_icmp_ge hx hb hd ht (fun h => kt ((iI_le rb ra).mp h)) (fun h => kf (by have := mt (iI_le rb ra).mpr h; omega))
theorem w_icmp_gt (hx : p.tables.exec = Jvm.exec) (hb : c.code = cc) {a b : Int} {off : Int} {tgt : Nat} (hd : decode cc pc = .ok (.if_icmp .gt off, 3)) (ht : (pc : Int) + off = (tgt : Int)) (ra : rg a) (rb : rg b)
    (kt : b < a → W p l e R s m args below meth c H locs cells slots Q (F0 m tgt ls rest)) (kf : a ≤ b → W p l e R s m args below meth c H locs cells slots Q (F0 m (pc + 3) ls rest)) : W p l e R s m args below meth c H locs cells slots Q (F0 m pc ls (.int (iI b) :: .int (iI a) :: rest)) :=
  lv_icmp_gt hx hb hd ht (fun h => kt ((iI_lt rb ra).mp h)) (fun h => kf (by have := mt (iI_lt rb ra).mpr h; omega))
theorem w_icmp_le (hx : p.tables.exec = Jvm.exec) (hb : c.code = cc) {a b : Int} {off : Int} {tgt : Nat} (hd : decode cc pc = .ok (.if_icmp .le off, 3)) (ht : (pc : Int) + off = (tgt : Int)) (ra : rg a) (rb : rg b)
    (kt : a ≤ b → W p l e R s m args below meth c H locs cells slots Q (F0 m tgt ls rest)) (kf : b < a → W p l e R s m args below meth c H locs cells slots Q (F0 m (pc + 3) ls rest)) : W p l e R s m args below meth c H locs cells slots Q (F0 m pc ls (.int (iI b) :: .int (iI a) :: rest)) :=
  lv_icmp_le hx hb hd ht (fun h => kt ((iI_le ra rb).mp h)) (fun h => kf (by have := mt (iI_le ra rb).mpr h; omega))
theorem w_icmp_lt (hx : p.tables.exec = Jvm.exec) (hb : c.code = cc) {a b : Int} {off : Int} {tgt : Nat} (hd : decode cc pc = .ok (.if_icmp .lt off, 3)) (ht : (pc : Int) + off = (tgt : Int)) (ra : rg a) (rb : rg b)
    (kt : a < b → W p l e R s m args below meth c H locs cells slots Q (F0 m tgt ls rest)) (kf : b ≤ a → W p l e R s m args below meth c H locs cells slots Q (F0 m (pc + 3) ls rest)) : W p l e R s m args below meth c H locs cells slots Q (F0 m pc ls (.int (iI b) :: .int (iI a) :: rest)) :=
  lv_icmp_lt hx hb hd ht (fun h => kt ((iI_lt ra rb).mp h)) (fun h => kf (by have := mt (iI_lt ra rb).mpr h; omega))
theorem w_icmp_eq (hx : p.tables.exec = Jvm.exec) (hb : c.code = cc) {a b : Int} {off : Int} {tgt : Nat} (hd : decode cc pc = .ok (.if_icmp .eq off, 3)) (ht : (pc : Int) + off = (tgt : Int)) (ra : rg a) (rb : rg b)
    (kt : a = b → W p l e R s m args below meth c H locs cells slots Q (F0 m tgt ls rest)) (kf : a ≠ b → W p l e R s m args below meth c H locs cells slots Q (F0 m (pc + 3) ls rest)) : W p l e R s m args below meth c H locs cells slots Q (F0 m pc ls (.int (iI b) :: .int (iI a) :: rest)) :=
  lv_icmp_eq hx hb hd ht (fun h => kt ((iI_eq ra rb).mp h)) (fun h => kf (fun q => h (by rw [q])))
theorem w_icmp_ne (hx : p.tables.exec = Jvm.exec) (hb : c.code = cc) {a b : Int} {off : Int} {tgt : Nat} (hd : decode cc pc = .ok (.if_icmp .ne off, 3)) (ht : (pc : Int) + off = (tgt : Int)) (ra : rg a) (rb : rg b)
    (kt : a ≠ b → W p l e R s m args below meth c H locs cells slots Q (F0 m tgt ls rest)) (kf : a = b → W p l e R s m args below meth c H locs cells slots Q (F0 m (pc + 3) ls rest)) : W p l e R s m args below meth c H locs cells slots Q (F0 m pc ls (.int (iI b) :: .int (iI a) :: rest)) :=
  lv_icmp_ne hx hb hd ht (fun h => kt (fun q => h (by rw [q]))) (fun h => kf ((iI_eq ra rb).mp h))
theorem w_if_ge (hx : p.tables.exec = Jvm.exec) (hb : c.code = cc) {a : Int} {off : Int} {tgt : Nat} (hd : decode cc pc = .ok (.ifCond .ge off, 3)) (ht : (pc : Int) + off = (tgt : Int)) (ra : rg a)
    (kt : 0 ≤ a → W p l e R s m args below meth c H locs cells slots Q (F0 m tgt ls rest)) (kf : a < 0 → W p l e R s m args below meth c H locs cells slots Q (F0 m (pc + 3) ls rest)) : W p l e R s m args below meth c H locs cells slots Q (F0 m pc ls (.int (iI a) :: rest)) :=
  lv_if_ge hx hb hd ht (fun h => kt ((iI_le (a := 0) ⟨by omega, by omega⟩ ra).mp h)) (fun h => kf (by have := mt (iI_le (a := 0) ⟨by omega, by omega⟩ ra).mpr h; omega))
theorem w_if_gt (hx : p.tables.exec = Jvm.exec) (hb : c.code = cc) {a : Int} {off : Int} {tgt : Nat} (hd : decode cc pc = .ok (.ifCond .gt off, 3)) (ht : (pc : Int) + off = (tgt : Int)) (ra : rg a)
    (kt : 0 < a → W p l e R s m args below meth c H locs cells slots Q (F0 m tgt ls rest)) (kf : a ≤ 0 → W p l e R s m args below meth c H locs cells slots Q (F0 m (pc + 3) ls rest)) : W p l e R s m args below meth c H locs cells slots Q (F0 m pc ls (.int (iI a) :: rest)) :=
  lv_if_gt hx hb hd ht (fun h => kt ((iI_lt (a := 0) ⟨by omega, by omega⟩ ra).mp h)) (fun h => kf (by have := mt (iI_lt (a := 0) ⟨by omega, by omega⟩ ra).mpr h; omega))
theorem w_if_le (hx : p.tables.exec = Jvm.exec) (hb : c.code = cc) {a : Int} {off : Int} {tgt : Nat} (hd : decode cc pc = .ok (.ifCond .le off, 3)) (ht : (pc : Int) + off = (tgt : Int)) (ra : rg a)
    (kt : a ≤ 0 → W p l e R s m args below meth c H locs cells slots Q (F0 m tgt ls rest)) (kf : 0 < a → W p l e R s m args below meth c H locs cells slots Q (F0 m (pc + 3) ls rest)) : W p l e R s m args below meth c H locs cells slots Q (F0 m pc ls (.int (iI a) :: rest)) :=
  lv_if_le hx hb hd ht (fun h => kt ((iI_le (b := 0) ra ⟨by omega, by omega⟩).mp h)) (fun h => kf (by have := mt (iI_le (b := 0) ra ⟨by omega, by omega⟩).mpr h; omega))
theorem w_if_lt (hx : p.tables.exec = Jvm.exec) (hb : c.code = cc) {a : Int} {off : Int} {tgt : Nat} (hd : decode cc pc = .ok (.ifCond .lt off, 3)) (ht : (pc : Int) + off = (tgt : Int)) (ra : rg a)
    (kt : a < 0 → W p l e R s m args below meth c H locs cells slots Q (F0 m tgt ls rest)) (kf : 0 ≤ a → W p l e R s m args below meth c H locs cells slots Q (F0 m (pc + 3) ls rest)) : W p l e R s m args below meth c H locs cells slots Q (F0 m pc ls (.int (iI a) :: rest)) :=
  lv_if_lt hx hb hd ht (fun h => kt ((iI_lt (b := 0) ra ⟨by omega, by omega⟩).mp h)) (fun h => kf (by have := mt (iI_lt (b := 0) ra ⟨by omega, by omega⟩).mpr h; omega))
theorem w_if_eq (hx : p.tables.exec = Jvm.exec) (hb : c.code = cc) {a : Int} {off : Int} {tgt : Nat} (hd : decode cc pc = .ok (.ifCond .eq off, 3)) (ht : (pc : Int) + off = (tgt : Int)) (ra : rg a)
    (kt : a = 0 → W p l e R s m args below meth c H locs cells slots Q (F0 m tgt ls rest)) (kf : a ≠ 0 → W p l e R s m args below meth c H locs cells slots Q (F0 m (pc + 3) ls rest)) : W p l e R s m args below meth c H locs cells slots Q (F0 m pc ls (.int (iI a) :: rest)) :=
  lv_if_eq hx hb hd ht (fun h => kt ((iI_eq (b := 0) ra ⟨by omega, by omega⟩).mp h)) (fun h => kf (fun q => h (by rw [q]; rfl)))
theorem w_if_ne (hx : p.tables.exec = Jvm.exec) (hb : c.code = cc) {a : Int} {off : Int} {tgt : Nat} (hd : decode cc pc = .ok (.ifCond .ne off, 3)) (ht : (pc : Int) + off = (tgt : Int)) (ra : rg a)
    (kt : a ≠ 0 → W p l e R s m args below meth c H locs cells slots Q (F0 m tgt ls rest)) (kf : a = 0 → W p l e R s m args below meth c H locs cells slots Q (F0 m (pc + 3) ls rest)) : W p l e R s m args below meth c H locs cells slots Q (F0 m pc ls (.int (iI a) :: rest)) :=
  lv_if_ne hx hb hd ht (fun h => kt (fun q => h (by rw [q]; rfl))) (fun h => kf ((iI_eq (b := 0) ra ⟨by omega, by omega⟩).mp h))
end WK
end
section
section WK
variable {p : Program} {l : Launch} {e : Env} {R : Room} {s : State} {m : MethodId} {args : Array Value} {below : List Frame} {meth : Method} {c : Code} {H : Heap} {locs : List Loc} {cells slots : Nat} {Q : State → Prop}
variable {cc : ByteArray} {pc : Nat} {ls : Array Slot} {rest : List Value}
variable {D : va_G} {cl : List vw_C} {tys : List (ClassId × FieldType)} {ws : va_W} {A : Nat → Prop} {H0 : Heap} {a0 : Nat}
/-- a place of an int array is read -/
theorem w_iald (hx : p.tables.exec = Jvm.exec) (hb : c.code = cc) (hK : va_K D cl tys s) (hP : va_P D cl ws H) (q0 t0 : Nat) {cA : ClassId} {n : Nat} {f : Nat → Int32} (ha : ws[q0]? = some (a0, .inl (cA, n, .inl f))) (ht : tys[t0]? = some (cA, .int)) {z : Int} (k : Nat) {v : Int32} (hz : z = (k : Int)) (hk : k < n) (hn : n ≤ 2147483648) (hv : f k = v) (hd : decode cc pc = .ok (.iaload, 1))
    (kk : W p l e R s m args below meth c H locs cells slots Q (F0 m (pc + 1) ls (.int v :: rest))) : W p l e R s m args below meth c H locs cells slots Q (F0 m pc ls (.int (iI z) :: .ref a0 :: rest)) :=
  va_iald hx hb hK hP q0 t0 ha ht (iI_in hz hk hn) hd (by rw [iI_cl hz (by omega), hv]; exact kk)
theorem w_zald (hx : p.tables.exec = Jvm.exec) (hb : c.code = cc) (hK : va_K D cl tys s) (hP : va_P D cl ws H) (q0 t0 : Nat) {cA : ClassId} {n : Nat} {f : Nat → Int32} (ha : ws[q0]? = some (a0, .inl (cA, n, .inl f))) (ht : tys[t0]? = some (cA, .boolean)) {z : Int} (k : Nat) {v : Int32} (hz : z = (k : Int)) (hk : k < n) (hn : n ≤ 2147483648) (hv : f k = v) (hd : decode cc pc = .ok (.baload, 1))
    (kk : W p l e R s m args below meth c H locs cells slots Q (F0 m (pc + 1) ls (.int v :: rest))) : W p l e R s m args below meth c H locs cells slots Q (F0 m pc ls (.int (iI z) :: .ref a0 :: rest)) :=
  va_zald hx hb hK hP q0 t0 ha ht (iI_in hz hk hn) hd (by rw [iI_cl hz (by omega), hv]; exact kk)
/-- a place of an int array is written; ws' names the world behind it -/
theorem w_iast (hx : p.tables.exec = Jvm.exec) (hb : c.code = cc) (hK : va_K D cl tys s) (hP : va_P D cl ws H) (hD : va_D A ws) (hS : va_S A H0 H locs) (q0 t0 : Nat) {cA : ClassId} {n : Nat} {f : Nat → Int32} (ha : ws[q0]? = some (a0, .inl (cA, n, .inl f))) (ht : tys[t0]? = some (cA, .int)) {z : Int} {x : Int32} (k : Nat) (hz : z = (k : Int)) (hk : k < n) (hn : n ≤ 2147483648) (g : Nat → Int32) (hg : upd f k x = g) (ws' : va_W) (hw : ws.set q0 (a0, .inl (cA, n, .inl g)) = ws') (hd : decode cc pc = .ok (.iastore, 1))
    (kk : ∀ (H1 : Heap) (locs1 : List Loc), va_P D cl ws' H1 → va_D A ws' → va_S A H0 H1 locs1 → W p l e R s m args below meth c H1 locs1 cells slots Q (F0 m (pc + 1) ls rest)) : W p l e R s m args below meth c H locs cells slots Q (F0 m pc ls (.int x :: .int (iI z) :: .ref a0 :: rest)) :=
  va_iast hx hb hK hP hD hS q0 t0 ha ht (iI_in hz hk hn) hd (fun H1 locs1 h1 h2 h3 => by
    rw [iI_cl hz (by omega), hg, hw] at h1 h2
    exact kk H1 locs1 h1 h2 h3)
theorem w_zast (hx : p.tables.exec = Jvm.exec) (hb : c.code = cc) (hK : va_K D cl tys s) (hP : va_P D cl ws H) (hD : va_D A ws) (hS : va_S A H0 H locs) (q0 t0 : Nat) {cA : ClassId} {n : Nat} {f : Nat → Int32} (ha : ws[q0]? = some (a0, .inl (cA, n, .inl f))) (ht : tys[t0]? = some (cA, .boolean)) {z : Int} {x : Int32} (k : Nat) (hz : z = (k : Int)) (hk : k < n) (hn : n ≤ 2147483648) (hx1 : vp_nar .boolean x = x) (g : Nat → Int32) (hg : upd f k x = g) (ws' : va_W) (hw : ws.set q0 (a0, .inl (cA, n, .inl g)) = ws') (hd : decode cc pc = .ok (.bastore, 1))
    (kk : ∀ (H1 : Heap) (locs1 : List Loc), va_P D cl ws' H1 → va_D A ws' → va_S A H0 H1 locs1 → W p l e R s m args below meth c H1 locs1 cells slots Q (F0 m (pc + 1) ls rest)) : W p l e R s m args below meth c H locs cells slots Q (F0 m pc ls (.int x :: .int (iI z) :: .ref a0 :: rest)) :=
  va_zast hx hb hK hP hD hS q0 t0 ha ht (iI_in hz hk hn) hd (fun H1 locs1 h1 h2 h3 => by
    rw [iI_cl hz (by omega), hx1, hg, hw] at h1 h2
    exact kk H1 locs1 h1 h2 h3)
end WK
end
section
/-! contracts: PM reads its world alone; IM changes cells of its world in place -/
def PM (l : Launch) (y : MethodName) (wd : List Cond) (rm : Room) (D : va_G) (tys : List (ClassId × FieldType)) (ws : va_W) (av : List Value) (Qc : Array Value → State → Outcome → State → Prop) : Prop :=
  Met l y wd rm (va_Pc av (fun U => va_P D vwCl ws U.heap ∧ va_K D vwCl tys U)) Qc 0 0 (fun _ => False)
def IM (l : Launch) (y : MethodName) (wd : List Cond) (rm : Room) (D : va_G) (tys : List (ClassId × FieldType)) (ws : va_W) (av : List Value) (Qc : (Nat → Prop) → Array Value → State → Outcome → State → Prop) : Prop :=
  ∀ sz : Nat, Met l y wd rm (va_Pc av (fun U => U.heap.size = sz ∧ va_P D vwCl ws U.heap ∧ va_K D vwCl tys U ∧ va_D (fun _ => True) ws)) (Qc (va_A ws sz)) 0 0 (va_A ws sz)
def BI {S : Type} (D : va_G) (tys : List (ClassId × FieldType)) (out : S → va_W) (A : Nat → Prop) : S → State → Prop := fun u t => va_P D vwCl (out u) t.heap ∧ va_K D vwCl tys t ∧ va_D A (out u)
def QI {S : Type} (D : va_G) (tys : List (ClassId × FieldType)) (out : S → va_W) (post : Int32 → S → Prop) : (Nat → Prop) → Array Value → State → Outcome → State → Prop := fun A => va_Qi post (BI D tys out A) A
def QV {S : Type} (D : va_G) (tys : List (ClassId × FieldType)) (out : S → va_W) (post : S → Prop) : (Nat → Prop) → Array Value → State → Outcome → State → Prop := fun A => va_Qv post (BI D tys out A) A
def QD {S : Type} (D : va_G) (tys : List (ClassId × FieldType)) (out : S → va_W) (post : UInt64 → S → Prop) : (Nat → Prop) → Array Value → State → Outcome → State → Prop := fun A => va_Qd post (BI D tys out A) A
def rmx (f lo : Nat) : Room := { frames := f, cells := 0, slots := 0, locals := lo }
theorem pm_of {l : Launch} {y : MethodName} {wd wd' : List Cond} {rm : Room} {D : va_G} {tys : List (ClassId × FieldType)} {ws : va_W} {av : List Value} {Qc : Array Value → State → Outcome → State → Prop} {cc : ByteArray} {maxL : Nat} {ret : Option FieldType}
    (hy : plainName y.cls = true) (hw : wd = Cond.code y cc maxL ret :: wd') (hlen : (lg_sl av).length ≤ maxL)
    (body : ∀ (p : Program) (e : Env) (s : State) (m : MethodId) (args : Array Value) (below : List Frame) (meth : Method) (c : Code), p.tables.exec = Jvm.exec → c.code = cc → meth.sig.returnType = ret → c.maxLocals = maxL → meth.locks = false → s.vm.findClass y.cls = some m.cls → (∀ w ∈ wd, w.before args s = true) → va_K D vwCl tys s → va_P D vwCl ws s.heap →
      ∀ ls : Array Slot, lv_has ls maxL (lv_args 0 av) → W p l e rm s m args below meth c s.heap [] 0 0 (MQ below Qc args s 0 0 (fun _ => False)) (F0 m 0 ls [])) : PM l y wd rm D tys ws av Qc := by
  refine Met.ofW (cc := cc) (maxL := maxL) (ret := ret) hy hw ?_
  intro p e s m args below meth c s₁ B hml hv
  obtain ⟨rfl, hP, hK⟩ := hv
  have hl := lv_entry av (n := maxL) hlen
  rw [lg_entry_eq]
  exact body p e s m _ below meth c B.exec B.bytes B.returns hml B.notSynchronized (findClass_of_methodNamed B.named) (atoms_spec (ws := wd) B.pre) hK hP _ hl
theorem im_of {l : Launch} {y : MethodName} {wd wd' : List Cond} {rm : Room} {D : va_G} {tys : List (ClassId × FieldType)} {ws : va_W} {av : List Value} {Qc : (Nat → Prop) → Array Value → State → Outcome → State → Prop} {cc : ByteArray} {maxL : Nat} {ret : Option FieldType}
    (hy : plainName y.cls = true) (hw : wd = Cond.code y cc maxL ret :: wd') (hlen : (lg_sl av).length ≤ maxL)
    (body : ∀ (p : Program) (e : Env) (s : State) (m : MethodId) (args : Array Value) (below : List Frame) (meth : Method) (c : Code) (A : Nat → Prop), p.tables.exec = Jvm.exec → c.code = cc → meth.sig.returnType = ret → c.maxLocals = maxL → meth.locks = false → s.vm.findClass y.cls = some m.cls → (∀ w ∈ wd, w.before args s = true) → (∀ q : Nat, s.heap.size ≤ q → A q) → va_K D vwCl tys s → va_P D vwCl ws s.heap → va_D A ws → va_S A s.heap s.heap [] →
      ∀ ls : Array Slot, lv_has ls maxL (lv_args 0 av) → W p l e rm s m args below meth c s.heap [] 0 0 (MQ below (Qc A) args s 0 0 A) (F0 m 0 ls [])) : IM l y wd rm D tys ws av Qc := by
  intro sz
  refine Met.ofW (cc := cc) (maxL := maxL) (ret := ret) hy hw ?_
  intro p e s m args below meth c s₁ B hml hv
  obtain ⟨rfl, hsz, hP, hK, hD0⟩ := hv
  subst hsz
  have hl := lv_entry av (n := maxL) hlen
  rw [lg_entry_eq]
  exact body p e s m _ below meth c _ B.exec B.bytes B.returns hml B.notSynchronized (findClass_of_methodNamed B.named) (atoms_spec (ws := wd) B.pre) (fun q h => Or.inr h) hK hP (hD0.self (sz := s.heap.size)) va_S.rf _ hl
end
section
section WE
variable {p : Program} {l : Launch} {e : Env} {R : Room} {s : State} {m : MethodId} {args : Array Value} {below : List Frame} {meth : Method} {c : Code} {H : Heap} {locs : List Loc} {cells slots : Nat} {Q : State → Prop}
variable {cc : ByteArray} {pc : Nat} {ls : Array Slot} {rest st0 : List Value} {D : va_G} {tys : List (ClassId × FieldType)} {ws : va_W} {A : Nat → Prop}
theorem w_iretP {post : Int32 → Prop} {v : Int32} (hx : p.tables.exec = Jvm.exec) (hb : c.code = cc) (hr : meth.sig.returnType = some .int) (hlocks : meth.locks = false) (hv : post v) (hd : decode cc pc = .ok (.ireturn, 1)) :
    W p l e R s m args below meth c s.heap [] 0 0 (MQ below (vp_Si post) args s 0 0 (fun _ => False)) (F0 m pc ls [.int v]) :=
  W.iret (v := v) hx hb hr (fun t ht hW => ⟨v, rfl, hv, ht⟩) (fun q hq => absurd hq List.not_mem_nil) hd
theorem w_zretP {post : Int32 → Prop} {v : Int32} (hx : p.tables.exec = Jvm.exec) (hb : c.code = cc) (hr : meth.sig.returnType = some .boolean) (hlocks : meth.locks = false) (hn : narrow .boolean (.int v) = .int v) (hv : post v) (hd : decode cc pc = .ok (.ireturn, 1)) :
    W p l e R s m args below meth c s.heap [] 0 0 (MQ below (vp_Si post) args s 0 0 (fun _ => False)) (F0 m pc ls [.int v]) :=
  W.zret (v := v) hx hb hr hn (fun t ht hW => ⟨v, rfl, hv, ht⟩) (fun q hq => absurd hq List.not_mem_nil) hd
theorem w_vretP {post : Unit → Prop} (hx : p.tables.exec = Jvm.exec) (hb : c.code = cc) (hr : meth.sig.returnType = none) (hlocks : meth.locks = false) (hv : post ()) (hd : decode cc pc = .ok (.return_, 1)) :
    W p l e R s m args below meth c s.heap [] 0 0 (MQ below (va_Sv post) args s 0 0 (fun _ => False)) (F0 m pc ls []) :=
  W.vret hx hb hr (fun t ht hW => ⟨rfl, hv, ht⟩) (fun q hq => absurd hq List.not_mem_nil) hd
variable {S : Type} {out : S → va_W}
theorem w_iret {post : Int32 → S → Prop} {v : Int32} (u : S) (hx : p.tables.exec = Jvm.exec) (hb : c.code = cc) (hr : meth.sig.returnType = some .int) (hlocks : meth.locks = false) (hK : va_K D vwCl tys s) (hP : va_P D vwCl (out u) H) (hD : va_D A (out u)) (hS : va_S A s.heap H locs) (hv : post v u) (hd : decode cc pc = .ok (.ireturn, 1)) :
    W p l e R s m args below meth c H locs 0 0 (MQ below (QI D tys out post A) args s 0 0 A) (F0 m pc ls [.int v]) :=
  W.iret (v := v) hx hb hr (fun t ht hW => ⟨⟨v, u, rfl, hv, by rw [ht]; exact hP, va_K.moved hW.alike hK, hD⟩, hS.F ht⟩) hS.2.2 hd
theorem w_zret {post : Int32 → S → Prop} {v : Int32} (u : S) (hx : p.tables.exec = Jvm.exec) (hb : c.code = cc) (hr : meth.sig.returnType = some .boolean) (hlocks : meth.locks = false) (hn : narrow .boolean (.int v) = .int v) (hK : va_K D vwCl tys s) (hP : va_P D vwCl (out u) H) (hD : va_D A (out u)) (hS : va_S A s.heap H locs) (hv : post v u) (hd : decode cc pc = .ok (.ireturn, 1)) :
    W p l e R s m args below meth c H locs 0 0 (MQ below (QI D tys out post A) args s 0 0 A) (F0 m pc ls [.int v]) :=
  W.zret (v := v) hx hb hr hn (fun t ht hW => ⟨⟨v, u, rfl, hv, by rw [ht]; exact hP, va_K.moved hW.alike hK, hD⟩, hS.F ht⟩) hS.2.2 hd
theorem w_vret {post : S → Prop} (u : S) (hx : p.tables.exec = Jvm.exec) (hb : c.code = cc) (hr : meth.sig.returnType = none) (hlocks : meth.locks = false) (hK : va_K D vwCl tys s) (hP : va_P D vwCl (out u) H) (hD : va_D A (out u)) (hS : va_S A s.heap H locs) (hv : post u) (hd : decode cc pc = .ok (.return_, 1)) :
    W p l e R s m args below meth c H locs 0 0 (MQ below (QV D tys out post A) args s 0 0 A) (F0 m pc ls []) :=
  W.vret hx hb hr (fun t ht hW => ⟨⟨u, rfl, hv, by rw [ht]; exact hP, va_K.moved hW.alike hK, hD⟩, hS.F ht⟩) hS.2.2 hd
theorem w_dret {post : UInt64 → S → Prop} {v : UInt64} (u : S) (hx : p.tables.exec = Jvm.exec) (hb : c.code = cc) (hr : meth.sig.returnType = some .double) (hlocks : meth.locks = false) (hK : va_K D vwCl tys s) (hP : va_P D vwCl (out u) H) (hD : va_D A (out u)) (hS : va_S A s.heap H locs) (hv : post v u) (hd : decode cc pc = .ok (.dreturn, 1)) :
    W p l e R s m args below meth c H locs 0 0 (MQ below (QD D tys out post A) args s 0 0 A) (F0 m pc ls [.double v]) :=
  W.dret (v := v) hx hb hr (fun t ht hW => ⟨⟨v, u, rfl, hv, by rw [ht]; exact hP, va_K.moved hW.alike hK, hD⟩, hS.F ht⟩) hS.2.2 hd
end WE
end
section
section WE
variable {p : Program} {l : Launch} {e : Env} {R : Room} {s : State} {m : MethodId} {args : Array Value} {below : List Frame} {meth : Method} {c : Code} {H : Heap} {locs : List Loc} {cells slots : Nat} {Q : State → Prop}
variable {cc : ByteArray} {pc : Nat} {ls : Array Slot} {rest st0 : List Value} {D : va_G} {tys : List (ClassId × FieldType)} {ws : va_W} {A : Nat → Prop}
variable {S : Type} {out : S → va_W}
variable {y : MethodName} {bytes : ByteArray} {maxL nL n index : Nat} {ret : Option FieldType} {wd Ts : List Cond} {rm : Room} {own C : String} {b : Addr} {As : List Value}
theorem pm_blind {av : List Value} : FrameBlind (va_Pc av (fun U => va_P D vwCl ws U.heap ∧ va_K D vwCl tys U)) := fun a U g mk q => ⟨q.1, q.2.1, va_K.moved (u := U) (U := U.calling g mk a) (Vm.Alike.refl U.vm) q.2.2⟩
theorem im_blind {av : List Value} {sz : Nat} {wc : va_W} : FrameBlind (va_Pc av (fun U => U.heap.size = sz ∧ va_P D vwCl wc U.heap ∧ va_K D vwCl tys U ∧ va_D (fun _ => True) wc)) := fun a U g mk q => ⟨q.1, q.2.1, q.2.2.1, va_K.moved (u := U) (U := U.calling g mk a) (Vm.Alike.refl U.vm) q.2.2.2.1, q.2.2.2.2⟩
/-- calls of what only reads: the callee's world is the caller's -/
theorem w_pV {post : Int32 → Prop} (S9 : CallFix p m c cc nL s args Ts own) (hK : va_K D vwCl tys s) (hP : va_P D vwCl ws H) (hM : PM l y wd rm D tys ws (.ref b :: As) (vp_Si post)) (cw : CallW R s args own C index y bytes maxL ret wd rm 0 0 n) {ci : Nat} {q : vw_C} {fs : List Value} (hc : vwCl[ci]? = some q) (he : ws[0]? = some (b, .inr (ci, fs))) (hC : q.1 = C) (hn : As.length = n) (hsz : ls.size = nL) (hst : st0 = As.reverse ++ .ref b :: rest) (hro : (rest.map fun v => v.category).sum ≤ 8) (hd : decode cc pc = .ok (.invokevirtual index, 3)) (hf : cells ≤ R.cells ∧ slots ≤ R.slots)
    (kk : ∀ r : Int32, post r → W p l e R s m args below meth c H locs cells slots Q (F0 m (pc + 3) ls (.int r :: rest))) : W p l e R s m args below meth c H locs cells slots Q (F0 m pc ls st0) := by
  subst hC
  exact vp_callSi (W.runV (g := F0 m pc ls st0) (As := As) (rest := rest) S9 hM cw ⟨pm_blind, va_recv hK hP hc he, fun U hU hW => ⟨rfl, by rw [hU]; exact hP, va_K.moved hW.alike hK⟩⟩ rfl hn hsz hst (lv_room hro) hd hf) kk
theorem w_pVv {post : Unit → Prop} (S9 : CallFix p m c cc nL s args Ts own) (hK : va_K D vwCl tys s) (hP : va_P D vwCl ws H) (hM : PM l y wd rm D tys ws (.ref b :: As) (va_Sv post)) (cw : CallW R s args own C index y bytes maxL ret wd rm 0 0 n) {ci : Nat} {q : vw_C} {fs : List Value} (hc : vwCl[ci]? = some q) (he : ws[0]? = some (b, .inr (ci, fs))) (hC : q.1 = C) (hn : As.length = n) (hsz : ls.size = nL) (hst : st0 = As.reverse ++ .ref b :: rest) (hro : (rest.map fun v => v.category).sum ≤ 8) (hd : decode cc pc = .ok (.invokevirtual index, 3)) (hf : cells ≤ R.cells ∧ slots ≤ R.slots)
    (kk : post () → W p l e R s m args below meth c H locs cells slots Q (F0 m (pc + 3) ls rest)) : W p l e R s m args below meth c H locs cells slots Q (F0 m pc ls st0) := by
  subst hC
  exact va_csv (W.runV (g := F0 m pc ls st0) (As := As) (rest := rest) S9 hM cw ⟨pm_blind, va_recv hK hP hc he, fun U hU hW => ⟨rfl, by rw [hU]; exact hP, va_K.moved hW.alike hK⟩⟩ rfl hn hsz hst (lv_room hro) hd hf) kk
theorem w_pS {post : Int32 → Prop} (S9 : CallFix p m c cc nL s args Ts own) (hK : va_K D vwCl tys s) (hP : va_P D vwCl ws H) (hM : PM l y wd rm D tys ws As (vp_Si post)) (cw : CallB R s args own index y bytes maxL ret wd rm 0 0 n ∧ (Cond.static y).before args s = true) (hn : As.length = n) (hsz : ls.size = nL) (hst : st0 = As.reverse ++ rest) (hro : (rest.map fun v => v.category).sum ≤ 8) (hd : decode cc pc = .ok (.invokestatic index, 3)) (hf : cells ≤ R.cells ∧ slots ≤ R.slots)
    (kk : ∀ r : Int32, post r → W p l e R s m args below meth c H locs cells slots Q (F0 m (pc + 3) ls (.int r :: rest))) : W p l e R s m args below meth c H locs cells slots Q (F0 m pc ls st0) :=
  vp_callSi (W.runS (g := F0 m pc ls st0) (As := As) (rest := rest) S9 hM cw ⟨pm_blind, fun U hU hW => ⟨rfl, by rw [hU]; exact hP, va_K.moved hW.alike hK⟩⟩ rfl hn hsz hst (lv_room hro) hd hf) kk
theorem w_pSv {post : Unit → Prop} (S9 : CallFix p m c cc nL s args Ts own) (hK : va_K D vwCl tys s) (hP : va_P D vwCl ws H) (hM : PM l y wd rm D tys ws As (va_Sv post)) (cw : CallB R s args own index y bytes maxL ret wd rm 0 0 n ∧ (Cond.static y).before args s = true) (hn : As.length = n) (hsz : ls.size = nL) (hst : st0 = As.reverse ++ rest) (hro : (rest.map fun v => v.category).sum ≤ 8) (hd : decode cc pc = .ok (.invokestatic index, 3)) (hf : cells ≤ R.cells ∧ slots ≤ R.slots)
    (kk : post () → W p l e R s m args below meth c H locs cells slots Q (F0 m (pc + 3) ls rest)) : W p l e R s m args below meth c H locs cells slots Q (F0 m pc ls st0) :=
  va_csv (W.runS (g := F0 m pc ls st0) (As := As) (rest := rest) S9 hM cw ⟨pm_blind, fun U hU hW => ⟨rfl, by rw [hU]; exact hP, va_K.moved hW.alike hK⟩⟩ rfl hn hsz hst (lv_room hro) hd hf) kk
theorem w_fm {α β : Type} {f : α → Option β} {is : List α} {w : List β} (h : is.map f = w.map some) : is.filterMap f = w := by
  have h2 : (is.map f).filterMap id = (w.map some).filterMap id := by rw [h]
  rw [List.filterMap_map, List.filterMap_map] at h2
  simpa using h2
/-- calls of what changes its world: the callee's world wc at the places isC of the caller's, the rest wr at isR; wf names the caller's world behind it, by its places in wr ++ out -/
theorem w_iV {post : Int32 → S → Prop} {wc wr : va_W} (S9 : CallFix p m c cc nL s args Ts own) (hK : va_K D vwCl tys s) (hP : va_P D vwCl ws H) (hD : va_D A ws) (hS : va_S A s.heap H locs) (hA : ∀ q : Nat, s.heap.size ≤ q → A q) (hM : IM l y wd rm D tys wc (.ref b :: As) (QI D tys out post)) (cw : CallW R s args own C index y bytes maxL ret wd rm 0 0 n)
    (isC isR pf : List Nat) (hC1 : isC.map (fun i => ws[i]?) = wc.map some) (hR1 : isR.map (fun i => ws[i]?) = wr.map some) (hn1 : va_nd isR = true) (hn2 : va_nd isC = true) (hdis : ∀ i ∈ isR, i ∉ isC) (wf : S → va_W) (hwf : ∀ u, pf.map (fun i => (wr ++ out u)[i]?) = (wf u).map some) (hn3 : va_nd pf = true)
    {ci : Nat} {q : vw_C} {fs : List Value} (hc : vwCl[ci]? = some q) (he : wc[0]? = some (b, .inr (ci, fs))) (hC : q.1 = C) (hn : As.length = n) (hsz : ls.size = nL) (hst : st0 = As.reverse ++ .ref b :: rest) (hro : (rest.map fun v => v.category).sum ≤ 8) (hd : decode cc pc = .ok (.invokevirtual index, 3)) (hf : cells ≤ R.cells ∧ slots ≤ R.slots)
    (kk : ∀ (r : Int32) (u : S) (H1 : Heap) (locs1 : List Loc), post r u → va_P D vwCl (wf u) H1 → va_D A (wf u) → va_S A s.heap H1 locs1 → W p l e R s m args below meth c H1 locs1 cells slots Q (F0 m (pc + 3) ls (.int r :: rest))) : W p l e R s m args below meth c H locs cells slots Q (F0 m pc ls st0) := by
  subst hC
  have hPc : va_P D vwCl wc H := hP.sub isC (w_fm hC1)
  have hDc : va_D (fun _ => True) wc := (hD.sub isC hn2 hC1).weaken (fun _ _ _ _ => trivial)
  have hFc := va_free (wc := wc) hD hS hA isC hC1
  refine va_calli (va_runV (g := F0 m pc ls st0) (As := As) (rest := rest) S9 (hM H.size) cw ⟨im_blind, va_recv hK hPc hc he, fun U hU hW => ⟨rfl, by rw [hU], by rw [hU]; exact hPc, va_K.moved hW.alike hK, hDc⟩⟩ rfl hn hsz hst (lv_room hro) hd hf) hS (fun q _ h => hFc q h) hFc (fun r u t H1 locs1 ht hvm hw hB hz1 hk1 hS1 => ?_)
  obtain ⟨hP1, hK1, hD1⟩ := hB
  rw [ht] at hP1
  obtain ⟨hP2, hD2⟩ := va_join (wr := wr) (w1 := out u) hP hD isC isR hC1 hR1 hn1 hdis hk1 hFc hP1 hD1
  exact kk r u H1 locs1 hw (hP2.sub pf (w_fm (hwf u))) (hD2.sub pf hn3 (hwf u)) hS1
theorem w_iVv {post : S → Prop} {wc wr : va_W} (S9 : CallFix p m c cc nL s args Ts own) (hK : va_K D vwCl tys s) (hP : va_P D vwCl ws H) (hD : va_D A ws) (hS : va_S A s.heap H locs) (hA : ∀ q : Nat, s.heap.size ≤ q → A q) (hM : IM l y wd rm D tys wc (.ref b :: As) (QV D tys out post)) (cw : CallW R s args own C index y bytes maxL ret wd rm 0 0 n)
    (isC isR pf : List Nat) (hC1 : isC.map (fun i => ws[i]?) = wc.map some) (hR1 : isR.map (fun i => ws[i]?) = wr.map some) (hn1 : va_nd isR = true) (hn2 : va_nd isC = true) (hdis : ∀ i ∈ isR, i ∉ isC) (wf : S → va_W) (hwf : ∀ u, pf.map (fun i => (wr ++ out u)[i]?) = (wf u).map some) (hn3 : va_nd pf = true)
    {ci : Nat} {q : vw_C} {fs : List Value} (hc : vwCl[ci]? = some q) (he : wc[0]? = some (b, .inr (ci, fs))) (hC : q.1 = C) (hn : As.length = n) (hsz : ls.size = nL) (hst : st0 = As.reverse ++ .ref b :: rest) (hro : (rest.map fun v => v.category).sum ≤ 8) (hd : decode cc pc = .ok (.invokevirtual index, 3)) (hf : cells ≤ R.cells ∧ slots ≤ R.slots)
    (kk : ∀ (u : S) (H1 : Heap) (locs1 : List Loc), post u → va_P D vwCl (wf u) H1 → va_D A (wf u) → va_S A s.heap H1 locs1 → W p l e R s m args below meth c H1 locs1 cells slots Q (F0 m (pc + 3) ls rest)) : W p l e R s m args below meth c H locs cells slots Q (F0 m pc ls st0) := by
  subst hC
  have hPc : va_P D vwCl wc H := hP.sub isC (w_fm hC1)
  have hDc : va_D (fun _ => True) wc := (hD.sub isC hn2 hC1).weaken (fun _ _ _ _ => trivial)
  have hFc := va_free (wc := wc) hD hS hA isC hC1
  refine va_callv (va_runV (g := F0 m pc ls st0) (As := As) (rest := rest) S9 (hM H.size) cw ⟨im_blind, va_recv hK hPc hc he, fun U hU hW => ⟨rfl, by rw [hU], by rw [hU]; exact hPc, va_K.moved hW.alike hK, hDc⟩⟩ rfl hn hsz hst (lv_room hro) hd hf) hS (fun q _ h => hFc q h) hFc (fun u t H1 locs1 ht hvm hw hB hz1 hk1 hS1 => ?_)
  obtain ⟨hP1, hK1, hD1⟩ := hB
  rw [ht] at hP1
  obtain ⟨hP2, hD2⟩ := va_join (wr := wr) (w1 := out u) hP hD isC isR hC1 hR1 hn1 hdis hk1 hFc hP1 hD1
  exact kk u H1 locs1 hw (hP2.sub pf (w_fm (hwf u))) (hD2.sub pf hn3 (hwf u)) hS1
theorem w_iVd {post : UInt64 → S → Prop} {wc wr : va_W} (S9 : CallFix p m c cc nL s args Ts own) (hK : va_K D vwCl tys s) (hP : va_P D vwCl ws H) (hD : va_D A ws) (hS : va_S A s.heap H locs) (hA : ∀ q : Nat, s.heap.size ≤ q → A q) (hM : IM l y wd rm D tys wc (.ref b :: As) (QD D tys out post)) (cw : CallW R s args own C index y bytes maxL ret wd rm 0 0 n)
    (isC isR pf : List Nat) (hC1 : isC.map (fun i => ws[i]?) = wc.map some) (hR1 : isR.map (fun i => ws[i]?) = wr.map some) (hn1 : va_nd isR = true) (hn2 : va_nd isC = true) (hdis : ∀ i ∈ isR, i ∉ isC) (wf : S → va_W) (hwf : ∀ u, pf.map (fun i => (wr ++ out u)[i]?) = (wf u).map some) (hn3 : va_nd pf = true)
    {ci : Nat} {q : vw_C} {fs : List Value} (hc : vwCl[ci]? = some q) (he : wc[0]? = some (b, .inr (ci, fs))) (hC : q.1 = C) (hn : As.length = n) (hsz : ls.size = nL) (hst : st0 = As.reverse ++ .ref b :: rest) (hro : (rest.map fun v => v.category).sum ≤ 8) (hd : decode cc pc = .ok (.invokevirtual index, 3)) (hf : cells ≤ R.cells ∧ slots ≤ R.slots)
    (kk : ∀ (r : UInt64) (u : S) (H1 : Heap) (locs1 : List Loc), post r u → va_P D vwCl (wf u) H1 → va_D A (wf u) → va_S A s.heap H1 locs1 → W p l e R s m args below meth c H1 locs1 cells slots Q (F0 m (pc + 3) ls (.double r :: rest))) : W p l e R s m args below meth c H locs cells slots Q (F0 m pc ls st0) := by
  subst hC
  have hPc : va_P D vwCl wc H := hP.sub isC (w_fm hC1)
  have hDc : va_D (fun _ => True) wc := (hD.sub isC hn2 hC1).weaken (fun _ _ _ _ => trivial)
  have hFc := va_free (wc := wc) hD hS hA isC hC1
  refine va_calld (va_runV (g := F0 m pc ls st0) (As := As) (rest := rest) S9 (hM H.size) cw ⟨im_blind, va_recv hK hPc hc he, fun U hU hW => ⟨rfl, by rw [hU], by rw [hU]; exact hPc, va_K.moved hW.alike hK, hDc⟩⟩ rfl hn hsz hst (lv_room hro) hd hf) hS (fun q _ h => hFc q h) hFc (fun r u t H1 locs1 ht hvm hw hB hz1 hk1 hS1 => ?_)
  obtain ⟨hP1, hK1, hD1⟩ := hB
  rw [ht] at hP1
  obtain ⟨hP2, hD2⟩ := va_join (wr := wr) (w1 := out u) hP hD isC isR hC1 hR1 hn1 hdis hk1 hFc hP1 hD1
  exact kk r u H1 locs1 hw (hP2.sub pf (w_fm (hwf u))) (hD2.sub pf hn3 (hwf u)) hS1
theorem w_iSv {post : S → Prop} {wc wr : va_W} (S9 : CallFix p m c cc nL s args Ts own) (hK : va_K D vwCl tys s) (hP : va_P D vwCl ws H) (hD : va_D A ws) (hS : va_S A s.heap H locs) (hA : ∀ q : Nat, s.heap.size ≤ q → A q) (hM : IM l y wd rm D tys wc As (QV D tys out post)) (cw : CallB R s args own index y bytes maxL ret wd rm 0 0 n ∧ (Cond.static y).before args s = true)
    (isC isR pf : List Nat) (hC1 : isC.map (fun i => ws[i]?) = wc.map some) (hR1 : isR.map (fun i => ws[i]?) = wr.map some) (hn1 : va_nd isR = true) (hn2 : va_nd isC = true) (hdis : ∀ i ∈ isR, i ∉ isC) (wf : S → va_W) (hwf : ∀ u, pf.map (fun i => (wr ++ out u)[i]?) = (wf u).map some) (hn3 : va_nd pf = true)
    (hn : As.length = n) (hsz : ls.size = nL) (hst : st0 = As.reverse ++ rest) (hro : (rest.map fun v => v.category).sum ≤ 8) (hd : decode cc pc = .ok (.invokestatic index, 3)) (hf : cells ≤ R.cells ∧ slots ≤ R.slots)
    (kk : ∀ (u : S) (H1 : Heap) (locs1 : List Loc), post u → va_P D vwCl (wf u) H1 → va_D A (wf u) → va_S A s.heap H1 locs1 → W p l e R s m args below meth c H1 locs1 cells slots Q (F0 m (pc + 3) ls rest)) : W p l e R s m args below meth c H locs cells slots Q (F0 m pc ls st0) := by
  have hPc : va_P D vwCl wc H := hP.sub isC (w_fm hC1)
  have hDc : va_D (fun _ => True) wc := (hD.sub isC hn2 hC1).weaken (fun _ _ _ _ => trivial)
  have hFc := va_free (wc := wc) hD hS hA isC hC1
  refine va_callv (va_runS (g := F0 m pc ls st0) (As := As) (rest := rest) S9 (hM H.size) cw ⟨im_blind, fun U hU hW => ⟨rfl, by rw [hU], by rw [hU]; exact hPc, va_K.moved hW.alike hK, hDc⟩⟩ rfl hn hsz hst (lv_room hro) hd hf) hS (fun q _ h => hFc q h) hFc (fun u t H1 locs1 ht hvm hw hB hz1 hk1 hS1 => ?_)
  obtain ⟨hP1, hK1, hD1⟩ := hB
  rw [ht] at hP1
  obtain ⟨hP2, hD2⟩ := va_join (wr := wr) (w1 := out u) hP hD isC isR hC1 hR1 hn1 hdis hk1 hFc hP1 hD1
  exact kk u H1 locs1 hw (hP2.sub pf (w_fm (hwf u))) (hD2.sub pf hn3 (hwf u)) hS1
theorem w_iS {post : Int32 → S → Prop} {wc wr : va_W} (S9 : CallFix p m c cc nL s args Ts own) (hK : va_K D vwCl tys s) (hP : va_P D vwCl ws H) (hD : va_D A ws) (hS : va_S A s.heap H locs) (hA : ∀ q : Nat, s.heap.size ≤ q → A q) (hM : IM l y wd rm D tys wc As (QI D tys out post)) (cw : CallB R s args own index y bytes maxL ret wd rm 0 0 n ∧ (Cond.static y).before args s = true)
    (isC isR pf : List Nat) (hC1 : isC.map (fun i => ws[i]?) = wc.map some) (hR1 : isR.map (fun i => ws[i]?) = wr.map some) (hn1 : va_nd isR = true) (hn2 : va_nd isC = true) (hdis : ∀ i ∈ isR, i ∉ isC) (wf : S → va_W) (hwf : ∀ u, pf.map (fun i => (wr ++ out u)[i]?) = (wf u).map some) (hn3 : va_nd pf = true)
    (hn : As.length = n) (hsz : ls.size = nL) (hst : st0 = As.reverse ++ rest) (hro : (rest.map fun v => v.category).sum ≤ 8) (hd : decode cc pc = .ok (.invokestatic index, 3)) (hf : cells ≤ R.cells ∧ slots ≤ R.slots)
    (kk : ∀ (r : Int32) (u : S) (H1 : Heap) (locs1 : List Loc), post r u → va_P D vwCl (wf u) H1 → va_D A (wf u) → va_S A s.heap H1 locs1 → W p l e R s m args below meth c H1 locs1 cells slots Q (F0 m (pc + 3) ls (.int r :: rest))) : W p l e R s m args below meth c H locs cells slots Q (F0 m pc ls st0) := by
  have hPc : va_P D vwCl wc H := hP.sub isC (w_fm hC1)
  have hDc : va_D (fun _ => True) wc := (hD.sub isC hn2 hC1).weaken (fun _ _ _ _ => trivial)
  have hFc := va_free (wc := wc) hD hS hA isC hC1
  refine va_calli (va_runS (g := F0 m pc ls st0) (As := As) (rest := rest) S9 (hM H.size) cw ⟨im_blind, fun U hU hW => ⟨rfl, by rw [hU], by rw [hU]; exact hPc, va_K.moved hW.alike hK, hDc⟩⟩ rfl hn hsz hst (lv_room hro) hd hf) hS (fun q _ h => hFc q h) hFc (fun r u t H1 locs1 ht hvm hw hB hz1 hk1 hS1 => ?_)
  obtain ⟨hP1, hK1, hD1⟩ := hB
  rw [ht] at hP1
  obtain ⟨hP2, hD2⟩ := va_join (wr := wr) (w1 := out u) hP hD isC isR hC1 hR1 hn1 hdis hk1 hFc hP1 hD1
  exact kk r u H1 locs1 hw (hP2.sub pf (w_fm (hwf u))) (hD2.sub pf hn3 (hwf u)) hS1
end WE
end
section
section WO
variable {l : Launch} {y : MethodName} {wd wd' : List Cond} {rm : Room} {D : va_G} {tys : List (ClassId × FieldType)} {ws : va_W} {av : List Value} {cc : ByteArray} {maxL : Nat}
theorem pmI_of {post : Int32 → Prop} (hy : plainName y.cls = true) (hw : wd = Cond.code y cc maxL (some .int) :: wd') (hlen : (lg_sl av).length ≤ maxL)
    (body : ∀ (p : Program) (e : Env) (s : State) (m : MethodId) (args : Array Value) (below : List Frame) (meth : Method) (c : Code) (Q : State → Prop), p.tables.exec = Jvm.exec → c.code = cc → c.maxLocals = maxL → s.vm.findClass y.cls = some m.cls → (∀ w ∈ wd, w.before args s = true) → va_K D vwCl tys s → va_P D vwCl ws s.heap →
      (∀ (pc : Nat) (ls : Array Slot) (v : Int32), post v → decode cc pc = .ok (.ireturn, 1) → W p l e rm s m args below meth c s.heap [] 0 0 Q (F0 m pc ls [.int v])) →
      ∀ ls : Array Slot, lv_has ls maxL (lv_args 0 av) → W p l e rm s m args below meth c s.heap [] 0 0 Q (F0 m 0 ls [])) : PM l y wd rm D tys ws av (vp_Si post) :=
  pm_of hy hw hlen (fun p e s m args below meth c hx hb hr hml hlocks hown hts hK hP ls hl => body p e s m args below meth c _ hx hb hml hown hts hK hP (fun pc ls v h1 h2 => w_iretP hx hb hr hlocks h1 h2) ls hl)
theorem pmZ_of {post : Int32 → Prop} (hy : plainName y.cls = true) (hw : wd = Cond.code y cc maxL (some .boolean) :: wd') (hlen : (lg_sl av).length ≤ maxL)
    (body : ∀ (p : Program) (e : Env) (s : State) (m : MethodId) (args : Array Value) (below : List Frame) (meth : Method) (c : Code) (Q : State → Prop), p.tables.exec = Jvm.exec → c.code = cc → c.maxLocals = maxL → s.vm.findClass y.cls = some m.cls → (∀ w ∈ wd, w.before args s = true) → va_K D vwCl tys s → va_P D vwCl ws s.heap →
      (∀ (pc : Nat) (ls : Array Slot) (v : Int32), narrow .boolean (.int v) = .int v → post v → decode cc pc = .ok (.ireturn, 1) → W p l e rm s m args below meth c s.heap [] 0 0 Q (F0 m pc ls [.int v])) →
      ∀ ls : Array Slot, lv_has ls maxL (lv_args 0 av) → W p l e rm s m args below meth c s.heap [] 0 0 Q (F0 m 0 ls [])) : PM l y wd rm D tys ws av (vp_Si post) :=
  pm_of hy hw hlen (fun p e s m args below meth c hx hb hr hml hlocks hown hts hK hP ls hl => body p e s m args below meth c _ hx hb hml hown hts hK hP (fun pc ls v h0 h1 h2 => w_zretP hx hb hr hlocks h0 h1 h2) ls hl)
theorem pmV_of {post : Unit → Prop} (hy : plainName y.cls = true) (hw : wd = Cond.code y cc maxL (none) :: wd') (hlen : (lg_sl av).length ≤ maxL)
    (body : ∀ (p : Program) (e : Env) (s : State) (m : MethodId) (args : Array Value) (below : List Frame) (meth : Method) (c : Code) (Q : State → Prop), p.tables.exec = Jvm.exec → c.code = cc → c.maxLocals = maxL → s.vm.findClass y.cls = some m.cls → (∀ w ∈ wd, w.before args s = true) → va_K D vwCl tys s → va_P D vwCl ws s.heap →
      (∀ (pc : Nat) (ls : Array Slot), post () → decode cc pc = .ok (.return_, 1) → W p l e rm s m args below meth c s.heap [] 0 0 Q (F0 m pc ls [])) →
      ∀ ls : Array Slot, lv_has ls maxL (lv_args 0 av) → W p l e rm s m args below meth c s.heap [] 0 0 Q (F0 m 0 ls [])) : PM l y wd rm D tys ws av (va_Sv post) :=
  pm_of hy hw hlen (fun p e s m args below meth c hx hb hr hml hlocks hown hts hK hP ls hl => body p e s m args below meth c _ hx hb hml hown hts hK hP (fun pc ls h1 h2 => w_vretP hx hb hr hlocks h1 h2) ls hl)
theorem imI_of {S : Type} {out : S → va_W} {post : Int32 → S → Prop} (hy : plainName y.cls = true) (hw : wd = Cond.code y cc maxL (some .int) :: wd') (hlen : (lg_sl av).length ≤ maxL)
    (body : ∀ (p : Program) (e : Env) (s : State) (m : MethodId) (args : Array Value) (below : List Frame) (meth : Method) (c : Code) (A : Nat → Prop) (Q : State → Prop), p.tables.exec = Jvm.exec → c.code = cc → c.maxLocals = maxL → s.vm.findClass y.cls = some m.cls → (∀ w ∈ wd, w.before args s = true) → (∀ q : Nat, s.heap.size ≤ q → A q) → va_K D vwCl tys s → va_P D vwCl ws s.heap → va_D A ws → va_S A s.heap s.heap [] →
      (∀ (H : Heap) (locs : List Loc) (pc : Nat) (ls : Array Slot) (v : Int32) (u : S), va_P D vwCl (out u) H → va_D A (out u) → va_S A s.heap H locs → post v u → decode cc pc = .ok (.ireturn, 1) → W p l e rm s m args below meth c H locs 0 0 Q (F0 m pc ls [.int v])) →
      ∀ ls : Array Slot, lv_has ls maxL (lv_args 0 av) → W p l e rm s m args below meth c s.heap [] 0 0 Q (F0 m 0 ls [])) : IM l y wd rm D tys ws av (QI D tys out post) :=
  im_of hy hw hlen (fun p e s m args below meth c A hx hb hr hml hlocks hown hts hA hK hP hD hS ls hl => body p e s m args below meth c A _ hx hb hml hown hts hA hK hP hD hS (fun H locs pc ls v u h1 h2 h3 h4 h5 => w_iret u hx hb hr hlocks hK h1 h2 h3 h4 h5) ls hl)
theorem imZ_of {S : Type} {out : S → va_W} {post : Int32 → S → Prop} (hy : plainName y.cls = true) (hw : wd = Cond.code y cc maxL (some .boolean) :: wd') (hlen : (lg_sl av).length ≤ maxL)
    (body : ∀ (p : Program) (e : Env) (s : State) (m : MethodId) (args : Array Value) (below : List Frame) (meth : Method) (c : Code) (A : Nat → Prop) (Q : State → Prop), p.tables.exec = Jvm.exec → c.code = cc → c.maxLocals = maxL → s.vm.findClass y.cls = some m.cls → (∀ w ∈ wd, w.before args s = true) → (∀ q : Nat, s.heap.size ≤ q → A q) → va_K D vwCl tys s → va_P D vwCl ws s.heap → va_D A ws → va_S A s.heap s.heap [] →
      (∀ (H : Heap) (locs : List Loc) (pc : Nat) (ls : Array Slot) (v : Int32) (u : S), narrow .boolean (.int v) = .int v → va_P D vwCl (out u) H → va_D A (out u) → va_S A s.heap H locs → post v u → decode cc pc = .ok (.ireturn, 1) → W p l e rm s m args below meth c H locs 0 0 Q (F0 m pc ls [.int v])) →
      ∀ ls : Array Slot, lv_has ls maxL (lv_args 0 av) → W p l e rm s m args below meth c s.heap [] 0 0 Q (F0 m 0 ls [])) : IM l y wd rm D tys ws av (QI D tys out post) :=
  im_of hy hw hlen (fun p e s m args below meth c A hx hb hr hml hlocks hown hts hA hK hP hD hS ls hl => body p e s m args below meth c A _ hx hb hml hown hts hA hK hP hD hS (fun H locs pc ls v u h0 h1 h2 h3 h4 h5 => w_zret u hx hb hr hlocks h0 hK h1 h2 h3 h4 h5) ls hl)
theorem imV_of {S : Type} {out : S → va_W} {post : S → Prop} (hy : plainName y.cls = true) (hw : wd = Cond.code y cc maxL (none) :: wd') (hlen : (lg_sl av).length ≤ maxL)
    (body : ∀ (p : Program) (e : Env) (s : State) (m : MethodId) (args : Array Value) (below : List Frame) (meth : Method) (c : Code) (A : Nat → Prop) (Q : State → Prop), p.tables.exec = Jvm.exec → c.code = cc → c.maxLocals = maxL → s.vm.findClass y.cls = some m.cls → (∀ w ∈ wd, w.before args s = true) → (∀ q : Nat, s.heap.size ≤ q → A q) → va_K D vwCl tys s → va_P D vwCl ws s.heap → va_D A ws → va_S A s.heap s.heap [] →
      (∀ (H : Heap) (locs : List Loc) (pc : Nat) (ls : Array Slot) (u : S), va_P D vwCl (out u) H → va_D A (out u) → va_S A s.heap H locs → post u → decode cc pc = .ok (.return_, 1) → W p l e rm s m args below meth c H locs 0 0 Q (F0 m pc ls [])) →
      ∀ ls : Array Slot, lv_has ls maxL (lv_args 0 av) → W p l e rm s m args below meth c s.heap [] 0 0 Q (F0 m 0 ls [])) : IM l y wd rm D tys ws av (QV D tys out post) :=
  im_of hy hw hlen (fun p e s m args below meth c A hx hb hr hml hlocks hown hts hA hK hP hD hS ls hl => body p e s m args below meth c A _ hx hb hml hown hts hA hK hP hD hS (fun H locs pc ls u h1 h2 h3 h4 h5 => w_vret u hx hb hr hlocks hK h1 h2 h3 h4 h5) ls hl)
theorem imD_of {S : Type} {out : S → va_W} {post : UInt64 → S → Prop} (hy : plainName y.cls = true) (hw : wd = Cond.code y cc maxL (some .double) :: wd') (hlen : (lg_sl av).length ≤ maxL)
    (body : ∀ (p : Program) (e : Env) (s : State) (m : MethodId) (args : Array Value) (below : List Frame) (meth : Method) (c : Code) (A : Nat → Prop) (Q : State → Prop), p.tables.exec = Jvm.exec → c.code = cc → c.maxLocals = maxL → s.vm.findClass y.cls = some m.cls → (∀ w ∈ wd, w.before args s = true) → (∀ q : Nat, s.heap.size ≤ q → A q) → va_K D vwCl tys s → va_P D vwCl ws s.heap → va_D A ws → va_S A s.heap s.heap [] →
      (∀ (H : Heap) (locs : List Loc) (pc : Nat) (ls : Array Slot) (v : UInt64) (u : S), va_P D vwCl (out u) H → va_D A (out u) → va_S A s.heap H locs → post v u → decode cc pc = .ok (.dreturn, 1) → W p l e rm s m args below meth c H locs 0 0 Q (F0 m pc ls [.double v])) →
      ∀ ls : Array Slot, lv_has ls maxL (lv_args 0 av) → W p l e rm s m args below meth c s.heap [] 0 0 Q (F0 m 0 ls [])) : IM l y wd rm D tys ws av (QD D tys out post) :=
  im_of hy hw hlen (fun p e s m args below meth c A hx hb hr hml hlocks hown hts hA hK hP hD hS ls hl => body p e s m args below meth c A _ hx hb hml hown hts hA hK hP hD hS (fun H locs pc ls v u h1 h2 h3 h4 h5 => w_dret u hx hb hr hlocks hK h1 h2 h3 h4 h5) ls hl)
end WO
end
section
/-! the worlds: a Flowforge ad, a FlowforgeModel bd -/
def tI (f : Nat → Int) : Nat → Int32 := fun k => iI (f k)
def jI (f : Nat → Nat) : Nat → Int32 := fun k => iI ((f k : Nat) : Int)
theorem tI_up {f : Nat → Int} {k : Nat} {v : Int} : upd (tI f) k (iI v) = tI (va_up f k v) := by
  funext j
  unfold upd tI va_up
  split <;> rfl
theorem jI_up {f : Nat → Nat} {k v : Nat} : upd (jI f) k (iI ((v : Nat) : Int)) = jI (va_up f k v) := by
  funext j
  unfold upd jI va_up
  split <;> rfl
theorem tI_cpy {f g : Nat → Int} {sp dp n : Nat} : va_cpy (tI f) (tI g) sp dp n = tI (va_cpy f g sp dp n) := by
  funext j
  by_cases h : dp ≤ j ∧ j < dp + n
  · simp only [va_cpy, tI, if_pos h]
  · simp only [va_cpy, tI, if_neg h]
theorem jI_cpy {f g : Nat → Nat} {sp dp n : Nat} : va_cpy (jI f) (jI g) sp dp n = jI (va_cpy f g sp dp n) := by
  funext j
  by_cases h : dp ≤ j ∧ j < dp + n
  · simp only [va_cpy, jI, if_pos h]
  · simp only [va_cpy, jI, if_neg h]
def xw (ad : Nat → Nat) (cI cZ : ClassId) (nn mm : Nat) (tT tB tE tL : Nat → Int) (oO oR oQ : Nat → Nat) (zS zM zN : Nat → Int) (oJ : Nat → Nat) : va_W :=
  [(ad 0, .inr (0, [.int (iI (nn : Int)), .int (iI (mm : Int)), .ref (ad 1), .ref (ad 2), .ref (ad 3), .ref (ad 4), .ref (ad 5), .ref (ad 6), .ref (ad 7), .ref (ad 8), .ref (ad 9), .ref (ad 10), .ref (ad 11)])),
   (ad 1, .inl (cI, 35, .inl (tI tT))), (ad 2, .inl (cI, 35, .inl (tI tB))), (ad 3, .inl (cI, 35, .inl (tI tE))), (ad 4, .inl (cI, 35, .inl (tI tL))),
   (ad 5, .inl (cI, 7, .inl (jI oO))), (ad 6, .inl (cI, 7, .inl (jI oR))), (ad 7, .inl (cI, 7, .inl (jI oQ))),
   (ad 8, .inl (cZ, 3, .inl (tI zS))), (ad 9, .inl (cI, 3, .inl (tI zM))), (ad 10, .inl (cI, 3, .inl (tI zN))), (ad 11, .inl (cI, 21, .inl (jI oJ)))]
def mw (bd : Nat → Nat) (cI : ClassId) (th : Int) (nn mm : Nat) (bm : Int) (tT : Nat → Int) (oO : Nat → Nat) (tB tL : Nat → Int) (oR oJ : Nat → Nat) : va_W :=
  [(bd 0, .inr (1, [.int (iI th), .int (iI (nn : Int)), .int (iI (mm : Int)), .ref (bd 1), .ref (bd 2), .ref (bd 3), .ref (bd 4), .ref (bd 5), .ref (bd 6), .int (iI bm)])),
   (bd 1, .inl (cI, 35, .inl (tI tT))), (bd 2, .inl (cI, 7, .inl (jI oO))), (bd 3, .inl (cI, 35, .inl (tI tB))), (bd 4, .inl (cI, 40, .inl (tI tL))),
   (bd 5, .inl (cI, 7, .inl (jI oR))), (bd 6, .inl (cI, 7, .inl (jI oJ)))]
def tyk (cI cZ cJ : ClassId) : List (ClassId × FieldType) := [(cI, .int), (cZ, .boolean), (cJ, .long)]
section WC
variable {p : Program} {l : Launch} {e : Env} {R : Room} {s : State} {m : MethodId} {args : Array Value} {below : List Frame} {meth : Method} {c : Code} {H : Heap} {locs : List Loc} {cells slots : Nat} {Q : State → Prop}
variable {cc : ByteArray} {pc : Nat} {ls : Array Slot} {rest : List Value} {D : va_G} {cl : List vw_C} {tys : List (ClassId × FieldType)} {ws : va_W} {A : Nat → Prop} {H0 : Heap}
theorem w_copy {own : String} {index : Nat} (ws' : va_W) (g2 : Nat → Int32) (hx : p.tables.exec = Jvm.exec) (hb : c.code = cc) (hml : c.maxLocals = ls.size) (hown : s.vm.findClass own = some m.cls) (hlink : (Cond.methodLink own index arraycopyName).before args s = true) (hnat : (Cond.native arraycopyName).before args s = true) (hstat : (Cond.static arraycopyName).before args s = true) (hini : (Cond.initialized "java/lang/System").before args s = true)
    (hK : va_K D cl tys s) (hP : va_P D cl ws H) (hD : va_D A ws) (hS : va_S A H0 H locs) (q0 q1 : Nat) {a1 a2 : Nat} {c0 : ClassId} {n0 n1 : Nat} {f g : Nat → Int32} (ha0 : ws[q0]? = some (a1, .inl (c0, n0, .inl f))) (ha1 : ws[q1]? = some (a2, .inl (c0, n1, .inl g))) (ht : tys[0]? = some (c0, .int)) {zs zd zn : Int} (sp dp n : Nat) (h1 : zs = (sp : Int)) (h2 : zd = (dp : Int)) (h3 : zn = (n : Int)) (h4 : sp + n ≤ n0) (h5 : dp + n ≤ n1)
    (hframes : 1 ≤ R.frames) (hlocals : (rest.map fun v => v.category).sum + (nativeFrameWords "java/lang/System" "arraycopy" 5 + 11) ≤ R.locals) (hbd : n0 ≤ 2147483647 ∧ n1 ≤ 2147483647) (hg : va_cpy f g sp dp n = g2) (hw : ws.set q1 (a2, .inl (c0, n1, .inl g2)) = ws') (hd : decode cc pc = .ok (.invokestatic index, 3))
    (kk : ∀ (H1 : Heap) (locs1 : List Loc), va_P D cl ws' H1 → va_D A ws' → va_S A H0 H1 locs1 → W p l e R s m args below meth c H1 locs1 cells slots Q (F0 m (pc + 3) ls rest)) : W p l e R s m args below meth c H locs cells slots Q (F0 m pc ls (.int (iI zn) :: .int (iI zd) :: .ref a2 :: .int (iI zs) :: .ref a1 :: rest)) := by
  obtain ⟨b0, b1⟩ := hbd
  have e1 : (iI zs).toNatClampNeg = sp := iI_cl h1 (by omega)
  have e2 : (iI zd).toNatClampNeg = dp := iI_cl h2 (by omega)
  have e3 : (iI zn).toNatClampNeg = n := iI_cl h3 (by omega)
  have ng : ∀ {z : Int} {k : Nat}, z = (k : Int) → k < 2147483648 → ¬ iI z < 0 := fun {z k} hz hk h => by
    have := (iI_lt (a := z) (b := 0) ⟨by omega, by omega⟩ ⟨by omega, by omega⟩).mp h
    omega
  refine va_copyi hx hb hml hown hlink hnat hstat hini hK hP hD hS q0 q1 0 0 ha0 ha1 ht ht rfl (ng h1 (by omega)) (ng h2 (by omega)) (ng h3 (by omega)) (by rw [e1, e3]; exact h4) (by rw [e2, e3]; exact h5) (fun _ _ => rfl) hframes hlocals hd (fun H1 locs1 k1 k2 k3 => ?_)
  rw [e1, e2, e3, hg, hw] at k1 k2
  exact kk H1 locs1 k1 k2 k3
end WC
end
section
/-! what the methods work out, over whole numbers: t times (5 a job), o orders -/
def smC (t : Nat → Int) (j fr : Nat) : Nat → Int
  | 0 => 0
  | c + 1 => smC t j fr c + t (5 * j + (fr + c))
def smR (t : Nat → Int) (j fr to : Nat) : Int := smC t j fr (to - fr)
def lsX (t : Nat → Int) (fr to : Nat) : Nat → Int
  | 0 => smR t 0 fr to
  | k + 1 => min (lsX t fr to k) (smR t (k + 1) fr to)
def ldC (t : Nat → Int) (m : Nat) : Nat → Int
  | 0 => 0
  | k + 1 => ldC t m k + t (5 * k + m)
/-- a row laid into a table -/
def pt (f g : Nat → Int) (a n : Nat) : Nat → Int := fun k => if a ≤ k ∧ k < a + n then g (k - a) else f k
theorem pt_0 (f g : Nat → Int) (a : Nat) : pt f g a 0 = f := by
  funext k
  unfold pt
  rw [if_neg (by omega)]
theorem pt_s {f g : Nat → Int} {a n : Nat} : va_up (pt f g a n) (a + n) (g n) = pt f g a (n + 1) := by
  funext k
  unfold va_up pt
  by_cases h : k = a + n
  · subst h
    rw [if_pos rfl, if_pos (by omega), show a + n - a = n by omega]
  · rw [if_neg h]
    by_cases h2 : a ≤ k ∧ k < a + n
    · rw [if_pos h2, if_pos (by omega)]
    · rw [if_neg h2, if_neg (by omega)]
theorem pt_in {f g : Nat → Int} {a n k : Nat} (h : k < n) : pt f g a n (a + k) = g k := by
  unfold pt
  rw [if_pos (by omega), show a + k - a = k by omega]
theorem pt_out {f g : Nat → Int} {a n k : Nat} (h : k < a ∨ a + n ≤ k) : pt f g a n k = f k := by
  unfold pt
  rw [if_neg (by omega)]
/-- when the job ahead leaves a machine free: b, e its begins and ends -/
def frm (v mm : Nat) (b e : Nat → Int) (k : Nat) : Int := if v = 1 ∧ k + 1 < mm then b (k + 1) else e k
/-- a job with times t behind one with begins b and ends e, not before m0: when it comes to a machine, begins, ends there -/
def mom (v mm : Nat) (t b e : Nat → Int) (m0 : Int) : Nat → Int
  | 0 => m0
  | k + 1 => max (mom v mm t b e m0 k) (frm v mm b e k) + t k
def nbg (v mm : Nat) (t b e : Nat → Int) (m0 : Int) (k : Nat) : Int := max (mom v mm t b e m0 k) (frm v mm b e k)
def nen (v mm : Nat) (t b e : Nat → Int) (m0 : Int) (k : Nat) : Int := mom v mm t b e m0 (k + 1)
/-- without waiting: the way to a machine, the earliest start -/
def wyC (t : Nat → Int) : Nat → Int
  | 0 => 0
  | k + 1 => wyC t k + t k
def stC (t e : Nat → Int) : Nat → Int
  | 0 => 0
  | k + 1 => max (stC t e k) (e k - wyC t k)
def m0v (v mm : Nat) (t e : Nat → Int) : Int := if v = 2 then stC t e mm else 0
/-- the row ahead of a place, out of a table -/
def prv (f : Nat → Int) (p : Nat) : Nat → Int := fun k => if p = 0 then 0 else f (5 * (p - 1) + k)
/-- a job's times -/
def tj (t : Nat → Int) (j : Nat) : Nat → Int := fun k => t (5 * j + k)
def sjB (v mm : Nat) (t : Nat → Int) (p j : Nat) (B E : Nat → Int) : Nat → Int := nbg v mm (tj t j) (prv B p) (prv E p) (m0v v mm (tj t j) (prv E p))
def sjE (v mm : Nat) (t : Nat → Int) (p j : Nat) (B E : Nat → Int) : Nat → Int := nen v mm (tj t j) (prv B p) (prv E p) (m0v v mm (tj t j) (prv E p))
/-- begins and ends of the job ahead of a place, in an order -/
def row (v mm : Nat) (t : Nat → Int) (o : Nat → Nat) : Nat → (Nat → Int) × (Nat → Int)
  | 0 => (fun _ => 0, fun _ => 0)
  | p + 1 => (nbg v mm (tj t (o p)) (row v mm t o p).1 (row v mm t o p).2 (m0v v mm (tj t (o p)) (row v mm t o p).2),
      nen v mm (tj t (o p)) (row v mm t o p).1 (row v mm t o p).2 (m0v v mm (tj t (o p)) (row v mm t o p).2))
/-- the makespan of the first c jobs of an order -/
def mk (v mm : Nat) (t : Nat → Int) (o : Nat → Nat) (c : Nat) : Int := (row v mm t o c).2 (mm - 1)
/-- the tables hold the schedule of the first c places -/
def rows (v mm : Nat) (t : Nat → Int) (o : Nat → Nat) (B E : Nat → Int) (c : Nat) : Prop :=
  ∀ p, p < c → ∀ k, k < mm → B (5 * p + k) = (row v mm t o (p + 1)).1 k ∧ E (5 * p + k) = (row v mm t o (p + 1)).2 k
/-- the last end of so many places, out of the table of ends -/
def lstE (mm c : Nat) (E : Nat → Int) : Int := if c < 1 then 0 else E (5 * (c - 1) + (mm - 1))
/-- a place of a list moved to another -/
def sh1 (f : Nat → Nat) (a i : Nat) : Nat → Nat := fun k => if a ≤ k ∧ k < a + i then f (k + 1) else f k
def sh2 (f : Nat → Nat) (a i : Nat) : Nat → Nat := fun k => if a < k + i ∧ k ≤ a then f (k - 1) else f k
def shf (f : Nat → Nat) (a b : Nat) : Nat → Nat := va_up (sh2 (sh1 f a (b - a)) a (a - b)) b (f a)
theorem sh1_0 (f : Nat → Nat) (a : Nat) : sh1 f a 0 = f := by
  funext k
  unfold sh1
  rw [if_neg (by omega)]
theorem sh1_s {f : Nat → Nat} {a i : Nat} : va_up (sh1 f a i) (a + i) (f (a + i + 1)) = sh1 f a (i + 1) := by
  funext k
  unfold va_up sh1
  by_cases h : k = a + i
  · subst h
    rw [if_pos rfl, if_pos (by omega)]
  · rw [if_neg h]
    by_cases h2 : a ≤ k ∧ k < a + i
    · rw [if_pos h2, if_pos (by omega)]
    · rw [if_neg h2, if_neg (by omega)]
theorem sh1_at {f : Nat → Nat} {a i k : Nat} (h : a + i ≤ k) : sh1 f a i k = f k := by
  unfold sh1
  rw [if_neg (by omega)]
theorem sh2_0 (f : Nat → Nat) (a : Nat) : sh2 f a 0 = f := by
  funext k
  unfold sh2
  rw [if_neg (by omega)]
theorem sh2_s {f : Nat → Nat} {a i : Nat} (h : i < a) : va_up (sh2 f a i) (a - i) (f (a - i - 1)) = sh2 f a (i + 1) := by
  funext k
  unfold va_up sh2
  by_cases h1 : k = a - i
  · subst h1
    rw [if_pos rfl, if_pos (by omega)]
  · rw [if_neg h1]
    by_cases h2 : a < k + i ∧ k ≤ a
    · rw [if_pos h2, if_pos (by omega)]
    · rw [if_neg h2, if_neg (by omega)]
theorem sh2_at {f : Nat → Nat} {a i k : Nat} (h : k + i ≤ a) : sh2 f a i k = f k := by
  unfold sh2
  rw [if_neg (by omega)]
theorem smC_rg {t : Nat → Int} (h : ∀ k, 0 ≤ t k ∧ t k ≤ 99) (j fr : Nat) : ∀ c, 0 ≤ smC t j fr c ∧ smC t j fr c ≤ 99 * c
  | 0 => ⟨Int.le_refl _, Int.le_refl _⟩
  | c + 1 => by
    have := smC_rg h j fr c
    have := h (5 * j + (fr + c))
    unfold smC
    constructor <;> omega
theorem smR_rg {t : Nat → Int} (h : ∀ k, 0 ≤ t k ∧ t k ≤ 99) (j fr to : Nat) : 0 ≤ smR t j fr to ∧ smR t j fr to ≤ 99 * to := by
  have := smC_rg h j fr (to - fr)
  unfold smR
  omega
theorem lsX_rg {t : Nat → Int} (h : ∀ k, 0 ≤ t k ∧ t k ≤ 99) (fr to : Nat) : ∀ k, 0 ≤ lsX t fr to k ∧ lsX t fr to k ≤ 99 * to
  | 0 => smR_rg h 0 fr to
  | k + 1 => by
    have := lsX_rg h fr to k
    have := smR_rg h (k + 1) fr to
    unfold lsX
    omega
theorem ldC_rg {t : Nat → Int} (h : ∀ k, 0 ≤ t k ∧ t k ≤ 99) (m : Nat) : ∀ c, 0 ≤ ldC t m c ∧ ldC t m c ≤ 99 * c
  | 0 => ⟨Int.le_refl _, Int.le_refl _⟩
  | c + 1 => by
    have := ldC_rg h m c
    have := h (5 * c + m)
    unfold ldC
    constructor <;> omega
theorem frm_0 {v mm k : Nat} {f g : Nat → Int} : frm v mm (prv f 0) (prv g 0) k = 0 := by
  unfold frm prv
  split <;> rfl
theorem frm_2 {mm k : Nat} {b e : Nat → Int} : frm 2 mm b e k = e k := by
  unfold frm
  rw [if_neg (by omega)]
theorem prv_pt {f g : Nat → Int} {p i k : Nat} (h : k < 5) : prv (pt f g (5 * p) i) p k = prv f p k := by
  unfold prv
  by_cases hp : p = 0
  · rw [if_pos hp, if_pos hp]
  · rw [if_neg hp, if_neg hp, pt_out (by omega)]
theorem frm_pt {v mm : Nat} {B E g h : Nat → Int} {p i k : Nat} (hm : mm ≤ 5) (hk : k < mm) : frm v mm (prv (pt B g (5 * p) i) p) (prv (pt E h (5 * p) i) p) k = frm v mm (prv B p) (prv E p) k := by
  unfold frm
  split
  · rw [prv_pt (by omega)]
  · rw [prv_pt (by omega)]
theorem frm_cg {v mm : Nat} {b e b' e' : Nat → Int} (h : ∀ k, k < mm → b k = b' k ∧ e k = e' k) {k : Nat} (hk : k < mm) : frm v mm b e k = frm v mm b' e' k := by
  unfold frm
  split
  · rename_i h1
    exact (h _ h1.2).1
  · exact (h _ hk).2
theorem frm_rg {v mm : Nat} {b e : Nat → Int} {K : Int} (h : ∀ k, k < mm → (0 ≤ b k ∧ b k ≤ K) ∧ 0 ≤ e k ∧ e k ≤ K) {k : Nat} (hk : k < mm) : 0 ≤ frm v mm b e k ∧ frm v mm b e k ≤ K := by
  unfold frm
  split
  · rename_i h1
    exact (h _ h1.2).1
  · exact (h _ hk).2
theorem mom_cg {v mm : Nat} {t b e b' e' : Nat → Int} {m0 : Int} (h : ∀ k, k < mm → b k = b' k ∧ e k = e' k) : ∀ k, k ≤ mm → mom v mm t b e m0 k = mom v mm t b' e' m0 k
  | 0, _ => rfl
  | k + 1, hk => by
    unfold mom
    rw [mom_cg h k (by omega), frm_cg h (by omega)]
theorem wyC_rg {t : Nat → Int} (h : ∀ k, 0 ≤ t k ∧ t k ≤ 99) : ∀ k, 0 ≤ wyC t k ∧ wyC t k ≤ 99 * k
  | 0 => ⟨Int.le_refl _, Int.le_refl _⟩
  | k + 1 => by
    have := wyC_rg h k
    have := h k
    unfold wyC
    constructor <;> omega
theorem stC_rg {t e : Nat → Int} {mm : Nat} {K : Int} (hK : 0 ≤ K) (ht : ∀ k, 0 ≤ t k ∧ t k ≤ 99) (h : ∀ k, k < mm → e k ≤ K) : ∀ k, k ≤ mm → 0 ≤ stC t e k ∧ stC t e k ≤ K
  | 0, _ => ⟨Int.le_refl _, hK⟩
  | k + 1, hk => by
    have h1 := stC_rg hK ht h k (by omega)
    have h2 := h k (by omega)
    have h3 := wyC_rg ht k
    unfold stC
    omega
theorem stC_cg {t e e' : Nat → Int} {mm : Nat} (h : ∀ k, k < mm → e k = e' k) : ∀ k, k ≤ mm → stC t e k = stC t e' k
  | 0, _ => rfl
  | k + 1, hk => by
    unfold stC
    rw [stC_cg h k (by omega), h k (by omega)]
theorem m0v_rg {v mm : Nat} {t e : Nat → Int} {K : Int} (hK : 0 ≤ K) (ht : ∀ k, 0 ≤ t k ∧ t k ≤ 99) (h : ∀ k, k < mm → e k ≤ K) : 0 ≤ m0v v mm t e ∧ m0v v mm t e ≤ K := by
  unfold m0v
  split
  · exact stC_rg hK ht h mm (Nat.le_refl _)
  · exact ⟨Int.le_refl _, hK⟩
theorem mom_rg {v mm : Nat} {t b e : Nat → Int} {m0 K : Int} (ht : ∀ k, 0 ≤ t k ∧ t k ≤ 99) (h : ∀ k, k < mm → (0 ≤ b k ∧ b k ≤ K) ∧ 0 ≤ e k ∧ e k ≤ K) (h0 : 0 ≤ m0 ∧ m0 ≤ K) : ∀ k, k ≤ mm → 0 ≤ mom v mm t b e m0 k ∧ mom v mm t b e m0 k ≤ K + 99 * k
  | 0, _ => by
    unfold mom
    omega
  | k + 1, hk => by
    have h1 := mom_rg (v := v) ht h h0 k (by omega)
    have h2 := frm_rg (v := v) h (show k < mm by omega)
    have h3 := ht k
    unfold mom
    omega
theorem row_rg {v mm : Nat} {t : Nat → Int} {o : Nat → Nat} (hm : mm ≤ 5) (ht : ∀ k, 0 ≤ t k ∧ t k ≤ 99) : ∀ p k, k < mm → (0 ≤ (row v mm t o p).1 k ∧ (row v mm t o p).1 k ≤ 495 * p) ∧ 0 ≤ (row v mm t o p).2 k ∧ (row v mm t o p).2 k ≤ 495 * p
  | 0, _, _ => by
    unfold row
    exact ⟨⟨Int.le_refl _, Int.le_refl _⟩, Int.le_refl _, Int.le_refl _⟩
  | p + 1, k, hk => by
    have h1 := row_rg (v := v) (o := o) hm ht p
    have h2 := m0v_rg (v := v) (mm := mm) (t := tj t (o p)) (e := (row v mm t o p).2) (K := 495 * p) (by omega) (fun k => ht _) (fun k hk => (h1 k hk).2.2)
    have h3 := mom_rg (v := v) (t := tj t (o p)) (fun k => ht _) h1 h2 k (by omega)
    have h4 := mom_rg (v := v) (t := tj t (o p)) (fun k => ht _) h1 h2 (k + 1) (by omega)
    have h5 := frm_rg (v := v) h1 hk
    refine ⟨?_, ?_⟩
    · show 0 ≤ nbg _ _ _ _ _ _ _ ∧ nbg _ _ _ _ _ _ _ ≤ _
      unfold nbg
      omega
    · show 0 ≤ mom _ _ _ _ _ _ (k + 1) ∧ mom _ _ _ _ _ _ (k + 1) ≤ _
      omega
theorem rows_0 {v mm : Nat} {t : Nat → Int} {o : Nat → Nat} {B E : Nat → Int} : rows v mm t o B E 0 := fun _ h => absurd h (Nat.not_lt_zero _)
theorem rows_le {v mm : Nat} {t : Nat → Int} {o : Nat → Nat} {B E : Nat → Int} {c d : Nat} (h : rows v mm t o B E c) (hd : d ≤ c) : rows v mm t o B E d := fun p hp => h p (by omega)
theorem rows_prv {v mm : Nat} {t : Nat → Int} {o : Nat → Nat} {B E : Nat → Int} {c : Nat} (h : rows v mm t o B E c) {k : Nat} (hk : k < mm) : prv B c k = (row v mm t o c).1 k ∧ prv E c k = (row v mm t o c).2 k := by
  cases c with
  | zero => exact ⟨rfl, rfl⟩
  | succ c =>
    unfold prv
    rw [if_neg (by omega), if_neg (by omega), Nat.add_sub_cancel]
    exact h c (by omega) k hk
theorem rows_rg {v mm : Nat} {t : Nat → Int} {o : Nat → Nat} {B E : Nat → Int} {c : Nat} (hm : mm ≤ 5) (ht : ∀ k, 0 ≤ t k ∧ t k ≤ 99) (hc : c ≤ 7) (h : rows v mm t o B E c) : ∀ k, k < mm → (0 ≤ prv B c k ∧ prv B c k ≤ 1000000) ∧ 0 ≤ prv E c k ∧ prv E c k ≤ 1000000 := by
  intro k hk
  rw [(rows_prv h hk).1, (rows_prv h hk).2]
  have := row_rg (v := v) (o := o) hm ht c k hk
  omega
theorem rows_s {v mm : Nat} {t : Nat → Int} {o : Nat → Nat} {B E : Nat → Int} {c : Nat} (hm : mm ≤ 5) (h : rows v mm t o B E c) : rows v mm t o (pt B (sjB v mm t c (o c) B E) (5 * c) mm) (pt E (sjE v mm t c (o c) B E) (5 * c) mm) (c + 1) := by
  intro p hp k hk
  by_cases hpc : p = c
  · subst hpc
    rw [pt_in hk, pt_in hk]
    have h1 := fun k hk => rows_prv h (k := k) hk
    have h2 : m0v v mm (tj t (o p)) (prv E p) = m0v v mm (tj t (o p)) (row v mm t o p).2 := by
      unfold m0v
      rw [stC_cg (fun k hk => (h1 k hk).2) mm (Nat.le_refl _)]
    unfold sjB sjE nbg nen row
    rw [h2]
    refine ⟨?_, ?_⟩
    · rw [mom_cg h1 k (by omega), frm_cg h1 hk]
      rfl
    · rw [mom_cg h1 (k + 1) (by omega)]
      rfl
  · rw [pt_out (by omega), pt_out (by omega)]
    exact h p (by omega) k hk
theorem row_cg {v mm : Nat} {t : Nat → Int} {o o' : Nat → Nat} : ∀ {c : Nat}, (∀ k, k < c → o k = o' k) → row v mm t o c = row v mm t o' c
  | 0, _ => rfl
  | c + 1, h => by
    unfold row
    rw [row_cg (fun k hk => h k (by omega)), h c (by omega)]
theorem mk_cg {v mm : Nat} {t : Nat → Int} {o o' : Nat → Nat} {c : Nat} (h : ∀ k, k < c → o k = o' k) : mk v mm t o c = mk v mm t o' c := by
  unfold mk
  rw [row_cg h]
theorem rows_cg {v mm : Nat} {t : Nat → Int} {o o' : Nat → Nat} {B E : Nat → Int} {c : Nat} (h : rows v mm t o B E c) (e : ∀ k, k < c → o k = o' k) : rows v mm t o' B E c := by
  intro p hp
  rw [← row_cg (o := o) (fun k hk => e k (by omega))]
  exact h p hp
theorem mk_rg {v mm : Nat} {t : Nat → Int} {o : Nat → Nat} {c : Nat} (h1 : 1 ≤ mm) (hm : mm ≤ 5) (ht : ∀ k, 0 ≤ t k ∧ t k ≤ 99) (hc : c ≤ 7) : 0 ≤ mk v mm t o c ∧ mk v mm t o c ≤ 3465 := by
  have := row_rg (v := v) (o := o) hm ht c (mm - 1) (by omega)
  unfold mk
  omega
theorem lstE_rows {v mm : Nat} {t : Nat → Int} {o : Nat → Nat} {B E : Nat → Int} {c : Nat} (h1 : 1 ≤ mm) (h : rows v mm t o B E c) : lstE mm c E = mk v mm t o c := by
  unfold lstE mk
  cases c with
  | zero => rfl
  | succ c =>
    rw [if_neg (by omega), Nat.add_sub_cancel]
    exact (h c (by omega) (mm - 1) (by omega)).2
end
section
/-! sorting by putting in, and orders one behind another -/
def pos (bef : Nat → Nat → Bool) (f : Nat → Nat) (j : Nat) : Nat → Nat
  | 0 => 0
  | p + 1 => if bef j (f p) = true then pos bef f j p else p + 1
def ins (bef : Nat → Nat → Bool) (f : Nat → Nat) (i : Nat) : Nat → Nat := va_up (sh2 f i (i - pos bef f i i)) (pos bef f i i) i
def srt (bef : Nat → Nat → Bool) (f0 : Nat → Nat) : Nat → Nat → Nat
  | 0 => f0
  | i + 1 => ins bef (srt bef f0 i) i
theorem pos_le (bef : Nat → Nat → Bool) (f : Nat → Nat) (j : Nat) : ∀ p, pos bef f j p ≤ p
  | 0 => Nat.le_refl _
  | p + 1 => by
    have := pos_le bef f j p
    unfold pos
    split <;> omega
theorem pos_go {bef : Nat → Nat → Bool} {f : Nat → Nat} {j p : Nat} (h0 : 0 < p) (h : bef j (f (p - 1)) = true) : pos bef f j p = pos bef f j (p - 1) := by
  obtain ⟨q, rfl⟩ : ∃ q, p = q + 1 := ⟨p - 1, by omega⟩
  rw [Nat.add_sub_cancel] at h ⊢
  rw [pos, if_pos h]
theorem pos_stop {bef : Nat → Nat → Bool} {f : Nat → Nat} {j p : Nat} (h0 : 0 < p) (h : ¬ bef j (f (p - 1)) = true) : pos bef f j p = p := by
  obtain ⟨q, rfl⟩ : ∃ q, p = q + 1 := ⟨p - 1, by omega⟩
  rw [Nat.add_sub_cancel] at h
  rw [pos, if_neg h]
theorem sh2_p {f : Nat → Nat} {a p : Nat} (h0 : 0 < p) (hp : p ≤ a) : va_up (sh2 f a (a - p)) p (f (p - 1)) = sh2 f a (a - (p - 1)) := by
  have h := sh2_s (f := f) (a := a) (i := a - p) (by omega)
  rw [show a - (a - p) = p by omega, show a - p + 1 = a - (p - 1) by omega] at h
  exact h
theorem ins_at {bef : Nat → Nat → Bool} {f : Nat → Nat} {i k : Nat} : ins bef f i k = if k = pos bef f i i then i else if pos bef f i i < k ∧ k ≤ i then f (k - 1) else f k := by
  have h := pos_le bef f i i
  unfold ins va_up sh2
  by_cases h1 : k = pos bef f i i
  · rw [if_pos h1, if_pos h1]
  · rw [if_neg h1, if_neg h1]
    by_cases h2 : pos bef f i i < k ∧ k ≤ i
    · rw [if_pos h2, if_pos (by omega)]
    · rw [if_neg h2, if_neg (by omega)]
theorem srt_lt {bef : Nat → Nat → Bool} {f0 : Nat → Nat} : ∀ {i k : Nat}, k < i → srt bef f0 i k < i
  | i + 1, k, hk => by
    show ins bef (srt bef f0 i) i k < i + 1
    have h := pos_le bef (srt bef f0 i) i i
    rw [ins_at]
    split
    · omega
    · split
      · have := srt_lt (bef := bef) (f0 := f0) (i := i) (k := k - 1) (by omega)
        omega
      · have := srt_lt (bef := bef) (f0 := f0) (i := i) (k := k) (by omega)
        omega
/-- which of two jobs goes first: by sums, by the rule -/
def bqs (t : Nat → Int) (mm : Nat) (i x : Nat) : Bool := if smR t x 0 mm < smR t i 0 mm then true else false
def gbr (t : Nat → Int) (a b i j : Nat) : Bool :=
  if t (5 * i + a) ≤ t (5 * i + b) then (if t (5 * j + a) ≤ t (5 * j + b) then (if t (5 * i + a) < t (5 * j + a) then true else false) else true)
  else (if t (5 * j + a) ≤ t (5 * j + b) then false else (if t (5 * j + b) < t (5 * i + b) then true else false))
/-- two machines alone: ends on the first, on the second, of the first jobs of an order -/
def opF (t : Nat → Int) (r : Nat → Nat) (a : Nat) : Nat → Int
  | 0 => 0
  | i + 1 => opF t r a i + t (5 * r i + a)
def opS (t : Nat → Int) (r : Nat → Nat) (a b : Nat) : Nat → Int
  | 0 => 0
  | i + 1 => max (opF t r a (i + 1)) (opS t r a b i) + t (5 * r i + b)
theorem opF_rg {t : Nat → Int} (h : ∀ k, 0 ≤ t k ∧ t k ≤ 99) (r : Nat → Nat) (a : Nat) : ∀ c, 0 ≤ opF t r a c ∧ opF t r a c ≤ 99 * c
  | 0 => ⟨Int.le_refl _, Int.le_refl _⟩
  | c + 1 => by
    have := opF_rg h r a c
    have := h (5 * r c + a)
    unfold opF
    constructor <;> omega
theorem opS_rg {t : Nat → Int} (h : ∀ k, 0 ≤ t k ∧ t k ≤ 99) (r : Nat → Nat) (a b : Nat) : ∀ c, 0 ≤ opS t r a b c ∧ opS t r a b c ≤ 198 * c
  | 0 => ⟨Int.le_refl _, Int.le_refl _⟩
  | c + 1 => by
    have := opS_rg h r a b c
    have := opF_rg h r a (c + 1)
    have := h (5 * r c + b)
    unfold opS
    constructor <;> omega
/-- tails: of a place from the last machine on, n those of the next place; of the places from the last one on -/
def tlq (n t : Nat → Int) (mm : Nat) : Nat → Int
  | 0 => 0
  | c + 1 => t (mm - 1 - c) + max (tlq n t mm c) (n (mm - 1 - c))
def tlr (t : Nat → Int) (o : Nat → Nat) (nn mm : Nat) : Nat → Nat → Int
  | 0 => fun _ => 0
  | q + 1 => fun k => tlq (tlr t o nn mm q) (tj t (o (nn - 1 - q))) mm (mm - k)
theorem tlq_rg {n t : Nat → Int} {mm : Nat} {K : Int} (ht : ∀ k, 0 ≤ t k ∧ t k ≤ 99) (hK : 0 ≤ K) (hn : ∀ k, 0 ≤ n k ∧ n k ≤ K) : ∀ c, 0 ≤ tlq n t mm c ∧ tlq n t mm c ≤ K + 99 * c
  | 0 => by
    unfold tlq
    omega
  | c + 1 => by
    have := tlq_rg (mm := mm) ht hK hn c
    have := ht (mm - 1 - c)
    have := hn (mm - 1 - c)
    unfold tlq
    constructor <;> omega
theorem tlr_rg {t : Nat → Int} {o : Nat → Nat} {nn mm : Nat} (hm : mm ≤ 5) (ht : ∀ k, 0 ≤ t k ∧ t k ≤ 99) : ∀ q k, 0 ≤ tlr t o nn mm q k ∧ tlr t o nn mm q k ≤ 495 * q
  | 0, _ => by
    unfold tlr
    exact ⟨Int.le_refl _, Int.le_refl _⟩
  | q + 1, k => by
    have h := tlq_rg (n := tlr t o nn mm q) (t := tj t (o (nn - 1 - q))) (mm := mm) (K := 495 * q) (fun k => ht _) (by omega) (fun k => tlr_rg hm ht q k) (mm - k)
    show 0 ≤ tlq _ _ _ (mm - k) ∧ tlq _ _ _ (mm - k) ≤ _
    omega
/-- the table holds the tails of the last q places -/
def trow (t : Nat → Int) (o : Nat → Nat) (nn mm : Nat) (L : Nat → Int) (q : Nat) : Prop := ∀ p, nn - q ≤ p → p < nn → ∀ k, k < mm → L (5 * p + k) = tlr t o nn mm (nn - p) k
/-- and of the next place from the last machine on those of c machines -/
def tcol (t : Nat → Int) (o : Nat → Nat) (nn mm : Nat) (L : Nat → Int) (q c : Nat) : Prop := ∀ k, k < mm → mm - c ≤ k → L (5 * (nn - 1 - q) + k) = tlr t o nn mm (q + 1) k
theorem trow_0 {t : Nat → Int} {o : Nat → Nat} {nn mm : Nat} {L : Nat → Int} : trow t o nn mm L 0 := fun p h1 h2 => absurd h2 (by omega)
theorem tcol_0 {t : Nat → Int} {o : Nat → Nat} {nn mm : Nat} {L : Nat → Int} {q : Nat} : tcol t o nn mm L q 0 := fun k h1 h2 => absurd h2 (by omega)
theorem trow_up {t : Nat → Int} {o : Nat → Nat} {nn mm : Nat} {L : Nat → Int} {q j : Nat} {x : Int} (hm : mm ≤ 5) (hj : j < mm) (hq : q < nn) (h : trow t o nn mm L q) : trow t o nn mm (va_up L (5 * (nn - 1 - q) + j) x) q := by
  intro p h1 h2 k hk
  unfold va_up
  rw [if_neg (by omega)]
  exact h p h1 h2 k hk
theorem tcol_s {t : Nat → Int} {o : Nat → Nat} {nn mm : Nat} {L : Nat → Int} {q c : Nat} (hm : mm ≤ 5) (hc : c < mm) (hq : q < nn) (h : tcol t o nn mm L q c) :
    tcol t o nn mm (va_up L (5 * (nn - 1 - q) + (mm - 1 - c)) (tlq (tlr t o nn mm q) (tj t (o (nn - 1 - q))) mm (c + 1))) q (c + 1) := by
  intro k hk h2
  unfold va_up
  by_cases hkc : k = mm - 1 - c
  · subst hkc
    rw [if_pos rfl]
    show tlq _ _ _ _ = tlq _ _ _ (mm - (mm - 1 - c))
    rw [show mm - (mm - 1 - c) = c + 1 by omega]
  · rw [if_neg (by omega)]
    exact h k hk (by omega)
theorem trow_s {t : Nat → Int} {o : Nat → Nat} {nn mm : Nat} {L : Nat → Int} {q : Nat} (hq : q < nn) (h : trow t o nn mm L q) (h2 : tcol t o nn mm L q mm) : trow t o nn mm L (q + 1) := by
  intro p h3 h4 k hk
  by_cases hp : p = nn - 1 - q
  · subst hp
    rw [show nn - (nn - 1 - q) = q + 1 by omega]
    exact h2 k hk (by omega)
  · exact h p (by omega) h4 k hk
/-- the next order: the place behind which it changes, the partner, the turning round -/
def pvt (r : Nat → Nat) : Nat → Nat
  | 0 => 0
  | c + 1 => if r c ≤ r (c + 1) then c + 1 else pvt r c
def ptn (r : Nat → Nat) (P : Nat) : Nat → Nat
  | 0 => 0
  | c + 1 => if c + 1 ≤ P + 1 then c + 1 else if r P ≤ r (c + 1) then c + 1 else ptn r P c
def swp (r : Nat → Nat) (a b : Nat) : Nat → Nat := va_up (va_up r a (r b)) b (r a)
def rvs (r : Nat → Nat) (a b : Nat) : Nat → Nat → Nat
  | 0 => r
  | i + 1 => swp (rvs r a b i) (a + i) (b - i)
def nxT (r : Nat → Nat) (nn : Nat) : Nat → Nat :=
  if pvt r (nn - 1) = 0 then r else rvs (swp r (pvt r (nn - 1) - 1) (ptn r (pvt r (nn - 1) - 1) (nn - 1))) (pvt r (nn - 1)) (nn - 1) ((nn - pvt r (nn - 1)) / 2)
theorem pvt_le (r : Nat → Nat) : ∀ c, pvt r c ≤ c
  | 0 => Nat.le_refl _
  | c + 1 => by
    have := pvt_le r c
    unfold pvt
    split <;> omega
theorem ptn_le (r : Nat → Nat) (P : Nat) : ∀ c, ptn r P c ≤ c
  | 0 => Nat.le_refl _
  | c + 1 => by
    have := ptn_le r P c
    unfold ptn
    split
    · exact Nat.le_refl _
    · split
      · exact Nat.le_refl _
      · omega
theorem ptn_gt (r : Nat → Nat) (P : Nat) : ∀ c, P + 1 ≤ c → P + 1 ≤ ptn r P c
  | c + 1, h => by
    unfold ptn
    split
    · exact h
    · split
      · exact h
      · exact ptn_gt r P c (by omega)
theorem swp_lo {r : Nat → Nat} {a b k : Nat} (h : k ≠ a) (h2 : k ≠ b) : swp r a b k = r k := by
  unfold swp va_up
  rw [if_neg h2, if_neg h]
theorem rvs_lo {r : Nat → Nat} {a b k : Nat} (h : k < a) : ∀ i, a + i ≤ b + 1 → 2 * i ≤ b + 1 - a → rvs r a b i k = r k
  | 0, _, _ => rfl
  | i + 1, h1, h2 => by
    unfold rvs
    rw [swp_lo (by omega) (by omega)]
    exact rvs_lo h i (by omega) (by omega)
theorem nxT_lo {r : Nat → Nat} {nn k : Nat} (h : k + 1 < pvt r (nn - 1)) : nxT r nn k = r k := by
  have h1 := pvt_le r (nn - 1)
  have h2 := ptn_gt r (pvt r (nn - 1) - 1) (nn - 1) (by omega)
  unfold nxT
  rw [if_neg (by omega), rvs_lo (by omega) _ (by omega) (by omega), swp_lo (by omega) (by omega)]
theorem swp_lt {r : Nat → Nat} {a b n N : Nat} (ha : a < n) (hb : b < n) (h : ∀ k, k < n → r k < N) : ∀ k, k < n → swp r a b k < N := by
  intro k hk
  unfold swp va_up
  split
  · exact h a ha
  · split
    · exact h b hb
    · exact h k hk
theorem rvs_lt {r : Nat → Nat} {a b n N : Nat} (hb : b < n) (h : ∀ k, k < n → r k < N) : ∀ i, a + i ≤ b + 1 → ∀ k, k < n → rvs r a b i k < N
  | 0, _ => h
  | i + 1, h1 => by
    unfold rvs
    exact swp_lt (by omega) (by omega) (rvs_lt hb h i (by omega))
theorem nxT_lt {r : Nat → Nat} {nn N : Nat} (h : ∀ k, k < nn → r k < N) : ∀ k, k < nn → nxT r nn k < N := by
  intro k hk
  have h1 := pvt_le r (nn - 1)
  have h2 := ptn_le r (pvt r (nn - 1) - 1) (nn - 1)
  unfold nxT
  split
  · exact h k hk
  · exact rvs_lt (by omega) (swp_lt (by omega) (by omega) h) _ (by omega) k hk
def sq (r : Nat → Nat) (nn : Nat) : Nat → Nat → Nat
  | 0 => r
  | i + 1 => nxT (sq r nn i) nn
theorem sq_lt {r : Nat → Nat} {nn N : Nat} (h : ∀ k, k < nn → r k < N) : ∀ i k, k < nn → sq r nn i k < N
  | 0 => h
  | i + 1 => nxT_lt (sq_lt h i)
/-- the first i numbers, then r -/
def idr (r : Nat → Nat) (i : Nat) : Nat → Nat := fun k => if k < i then k else r k
theorem idr_0 (r : Nat → Nat) : idr r 0 = r := by
  funext k
  unfold idr
  rw [if_neg (by omega)]
theorem idr_s {r : Nat → Nat} {i : Nat} : va_up (idr r i) i i = idr r (i + 1) := by
  funext k
  unfold va_up idr
  by_cases h : k = i
  · subst h
    rw [if_pos rfl, if_pos (by omega)]
  · rw [if_neg h]
    by_cases h2 : k < i
    · rw [if_pos h2, if_pos (by omega)]
    · rw [if_neg h2, if_neg (by omega)]
/-- the least of g 0 .. , how many have it, the first that has it -/
def bst (g : Nat → Int) : Nat → Int × Nat × Nat
  | 0 => (0, 0, 0)
  | i + 1 => if (bst g i).2.1 = 0 ∨ g i < (bst g i).1 then (g i, 1, i) else if g i = (bst g i).1 then ((bst g i).1, (bst g i).2.1 + 1, (bst g i).2.2) else bst g i
theorem bst_rg {g : Nat → Int} {K : Int} (hK : 0 ≤ K) (h : ∀ i, 0 ≤ g i ∧ g i ≤ K) : ∀ i, (0 ≤ (bst g i).1 ∧ (bst g i).1 ≤ K) ∧ (bst g i).2.1 ≤ i ∧ (0 < i → (bst g i).2.2 < i)
  | 0 => ⟨⟨Int.le_refl _, hK⟩, Nat.le_refl _, fun h => absurd h (Nat.lt_irrefl _)⟩
  | i + 1 => by
    have h1 := bst_rg hK h i
    have h2 := h i
    unfold bst
    split
    · exact ⟨h2, by simp, fun _ => by simp⟩
    · rename_i hn
      have hi : 0 < i := by
        rcases Nat.eq_zero_or_pos i with q | q
        · subst q
          exact absurd (Or.inl rfl) hn
        · exact q
      split
      · exact ⟨h1.1, by simp only; omega, fun _ => by have := h1.2.2 hi; simp only; omega⟩
      · exact ⟨h1.1, by omega, fun _ => by have := h1.2.2 hi; omega⟩
/-- the first place with the least -/
def amin (g : Nat → Int) : Nat → Nat
  | 0 => 0
  | i + 1 => if g (i + 1) < g (amin g i) then i + 1 else amin g i
theorem amin_le (g : Nat → Int) : ∀ i, amin g i ≤ i
  | 0 => Nat.le_refl _
  | i + 1 => by
    have := amin_le g i
    unfold amin
    split <;> omega
theorem shf_lt {f : Nat → Nat} {a b n N : Nat} (ha : a < n) (hb : b < n) (h : ∀ k, k < n → f k < N) : ∀ k, k < n → shf f a b k < N := by
  intro k hk
  unfold shf va_up sh2 sh1
  split
  · exact h a ha
  · split
    · split
      · exact h _ (by omega)
      · exact h _ (by omega)
    · split
      · exact h _ (by omega)
      · exact h _ (by omega)
theorem shf_cg {f g : Nat → Nat} {a b n : Nat} (ha : a < n) (hb : b < n) (h : ∀ k, k < n → f k = g k) : ∀ k, k < n → shf f a b k = shf g a b k := by
  intro k hk
  unfold shf va_up sh2 sh1
  split
  · exact h a ha
  · split
    · split
      · exact h _ (by omega)
      · exact h _ (by omega)
    · split
      · exact h _ (by omega)
      · exact h _ (by omega)
theorem cpy_in {f g : Nat → Nat} {n k : Nat} (h : k < n) : va_cpy f g 0 0 n k = f k := by
  unfold va_cpy
  rw [if_pos (by omega), show 0 + (k - 0) = k by omega]
theorem nx_pos (f : Nat → Nat) (a b k : Nat) : shf f a b k = if k = b then f a else if a ≤ k ∧ k < b then f (k + 1) else if b < k ∧ k ≤ a then f (k - 1) else f k := by
  unfold shf va_up sh2 sh1
  by_cases h : k = b
  · rw [if_pos h, if_pos h]
  · rw [if_neg h, if_neg h]
    by_cases h1 : a ≤ k ∧ k < b
    · rw [if_pos h1]
      by_cases h2 : a < k + (a - b) ∧ k ≤ a
      · omega
      · rw [if_neg h2, if_pos (by omega)]
    · rw [if_neg h1]
      by_cases h2 : b < k ∧ k ≤ a
      · rw [if_pos h2, if_pos (by omega)]
        rw [if_neg (by omega)]
      · rw [if_neg h2, if_neg (by omega), if_neg (by omega)]
def mkS (t : Nat → Int) (mm : Nat) (o : Nat → Nat) (a c : Nat) (q : Nat) : Int := mk 0 mm t (shf o a q) c
theorem mkS_rg {t : Nat → Int} {mm : Nat} {o : Nat → Nat} {a c : Nat} (hm : 1 ≤ mm ∧ mm ≤ 5) (ht : ∀ k, 0 ≤ t k ∧ t k ≤ 99) (hc : c ≤ 7) : ∀ q, 0 ≤ mkS t mm o a c q ∧ mkS t mm o a c q ≤ 3465 := fun q => mk_rg hm.1 hm.2 ht hc
theorem gb_t {b : Bool} (h : b = true) : iI 1 = iI (if b = true then 1 else 0) := by rw [if_pos h]
theorem gb_f {b : Bool} (h : b = false) : iI 0 = iI (if b = true then 1 else 0) := by rw [h]; rfl
end
section
/-! rows for the search -/
def zfl (f : Nat → Int) (i : Nat) : Nat → Int := fun k => if k < i then 0 else f k
theorem zfl_0 (f : Nat → Int) : zfl f 0 = f := by
  funext k
  unfold zfl
  rw [if_neg (by omega)]
theorem zfl_s {f : Nat → Int} {i : Nat} : va_up (zfl f i) i 0 = zfl f (i + 1) := by
  funext k
  unfold va_up zfl
  by_cases h : k = i
  · subst h
    rw [if_pos rfl, if_pos (by omega)]
  · rw [if_neg h]
    by_cases h2 : k < i
    · rw [if_pos h2, if_pos (by omega)]
    · rw [if_neg h2, if_neg (by omega)]
theorem pvt_y {r : Nat → Nat} {c : Nat} (h0 : 0 < c) (h : r (c - 1) ≤ r c) : pvt r c = c := by
  obtain ⟨q, rfl⟩ : ∃ q, c = q + 1 := ⟨c - 1, by omega⟩
  rw [Nat.add_sub_cancel] at h
  rw [pvt, if_pos h]
theorem pvt_n {r : Nat → Nat} {c : Nat} (h0 : 0 < c) (h : r c < r (c - 1)) : pvt r c = pvt r (c - 1) := by
  obtain ⟨q, rfl⟩ : ∃ q, c = q + 1 := ⟨c - 1, by omega⟩
  rw [Nat.add_sub_cancel] at h ⊢
  rw [pvt, if_neg (by omega)]
theorem ptn_y1 {r : Nat → Nat} {P c : Nat} (h : c ≤ P + 1) : ptn r P c = c := by
  cases c with
  | zero => rfl
  | succ c => rw [ptn, if_pos h]
theorem ptn_y2 {r : Nat → Nat} {P c : Nat} (h : r P ≤ r c) : ptn r P c = c := by
  cases c with
  | zero => rfl
  | succ c =>
    rw [ptn]
    by_cases h2 : c + 1 ≤ P + 1
    · rw [if_pos h2]
    · rw [if_neg h2, if_pos h]
theorem ptn_n {r : Nat → Nat} {P c : Nat} (h1 : P + 1 < c) (h : r c < r P) : ptn r P c = ptn r P (c - 1) := by
  obtain ⟨q, rfl⟩ : ∃ q, c = q + 1 := ⟨c - 1, by omega⟩
  rw [Nat.add_sub_cancel, ptn, if_neg (by omega), if_neg (by omega)]
/-- makespans of the orders one behind another -/
def gsq (v mm : Nat) (t : Nat → Int) (r : Nat → Nat) (nn i : Nat) : Int := mk v mm t (sq r nn i) nn
theorem gsq_rg {v mm : Nat} {t : Nat → Int} {r : Nat → Nat} {nn : Nat} (hm : 1 ≤ mm ∧ mm ≤ 5) (ht : ∀ k, 0 ≤ t k ∧ t k ≤ 99) (hn : nn ≤ 7) : ∀ i, 0 ≤ gsq v mm t r nn i ∧ gsq v mm t r nn i ≤ 3465 := fun i => mk_rg hm.1 hm.2 ht hn
/-- what is kept of the first y orders -/
def BS (v nn : Nat) (zM zN : Nat → Int) (oJ r : Nat → Nat) (g : Nat → Int) (y : Nat) (M N : Nat → Int) (J : Nat → Nat) : Prop :=
  (∀ x, x ≠ v → M x = zM x) ∧ (∀ x, x ≠ v → N x = zN x) ∧ (0 < y → M v = (bst g y).1) ∧ N v = ((bst g y).2.1 : Int) ∧ (0 < y → ∀ k, k < nn → J (7 * v + k) = sq r nn (bst g y).2.2 k) ∧ ∀ k, (k < 7 * v ∨ 7 * v + nn ≤ k) → J k = oJ k
theorem BS_0 {v nn : Nat} {zM zN : Nat → Int} {oJ r : Nat → Nat} {g : Nat → Int} : BS v nn zM zN oJ r g 0 zM (va_up zN v 0) oJ :=
  ⟨fun _ _ => rfl, fun x hx => if_neg hx, fun h => absurd h (Nat.lt_irrefl _), if_pos rfl, fun h => absurd h (Nat.lt_irrefl _), fun _ _ => rfl⟩
theorem bst_pos {g : Nat → Int} : ∀ {i : Nat}, 0 < i → 0 < (bst g i).2.1
  | i + 1, _ => by
    unfold bst
    split
    · exact Nat.one_pos
    · rename_i h
      split
      · exact Nat.succ_pos _
      · exact Nat.pos_of_ne_zero (fun q => h (Or.inl q))
theorem BS_A {v nn : Nat} {zM zN : Nat → Int} {oJ r : Nat → Nat} {g : Nat → Int} {y : Nat} {M N : Nat → Int} {J : Nat → Nat} (h : BS v nn zM zN oJ r g y M N J) (hC : N v = 0 ∨ g y < M v) : BS v nn zM zN oJ r g (y + 1) (va_up M v (g y)) (va_up (va_up N v 0) v 1) (va_cpy (sq r nn y) J 0 (7 * v) nn) := by
  obtain ⟨h1, h2, h3, h4, h5, h6⟩ := h
  have hC2 : (bst g y).2.1 = 0 ∨ g y < (bst g y).1 := by
    rcases Nat.eq_zero_or_pos y with q | q
    · subst q
      exact Or.inl rfl
    · have := h3 q
      rcases hC with c | c
      · exact Or.inl (by omega)
      · exact Or.inr (by omega)
  have e : bst g (y + 1) = (g y, 1, y) := by rw [bst, if_pos hC2]
  refine ⟨fun x hx => ?_, fun x hx => ?_, fun _ => ?_, ?_, fun _ k hk => ?_, fun k hk => ?_⟩
  · exact (if_neg hx).trans (h1 x hx)
  · exact (if_neg hx).trans ((if_neg hx).trans (h2 x hx))
  · rw [e]
    exact if_pos rfl
  · rw [e]
    exact if_pos rfl
  · rw [e]
    unfold va_cpy
    rw [if_pos (by omega), show 0 + (7 * v + k - 7 * v) = k by omega]
  · unfold va_cpy
    rw [if_neg (by omega)]
    exact h6 k hk
theorem BS_B {v nn : Nat} {zM zN : Nat → Int} {oJ r : Nat → Nat} {g : Nat → Int} {y : Nat} {M N : Nat → Int} {J : Nat → Nat} (h : BS v nn zM zN oJ r g y M N J) (hC : ¬ (N v = 0 ∨ g y < M v)) : BS v nn zM zN oJ r g (y + 1) M (if g y = M v then va_up N v (N v + 1) else N) J := by
  obtain ⟨h1, h2, h3, h4, h5, h6⟩ := h
  have hy : 0 < y := by
    rcases Nat.eq_zero_or_pos y with q | q
    · subst q
      exact absurd (Or.inl h4) hC
    · exact q
  have h3' := h3 hy
  have hC2 : ¬ ((bst g y).2.1 = 0 ∨ g y < (bst g y).1) := fun q => hC (q.elim (fun a => Or.inl (by omega)) (fun a => Or.inr (by omega)))
  by_cases hq : g y = M v
  · have e : bst g (y + 1) = ((bst g y).1, (bst g y).2.1 + 1, (bst g y).2.2) := by rw [bst, if_neg hC2, if_pos (by omega)]
    rw [if_pos hq]
    refine ⟨h1, fun x hx => (if_neg hx).trans (h2 x hx), fun _ => by rw [e]; exact h3', ?_, fun _ k hk => by rw [e]; exact h5 hy k hk, h6⟩
    rw [e]
    refine (if_pos rfl).trans ?_
    simp only
    omega
  · have e : bst g (y + 1) = bst g y := by rw [bst, if_neg hC2, if_neg (by omega)]
    rw [if_neg hq]
    exact ⟨h1, h2, fun _ => by rw [e]; exact h3', by rw [e]; exact h4, fun _ k hk => by rw [e]; exact h5 hy k hk, h6⟩
end
section
/-! rows for the calls of the face -/
def tzr (t : Nat → Int) (w i c : Nat) : Nat → Int := fun x => if w ≤ x % 5 ∧ (x / 5 < i ∨ (x / 5 = i ∧ x % 5 < w + c)) then 0 else t x
theorem tzr_0 (t : Nat → Int) (w : Nat) : tzr t w 0 0 = t := by
  funext x
  unfold tzr
  rw [if_neg (by omega)]
theorem tzr_s {t : Nat → Int} {w i c : Nat} (h : w + c < 5) : va_up (tzr t w i c) (5 * i + (w + c)) 0 = tzr t w i (c + 1) := by
  funext x
  unfold va_up tzr
  by_cases h1 : x = 5 * i + (w + c)
  · subst h1
    rw [if_pos rfl, if_pos (by omega)]
  · rw [if_neg h1]
    by_cases h2 : w ≤ x % 5 ∧ (x / 5 < i ∨ (x / 5 = i ∧ x % 5 < w + c))
    · rw [if_pos h2, if_pos (by omega)]
    · rw [if_neg h2, if_neg (by omega)]
theorem tzr_n {t : Nat → Int} {w i : Nat} (h : w ≤ 5) : tzr t w i (5 - w) = tzr t w (i + 1) 0 := by
  funext x
  unfold tzr
  by_cases h2 : w ≤ x % 5 ∧ (x / 5 < i ∨ (x / 5 = i ∧ x % 5 < w + (5 - w)))
  · rw [if_pos h2, if_pos (by omega)]
  · rw [if_neg h2, if_neg (by omega)]
/-- the order by insertion, out of a queue -/
def ini (t : Nat → Int) (mm : Nat) (o q : Nat → Nat) : Nat → Nat → Nat
  | 0 => o
  | i + 1 => shf (va_up (ini t mm o q i) i (q i)) i (amin (mkS t mm (va_up (ini t mm o q i) i (q i)) i (i + 1)) i)
theorem up_lt {f : Nat → Nat} {a x n N : Nat} (hx : x < N) (h : ∀ k, k < n → f k < N) : ∀ k, k < n → va_up f a x k < N := by
  intro k hk
  unfold va_up
  split
  · exact hx
  · exact h k hk
theorem ini_lt {t : Nat → Int} {mm n N : Nat} {o q : Nat → Nat} (ho : ∀ k, k < n → o k < N) (hq : ∀ k, k < n → q k < N) : ∀ i, i ≤ n → ∀ k, k < n → ini t mm o q i k < N
  | 0, _ => ho
  | i + 1, hi => by
    have h := amin_le (mkS t mm (va_up (ini t mm o q i) i (q i)) i (i + 1)) i
    exact shf_lt (by omega) (by omega) (up_lt (hq i (by omega)) (ini_lt ho hq i (by omega)))
/-- the best move: over places from, to -/
def stp (f : Nat → Nat → Int) (a b : Nat) (s : Int × Nat × Nat) : Int × Nat × Nat := if f a b < s.1 then (f a b, a, b) else s
def inr (f : Nat → Nat → Int) (a : Nat) (s : Int × Nat × Nat) : Nat → Int × Nat × Nat
  | 0 => s
  | j + 1 => stp f a j (inr f a s j)
def otr (f : Nat → Nat → Int) (n : Nat) (s : Int × Nat × Nat) : Nat → Int × Nat × Nat
  | 0 => s
  | i + 1 => inr f i (otr f n s i) n
def okS (n : Nat) (L K : Int) (s : Int × Nat × Nat) : Prop := (0 ≤ s.1 ∧ s.1 ≤ K) ∧ (s.1 < L → s.2.1 < n ∧ s.2.2 < n) ∧ s.2.1 ≤ n ∧ s.2.2 ≤ n
theorem stp_ok {f : Nat → Nat → Int} {n a b : Nat} {L K : Int} {s : Int × Nat × Nat} (hf : ∀ a b, 0 ≤ f a b ∧ f a b ≤ K) (ha : a < n) (hb : b < n) (h : okS n L K s) : okS n L K (stp f a b s) := by
  unfold stp
  split
  · exact ⟨hf a b, fun _ => ⟨ha, hb⟩, Nat.le_of_lt ha, Nat.le_of_lt hb⟩
  · exact h
theorem inr_ok {f : Nat → Nat → Int} {n a : Nat} {L K : Int} {s : Int × Nat × Nat} (hf : ∀ a b, 0 ≤ f a b ∧ f a b ≤ K) (ha : a < n) (h : okS n L K s) : ∀ j, j ≤ n → okS n L K (inr f a s j)
  | 0, _ => h
  | j + 1, hj => stp_ok hf ha (by omega) (inr_ok hf ha h j (by omega))
theorem otr_ok {f : Nat → Nat → Int} {n : Nat} {L K : Int} {s : Int × Nat × Nat} (hf : ∀ a b, 0 ≤ f a b ∧ f a b ≤ K) (h : okS n L K s) : ∀ i, i ≤ n → okS n L K (otr f n s i)
  | 0, _ => h
  | i + 1, hi => inr_ok hf (by omega) (otr_ok hf h i (by omega)) n (Nat.le_refl _)
def imF (t : Nat → Int) (mm : Nat) (o : Nat → Nat) (nn : Nat) (a b : Nat) : Int := mkS t mm o a nn b
def im0 (t : Nat → Int) (mm : Nat) (o : Nat → Nat) (nn : Nat) : Int × Nat × Nat := (mk 0 mm t o nn, 0, 0)
def imS (t : Nat → Int) (mm : Nat) (o : Nat → Nat) (nn i : Nat) : Int × Nat × Nat := otr (imF t mm o nn) nn (im0 t mm o nn) i
def imT (t : Nat → Int) (mm : Nat) (o : Nat → Nat) (nn i j : Nat) : Int × Nat × Nat := inr (imF t mm o nn) i (imS t mm o nn i) j
theorem imF_rg {t : Nat → Int} {mm : Nat} {o : Nat → Nat} {nn : Nat} (hm : 1 ≤ mm ∧ mm ≤ 5) (ht : ∀ k, 0 ≤ t k ∧ t k ≤ 99) (hn : nn ≤ 7) : ∀ a b, 0 ≤ imF t mm o nn a b ∧ imF t mm o nn a b ≤ 3465 := fun a b => mkS_rg hm ht hn b
theorem im0_ok {t : Nat → Int} {mm : Nat} {o : Nat → Nat} {nn : Nat} (hm : 1 ≤ mm ∧ mm ≤ 5) (ht : ∀ k, 0 ≤ t k ∧ t k ≤ 99) (hn : nn ≤ 7) : okS nn (mk 0 mm t o nn) 3465 (im0 t mm o nn) :=
  ⟨mk_rg hm.1 hm.2 ht hn, fun h => absurd h (Int.lt_irrefl _), Nat.zero_le _, Nat.zero_le _⟩
theorem imS_ok {t : Nat → Int} {mm : Nat} {o : Nat → Nat} {nn : Nat} (hm : 1 ≤ mm ∧ mm ≤ 5) (ht : ∀ k, 0 ≤ t k ∧ t k ≤ 99) (hn : nn ≤ 7) {i : Nat} (hi : i ≤ nn) : okS nn (mk 0 mm t o nn) 3465 (imS t mm o nn i) := otr_ok (imF_rg hm ht hn) (im0_ok hm ht hn) i hi
theorem imT_ok {t : Nat → Int} {mm : Nat} {o : Nat → Nat} {nn : Nat} (hm : 1 ≤ mm ∧ mm ≤ 5) (ht : ∀ k, 0 ≤ t k ∧ t k ≤ 99) (hn : nn ≤ 7) {i j : Nat} (hi : i < nn) (hj : j ≤ nn) : okS nn (mk 0 mm t o nn) 3465 (imT t mm o nn i j) := inr_ok (imF_rg hm ht hn) hi (imS_ok hm ht hn (by omega)) j hj
theorem imT_y {t : Nat → Int} {mm : Nat} {o : Nat → Nat} {nn i j : Nat} (h : mkS t mm o i nn j < (imT t mm o nn i j).1) : imT t mm o nn i (j + 1) = (mkS t mm o i nn j, i, j) := if_pos h
theorem imT_n {t : Nat → Int} {mm : Nat} {o : Nat → Nat} {nn i j : Nat} (h : ¬ mkS t mm o i nn j < (imT t mm o nn i j).1) : imT t mm o nn i (j + 1) = imT t mm o nn i j := if_neg h
/-- sums of ends -/
def toC (t : Nat → Int) (mm : Nat) (o : Nat → Nat) : Nat → Int
  | 0 => 0
  | i + 1 => toC t mm o i + mk 0 mm t o (i + 1)
theorem toC_rg {t : Nat → Int} {mm : Nat} {o : Nat → Nat} (hm : 1 ≤ mm ∧ mm ≤ 5) (ht : ∀ k, 0 ≤ t k ∧ t k ≤ 99) : ∀ c, c ≤ 7 → 0 ≤ toC t mm o c ∧ toC t mm o c ≤ 3465 * c
  | 0, _ => ⟨Int.le_refl _, Int.le_refl _⟩
  | c + 1, h => by
    have := toC_rg (o := o) hm ht c (by omega)
    have := mk_rg (v := 0) (o := o) hm.1 hm.2 ht h
    unfold toC
    constructor <;> omega
/-- how many orders there are -/
def fac : Nat → Nat
  | 0 => 1
  | n + 1 => (n + 1) * fac n
theorem fac_le {nn : Nat} (h : nn ≤ 7) : 1 ≤ fac nn ∧ fac nn ≤ 5040 := by
  rcases (show nn = 0 ∨ nn = 1 ∨ nn = 2 ∨ nn = 3 ∨ nn = 4 ∨ nn = 5 ∨ nn = 6 ∨ nn = 7 by omega) with rfl | rfl | rfl | rfl | rfl | rfl | rfl | rfl <;> decide
def nId : Nat → Nat := fun k => k
/-- the orders from the first one on end at the last of fac nn -/
def Enu (nn : Nat) : Prop := (∀ i, i + 1 < fac nn → 1 ≤ pvt (sq nId nn i) (nn - 1)) ∧ pvt (sq nId nn (fac nn - 1)) (nn - 1) = 0
theorem pvt_cg {r r' : Nat → Nat} : ∀ {c : Nat}, (∀ k, k ≤ c → r k = r' k) → pvt r c = pvt r' c
  | 0, _ => rfl
  | c + 1, h => by
    unfold pvt
    rw [h c (by omega), h (c + 1) (by omega), pvt_cg (fun k hk => h k (by omega))]
theorem ptn_cg {r r' : Nat → Nat} {P : Nat} : ∀ {c : Nat}, r P = r' P → (∀ k, k ≤ c → r k = r' k) → ptn r P c = ptn r' P c
  | 0, _, _ => rfl
  | c + 1, h0, h => by
    unfold ptn
    rw [h0, h (c + 1) (by omega), ptn_cg h0 (fun k hk => h k (by omega))]
theorem swp_cg {r r' : Nat → Nat} {a b n : Nat} (ha : a < n) (hb : b < n) (h : ∀ k, k < n → r k = r' k) : ∀ k, k < n → swp r a b k = swp r' a b k := by
  intro k hk
  unfold swp va_up
  rw [h a ha, h b hb, h k hk]
theorem rvs_cg {r r' : Nat → Nat} {a b n : Nat} (hb : b < n) (h : ∀ k, k < n → r k = r' k) : ∀ i, a + i ≤ b + 1 → ∀ k, k < n → rvs r a b i k = rvs r' a b i k
  | 0, _ => h
  | i + 1, h1 => by
    unfold rvs
    exact swp_cg (by omega) (by omega) (rvs_cg hb h i (by omega))
theorem nxT_cg {r r' : Nat → Nat} {nn : Nat} (h : ∀ k, k < nn → r k = r' k) : ∀ k, k < nn → nxT r nn k = nxT r' nn k := by
  intro k hk
  have h1 := pvt_le r' (nn - 1)
  have e1 : pvt r (nn - 1) = pvt r' (nn - 1) := pvt_cg (fun k hk => h k (by omega))
  unfold nxT
  rw [e1]
  split
  · exact h k hk
  · have h2 := ptn_le r' (pvt r' (nn - 1) - 1) (nn - 1)
    rw [ptn_cg (h _ (by omega)) (fun k hk => h k (by omega))]
    exact rvs_cg (by omega) (swp_cg (by omega) (by omega) h) _ (by omega) k hk
theorem sq_cg {r r' : Nat → Nat} {nn : Nat} (h : ∀ k, k < nn → r k = r' k) : ∀ i k, k < nn → sq r nn i k = sq r' nn i k
  | 0 => h
  | i + 1 => nxT_cg (sq_cg h i)
theorem sq_pvt {r : Nat → Nat} {nn i : Nat} (h : ∀ k, k < nn → r k = nId k) : pvt (sq r nn i) (nn - 1) = pvt (sq nId nn i) (nn - 1) := by
  cases nn with
  | zero => rfl
  | succ n => exact pvt_cg (fun k hk => sq_cg h i k (by omega))
theorem idr_id {r : Nat → Nat} {nn : Nat} : ∀ k, k < nn → idr r nn k = nId k := fun k hk => if_pos hk
theorem gsq_cg {v mm : Nat} {t : Nat → Int} {r r' : Nat → Nat} {nn : Nat} (h : ∀ k, k < nn → r k = r' k) : gsq v mm t r nn = gsq v mm t r' nn := by
  funext i
  exact mk_cg (sq_cg h i)
/-- what the search finds: the least, how many, which is the first -/
def sol (v mm : Nat) (t : Nat → Int) (nn : Nat) : Int × Nat × Nat := bst (gsq v mm t nId nn) (fac nn)
def solJ (v mm : Nat) (t : Nat → Int) (nn : Nat) : Nat → Nat := sq nId nn (sol v mm t nn).2.2
/-- what is kept of a variant holds -/
def CV (v mm : Nat) (t : Nat → Int) (nn : Nat) (M N : Nat → Int) (J : Nat → Nat) : Prop := M v = (sol v mm t nn).1 ∧ N v = ((sol v mm t nn).2.1 : Int) ∧ ∀ k, k < nn → J (7 * v + k) = solJ v mm t nn k
def CK (mm : Nat) (t : Nat → Int) (nn : Nat) (S M N : Nat → Int) (J : Nat → Nat) : Prop := ∀ v, v ≤ 2 → S v = 0 ∨ (S v = 1 ∧ CV v mm t nn M N J)
theorem sol_rg {v mm : Nat} {t : Nat → Int} {nn : Nat} (hm : 1 ≤ mm ∧ mm ≤ 5) (ht : ∀ k, 0 ≤ t k ∧ t k ≤ 99) (hn : nn ≤ 7) : (0 ≤ (sol v mm t nn).1 ∧ (sol v mm t nn).1 ≤ 3465) ∧ 1 ≤ (sol v mm t nn).2.1 ∧ (sol v mm t nn).2.1 ≤ 5040 := by
  have h := bst_rg (g := gsq v mm t nId nn) (K := 3465) (by omega) (gsq_rg hm ht hn) (fac nn)
  have h2 := fac_le hn
  have h3 : 0 < (sol v mm t nn).2.1 := bst_pos h2.1
  unfold sol at h3 ⊢
  omega
theorem CK_0 {mm : Nat} {t : Nat → Int} {nn : Nat} {S M N : Nat → Int} {J : Nat → Nat} : CK mm t nn (zfl S 3) M N J := fun v hv => Or.inl (if_pos (by omega))
/-- behind the search of a variant -/
theorem CK_s {v mm : Nat} {t : Nat → Int} {nn : Nat} {S M N M2 N2 : Nat → Int} {J J2 r : Nat → Nat} (hn : nn ≤ 7) (hv : v ≤ 2) (hr : ∀ k, k < nn → r k = nId k) (h : CK mm t nn S M N J) (hB : BS v nn M N J r (gsq v mm t r nn) (fac nn) M2 N2 J2) : CK mm t nn (va_up S v 1) M2 N2 J2 ∧ CV v mm t nn M2 N2 J2 := by
  have hf := (fac_le hn).1
  obtain ⟨h1, h2, h3, h4, h5, h6⟩ := hB
  rw [gsq_cg hr] at h3 h4 h5
  have hc : CV v mm t nn M2 N2 J2 := ⟨h3 hf, h4, fun k hk => (h5 hf k hk).trans (sq_cg hr _ k hk)⟩
  refine ⟨fun w hw => ?_, hc⟩
  by_cases hwv : w = v
  · subst hwv
    exact Or.inr ⟨if_pos rfl, hc⟩
  · rcases h w hw with q | ⟨q1, q2, q3, q4⟩
    · exact Or.inl ((if_neg hwv).trans q)
    · refine Or.inr ⟨(if_neg hwv).trans q1, (h1 w hwv).trans q2, (h2 w hwv).trans q3, fun k hk => (h6 _ ?_).trans (q4 k hk)⟩
      omega
end
section
section
variable {l : Launch} {D : va_G} {cI cZ cJ : ClassId} {ad bd : Nat → Nat} {a0 : Nat} {ws : va_W} {nn mm : Nat} {th bm : Int} {tT tB tE tL : Nat → Int} {oO oR oQ : Nat → Nat} {zS zM zN : Nat → Int} {oJ fF : Nat → Nat}
set_option maxHeartbeats 4000000 in
set_option maxRecDepth 100000 in
theorem mX0_cell {r k : Int} : PM l yX0_cell wsX0_cell (rmx 0 0) D (tyk cI cZ cJ) (ws) [.int (iI (r)), .int (iI (k))] (vp_Si (fun x => x = iI (5 * r + k))) := by
  refine pmI_of (cc := cX0_cell) (maxL := 2) (by decide) rfl (Nat.le_of_ble_eq_true rfl) ?_
  intro p e s m args below meth c Q hx hb hml hown hts hK hP hret ls hl
  have hown : s.vm.findClass RX0 = some m.cls := hown
  have hl : lv_has ls 2 [(0, .int (iI (r))), (1, .int (iI (k)))] := hl
  refine lv_iload_n hx hb dX0_cell_0 rfl (lv_at hl 0 rfl) ?_
  refine lv_iconst (v := iI 5) hx hb dX0_cell_1 rfl ?_
  refine w_imul (z := 5 * r) hx hb dX0_cell_2 (by omega) ?_
  refine lv_iload_n hx hb dX0_cell_3 rfl (lv_at hl 1 rfl) ?_
  refine w_iadd (z := 5 * r + k) hx hb dX0_cell_4 (by omega) ?_
  exact hret 5 ls _ (rfl) dX0_cell_5
set_option maxHeartbeats 4000000 in
set_option maxRecDepth 100000 in
theorem mX0_timeOf {j k : Nat} (hj : j < 7) (hk : k < 5) : PM l yX0_timeOf wsX0_timeOf (rmx 1 21) D (tyk cI cZ cJ) (xw ad cI cZ nn mm tT tB tE tL oO oR oQ zS zM zN oJ) [.ref (ad 0), .int (iI ((j : Int))), .int (iI ((k : Int)))] (vp_Si (fun x => x = iI (tT (5 * j + k)))) := by
  refine pmI_of (cc := cX0_timeOf) (maxL := 3) (by decide) rfl (Nat.le_of_ble_eq_true rfl) ?_
  intro p e s m args below meth c Q hx hb hml hown hts hK hP hret ls hl
  have hown : s.vm.findClass RX0 = some m.cls := hown
  have hl : lv_has ls 3 [(0, .ref (ad 0)), (1, .int (iI ((j : Int)))), (2, .int (iI ((k : Int))))] := hl
  have inW : ∀ w ∈ wsX00, w ∈ wsX0_timeOf := by first | exact (fun w h => List.mem_cons_of_mem _ (List.mem_append_right _ h)) | exact (fun w h => List.mem_cons_of_mem _ (List.mem_append_left _ (List.mem_append_right _ h))) | exact (fun w h => List.mem_cons_of_mem _ (List.mem_append_left _ (List.mem_append_left _ (List.mem_append_right _ h)))) | decide +kernel
  refine lv_iload_n hx hb dX0_timeOf_0 rfl (lv_at hl 1 rfl) ?_
  refine w_if_lt (tgt := 19) hx hb dX0_timeOf_1 (by decide) ⟨by omega, by omega⟩ (fun c1 => absurd c1 (by omega)) (fun c1 => ?_)
  refine lv_iload_n hx hb dX0_timeOf_4 rfl (lv_at hl 1 rfl) ?_
  refine lv_bipush (v := iI 7) hx hb dX0_timeOf_5 (by decide) ?_
  refine w_icmp_ge (tgt := 19) hx hb dX0_timeOf_7 (by decide) ⟨by omega, by omega⟩ ⟨by omega, by omega⟩ (fun c7 => absurd c7 (by omega)) (fun c7 => ?_)
  refine lv_iload_n hx hb dX0_timeOf_10 rfl (lv_at hl 2 rfl) ?_
  refine w_if_lt (tgt := 19) hx hb dX0_timeOf_11 (by decide) ⟨by omega, by omega⟩ (fun c11 => absurd c11 (by omega)) (fun c11 => ?_)
  refine lv_iload_n hx hb dX0_timeOf_14 rfl (lv_at hl 2 rfl) ?_
  refine lv_iconst (v := iI 5) hx hb dX0_timeOf_15 rfl ?_
  refine w_icmp_lt (tgt := 21) hx hb dX0_timeOf_16 (by decide) ⟨by omega, by omega⟩ ⟨by omega, by omega⟩ (fun c16 => ?_) (fun c16 => absurd c16 (by omega))
  refine lv_aload_n hx hb dX0_timeOf_21 rfl (lv_at hl 0 rfl) ?_
  refine va_get (D := D) (ci := 0) (C := RX0) (T := TX0) (N := 13) hx hb hts inW hown hK hP 0 rfl rfl 2 (by decide) (hts (.fieldLink RX0 16 "Flowforge" "times" "[I") (List.mem_of_getElem? (i := 1) rfl)) (fun _ h9 => h9) rfl dX0_timeOf_22 ?_
  refine lv_iload_n hx hb dX0_timeOf_25 rfl (lv_at hl 1 rfl) ?_
  refine lv_iload_n hx hb dX0_timeOf_26 rfl (lv_at hl 2 rfl) ?_
  refine w_pS (As := [.int (iI ((j : Int))), .int (iI ((k : Int)))]) (rest := [.ref (ad 1)]) ⟨hx, hb, hml, hown, hts⟩ hK hP (mX0_cell  ) (va_cwS 2 hts gX0_timeOf_X0_cell rfl rfl rfl (by decide +kernel) ⟨Nat.le_of_ble_eq_true rfl, Nat.le_of_ble_eq_true rfl⟩) rfl hl.1 rfl (Nat.le_of_ble_eq_true rfl) dX0_timeOf_27 ⟨Nat.zero_le _, Nat.zero_le _⟩ (fun r27 hr27 => ?_)
  refine w_top (v := iI (5 * (j : Int) + (k : Int))) (hr27.trans (congrArg iI (by omega))) ?_
  refine w_iald (v := iI (tT (5 * j + k))) hx hb hK hP 1 0 rfl rfl (5 * j + k) (by omega) (by omega) (by decide) rfl dX0_timeOf_30 ?_
  exact hret 31 ls _ (rfl) dX0_timeOf_31
set_option maxHeartbeats 4000000 in
set_option maxRecDepth 100000 in
theorem mX0_requireJob {x : Int} (hn : nn ≤ 7) (hm : mm ≤ 5) (h0 : 0 ≤ x) (h1 : x < (nn : Int)) : PM l yX0_requireJob wsX0_requireJob (rmx 0 0) D (tyk cI cZ cJ) (xw ad cI cZ nn mm tT tB tE tL oO oR oQ zS zM zN oJ) [.ref (ad 0), .int (iI (x))] (va_Sv (fun _ => True)) := by
  refine pmV_of (cc := cX0_requireJob) (maxL := 2) (by decide) rfl (Nat.le_of_ble_eq_true rfl) ?_
  intro p e s m args below meth c Q hx hb hml hown hts hK hP hret ls hl
  have hown : s.vm.findClass RX0 = some m.cls := hown
  have hl : lv_has ls 2 [(0, .ref (ad 0)), (1, .int (iI (x)))] := hl
  have inW : ∀ w ∈ wsX00, w ∈ wsX0_requireJob := by first | exact (fun w h => List.mem_cons_of_mem _ (List.mem_append_right _ h)) | exact (fun w h => List.mem_cons_of_mem _ (List.mem_append_left _ (List.mem_append_right _ h))) | exact (fun w h => List.mem_cons_of_mem _ (List.mem_append_left _ (List.mem_append_left _ (List.mem_append_right _ h)))) | decide +kernel
  refine lv_iload_n hx hb dX0_requireJob_0 rfl (lv_at hl 1 rfl) ?_
  refine w_if_lt (tgt := 12) hx hb dX0_requireJob_1 (by decide) ⟨by omega, by omega⟩ (fun c1 => absurd c1 (by omega)) (fun c1 => ?_)
  refine lv_iload_n hx hb dX0_requireJob_4 rfl (lv_at hl 1 rfl) ?_
  refine lv_aload_n hx hb dX0_requireJob_5 rfl (lv_at hl 0 rfl) ?_
  refine va_get (D := D) (ci := 0) (C := RX0) (T := TX0) (N := 13) hx hb hts inW hown hK hP 0 rfl rfl 0 (by decide) (hts (.fieldLink RX0 7 "Flowforge" "jobCount" "I") (List.mem_of_getElem? (i := 3) rfl)) (fun _ h9 => h9) rfl dX0_requireJob_6 ?_
  refine w_icmp_lt (tgt := 22) hx hb dX0_requireJob_9 (by decide) ⟨by omega, by omega⟩ ⟨by omega, by omega⟩ (fun c9 => ?_) (fun c9 => absurd c9 (by omega))
  exact hret 22 ls (trivial) dX0_requireJob_22
set_option maxHeartbeats 4000000 in
set_option maxRecDepth 100000 in
theorem mX0_requirePlace {x : Int} (hn : nn ≤ 7) (hm : mm ≤ 5) (h0 : 0 ≤ x) (h1 : x < (nn : Int)) : PM l yX0_requirePlace wsX0_requirePlace (rmx 0 0) D (tyk cI cZ cJ) (xw ad cI cZ nn mm tT tB tE tL oO oR oQ zS zM zN oJ) [.ref (ad 0), .int (iI (x))] (va_Sv (fun _ => True)) := by
  refine pmV_of (cc := cX0_requirePlace) (maxL := 2) (by decide) rfl (Nat.le_of_ble_eq_true rfl) ?_
  intro p e s m args below meth c Q hx hb hml hown hts hK hP hret ls hl
  have hown : s.vm.findClass RX0 = some m.cls := hown
  have hl : lv_has ls 2 [(0, .ref (ad 0)), (1, .int (iI (x)))] := hl
  have inW : ∀ w ∈ wsX00, w ∈ wsX0_requirePlace := by first | exact (fun w h => List.mem_cons_of_mem _ (List.mem_append_right _ h)) | exact (fun w h => List.mem_cons_of_mem _ (List.mem_append_left _ (List.mem_append_right _ h))) | exact (fun w h => List.mem_cons_of_mem _ (List.mem_append_left _ (List.mem_append_left _ (List.mem_append_right _ h)))) | decide +kernel
  refine lv_iload_n hx hb dX0_requirePlace_0 rfl (lv_at hl 1 rfl) ?_
  refine w_if_lt (tgt := 12) hx hb dX0_requirePlace_1 (by decide) ⟨by omega, by omega⟩ (fun c1 => absurd c1 (by omega)) (fun c1 => ?_)
  refine lv_iload_n hx hb dX0_requirePlace_4 rfl (lv_at hl 1 rfl) ?_
  refine lv_aload_n hx hb dX0_requirePlace_5 rfl (lv_at hl 0 rfl) ?_
  refine va_get (D := D) (ci := 0) (C := RX0) (T := TX0) (N := 13) hx hb hts inW hown hK hP 0 rfl rfl 0 (by decide) (hts (.fieldLink RX0 7 "Flowforge" "jobCount" "I") (List.mem_of_getElem? (i := 3) rfl)) (fun _ h9 => h9) rfl dX0_requirePlace_6 ?_
  refine w_icmp_lt (tgt := 22) hx hb dX0_requirePlace_9 (by decide) ⟨by omega, by omega⟩ ⟨by omega, by omega⟩ (fun c9 => ?_) (fun c9 => absurd c9 (by omega))
  exact hret 22 ls (trivial) dX0_requirePlace_22
set_option maxHeartbeats 4000000 in
set_option maxRecDepth 100000 in
theorem mX0_requireMachine {x : Int} (hn : nn ≤ 7) (hm : mm ≤ 5) (h0 : 0 ≤ x) (h1 : x < (mm : Int)) : PM l yX0_requireMachine wsX0_requireMachine (rmx 0 0) D (tyk cI cZ cJ) (xw ad cI cZ nn mm tT tB tE tL oO oR oQ zS zM zN oJ) [.ref (ad 0), .int (iI (x))] (va_Sv (fun _ => True)) := by
  refine pmV_of (cc := cX0_requireMachine) (maxL := 2) (by decide) rfl (Nat.le_of_ble_eq_true rfl) ?_
  intro p e s m args below meth c Q hx hb hml hown hts hK hP hret ls hl
  have hown : s.vm.findClass RX0 = some m.cls := hown
  have hl : lv_has ls 2 [(0, .ref (ad 0)), (1, .int (iI (x)))] := hl
  have inW : ∀ w ∈ wsX00, w ∈ wsX0_requireMachine := by first | exact (fun w h => List.mem_cons_of_mem _ (List.mem_append_right _ h)) | exact (fun w h => List.mem_cons_of_mem _ (List.mem_append_left _ (List.mem_append_right _ h))) | exact (fun w h => List.mem_cons_of_mem _ (List.mem_append_left _ (List.mem_append_left _ (List.mem_append_right _ h)))) | decide +kernel
  refine lv_iload_n hx hb dX0_requireMachine_0 rfl (lv_at hl 1 rfl) ?_
  refine w_if_lt (tgt := 12) hx hb dX0_requireMachine_1 (by decide) ⟨by omega, by omega⟩ (fun c1 => absurd c1 (by omega)) (fun c1 => ?_)
  refine lv_iload_n hx hb dX0_requireMachine_4 rfl (lv_at hl 1 rfl) ?_
  refine lv_aload_n hx hb dX0_requireMachine_5 rfl (lv_at hl 0 rfl) ?_
  refine va_get (D := D) (ci := 0) (C := RX0) (T := TX0) (N := 13) hx hb hts inW hown hK hP 0 rfl rfl 1 (by decide) (hts (.fieldLink RX0 13 "Flowforge" "machineCount" "I") (List.mem_of_getElem? (i := 3) rfl)) (fun _ h9 => h9) rfl dX0_requireMachine_6 ?_
  refine w_icmp_lt (tgt := 22) hx hb dX0_requireMachine_9 (by decide) ⟨by omega, by omega⟩ ⟨by omega, by omega⟩ (fun c9 => ?_) (fun c9 => absurd c9 (by omega))
  exact hret 22 ls (trivial) dX0_requireMachine_22
set_option maxHeartbeats 4000000 in
set_option maxRecDepth 100000 in
theorem mX0_requireVariant {x : Int} (h0 : 0 ≤ x) (h1 : x < 3) : PM l yX0_requireVariant wsX0_requireVariant (rmx 0 0) D (tyk cI cZ cJ) (ws) [.int (iI (x))] (va_Sv (fun _ => True)) := by
  refine pmV_of (cc := cX0_requireVariant) (maxL := 1) (by decide) rfl (Nat.le_of_ble_eq_true rfl) ?_
  intro p e s m args below meth c Q hx hb hml hown hts hK hP hret ls hl
  have hown : s.vm.findClass RX0 = some m.cls := hown
  have hl : lv_has ls 1 [(0, .int (iI (x)))] := hl
  refine lv_iload_n hx hb dX0_requireVariant_0 rfl (lv_at hl 0 rfl) ?_
  refine w_if_lt (tgt := 9) hx hb dX0_requireVariant_1 (by decide) ⟨by omega, by omega⟩ (fun c1 => absurd c1 (by omega)) (fun c1 => ?_)
  refine lv_iload_n hx hb dX0_requireVariant_4 rfl (lv_at hl 0 rfl) ?_
  refine lv_iconst (v := iI 3) hx hb dX0_requireVariant_5 rfl ?_
  refine w_icmp_lt (tgt := 19) hx hb dX0_requireVariant_6 (by decide) ⟨by omega, by omega⟩ ⟨by omega, by omega⟩ (fun c6 => ?_) (fun c6 => absurd c6 (by omega))
  exact hret 19 ls (trivial) dX0_requireVariant_19
set_option maxHeartbeats 4000000 in
set_option maxRecDepth 100000 in
theorem mX0_sumOf {j fr to : Nat} (hT : ∀ k, 0 ≤ tT k ∧ tT k ≤ 99) (hj : j < 7) (hft : fr ≤ to) (hto : to ≤ 5) : PM l yX0_sumOf wsX0_sumOf (rmx 2 43) D (tyk cI cZ cJ) (xw ad cI cZ nn mm tT tB tE tL oO oR oQ zS zM zN oJ) [.ref (ad 0), .int (iI ((j : Int))), .int (iI ((fr : Int))), .int (iI ((to : Int)))] (vp_Si (fun x => x = iI (smR tT j fr to))) := by
  refine pmI_of (cc := cX0_sumOf) (maxL := 6) (by decide) rfl (Nat.le_of_ble_eq_true rfl) ?_
  intro p e s m args below meth c Q hx hb hml hown hts hK hP hret ls hl
  have hown : s.vm.findClass RX0 = some m.cls := hown
  have hl : lv_has ls 6 [(0, .ref (ad 0)), (1, .int (iI ((j : Int)))), (2, .int (iI ((fr : Int)))), (3, .int (iI ((to : Int))))] := hl
  refine lv_iconst (v := iI 0) hx hb dX0_sumOf_0 rfl ?_
  refine lv_istore (lv' := [(4, .int (iI 0)), (0, .ref (ad 0)), (1, .int (iI ((j : Int)))), (2, .int (iI ((fr : Int)))), (3, .int (iI ((to : Int))))]) hx hb dX0_sumOf_1 hl (by decide) rfl (fun ls hl => ?_)
  refine lv_iload_n hx hb dX0_sumOf_3 rfl (lv_at hl 3 rfl) ?_
  refine lv_istore (lv' := [(5, .int (iI ((fr : Int)))), (4, .int (iI 0)), (0, .ref (ad 0)), (1, .int (iI ((j : Int)))), (2, .int (iI ((fr : Int)))), (3, .int (iI ((to : Int))))]) hx hb dX0_sumOf_4 hl (by decide) rfl (fun ls hl => ?_)
  have L6 : ∀ (fu : Nat) (i : Nat) (x5_6 : Int) (x4_6 : Int), (i ≤ to - fr) → (x5_6 = (fr : Int) + (i : Int)) → (x4_6 = (smC tT j fr i)) → to - fr - i < fu → ∀ ls : Array Slot, lv_has ls 6 [(5, .int (iI (x5_6))), (4, .int (iI (x4_6))), (0, .ref (ad 0)), (1, .int (iI ((j : Int)))), (2, .int (iI ((fr : Int)))), (3, .int (iI ((to : Int))))] → W p l e (rmx 2 43) s m args below meth c s.heap [] 0 0 Q (F0 m 6 ls []) := by
    intro fu
    induction fu with
    | zero =>
      intro i x5_6 x4_6 hi hq0 hq1 hfu
      exact absurd hfu (Nat.not_lt_zero _)
    | succ fu ih =>
      intro i x5_6 x4_6 hi hq0 hq1 hfu ls hl
      subst hq0
      subst hq1
      have ih6 := ih
      refine lv_iload hx hb dX0_sumOf_6 (lv_at hl 0 rfl) ?_
      refine lv_iload_n hx hb dX0_sumOf_8 rfl (lv_at hl 5 rfl) ?_
      refine w_icmp_ge (tgt := 30) hx hb dX0_sumOf_9 (by decide) ⟨by omega, by omega⟩ ⟨by omega, by omega⟩ (fun c9 => ?_) (fun c9 => ?_)
      · refine lv_iload hx hb dX0_sumOf_30 (lv_at hl 1 rfl) ?_
        exact hret 32 ls _ (by rw [show i = to - fr by omega]; rfl) dX0_sumOf_32
      · refine lv_iload hx hb dX0_sumOf_12 (lv_at hl 1 rfl) ?_
        refine lv_aload_n hx hb dX0_sumOf_14 rfl (lv_at hl 2 rfl) ?_
        refine lv_iload_n hx hb dX0_sumOf_15 rfl (lv_at hl 3 rfl) ?_
        refine lv_iload hx hb dX0_sumOf_16 (lv_at hl 0 rfl) ?_
        refine w_pV (As := [.int (iI ((j : Int))), .int (iI ((((fr + i) : Nat) : Int)))]) (rest := [.int (iI ((smC tT j fr i)))]) ⟨hx, hb, hml, hown, hts⟩ hK hP (mX0_timeOf (k := fr + i) hj (by omega)) (cwV 2 hts gX0_sumOf_X0_timeOf rfl rfl rfl (by decide +kernel) ⟨Nat.le_of_ble_eq_true rfl, Nat.le_of_ble_eq_true rfl⟩) (ci := 0) rfl rfl rfl rfl hl.1 (by rw [show (((fr : Int) + (i : Int)) : Int) = (((fr + i) : Nat) : Int) by omega]; try rfl) (Nat.le_of_ble_eq_true rfl) dX0_sumOf_18 ⟨Nat.zero_le _, Nat.zero_le _⟩ (fun r18 hr18 => ?_)
        refine w_top (v := iI ((tT (5 * j + (fr + i))))) (hr18) ?_
        refine w_iadd (z := (smC tT j fr i) + (tT (5 * j + (fr + i)))) hx hb dX0_sumOf_21 (by omega) ?_
        refine lv_istore (lv' := [(4, .int (iI ((smC tT j fr i) + (tT (5 * j + (fr + i)))))), (5, .int (iI ((fr : Int) + (i : Int)))), (0, .ref (ad 0)), (1, .int (iI ((j : Int)))), (2, .int (iI ((fr : Int)))), (3, .int (iI ((to : Int))))]) hx hb dX0_sumOf_22 hl (by decide) rfl (fun ls hl => ?_)
        refine lv_iinc (v := iI ((fr : Int) + (i : Int) + 1)) (lv' := [(5, .int (iI ((fr : Int) + (i : Int) + 1))), (4, .int (iI ((smC tT j fr i) + (tT (5 * j + (fr + i)))))), (0, .ref (ad 0)), (1, .int (iI ((j : Int)))), (2, .int (iI ((fr : Int)))), (3, .int (iI ((to : Int))))]) hx hb dX0_sumOf_24 hl (k := 1) rfl (iI_inc (by omega)) (by decide) rfl (fun ls hl => ?_)
        refine lv_goto (tgt := 6) hx hb dX0_sumOf_27 (by decide) ?_
        exact ih6 (i + 1) ((fr : Int) + (i : Int) + 1) ((smC tT j fr i) + (tT (5 * j + (fr + i)))) (by omega) (by omega) (rfl) (by omega) ls (lv_sub hl [0, 1, 2, 3, 4, 5] rfl)
  exact L6 (to - fr - 0 + 1) 0 ((fr : Int)) (0) (by omega) (by omega) (rfl) (Nat.lt_succ_self _) ls (lv_sub hl [0, 1, 2, 3, 4, 5] rfl)
set_option maxHeartbeats 4000000 in
set_option maxRecDepth 100000 in
theorem mX0_leastSum {fr to : Nat} (hT : ∀ k, 0 ≤ tT k ∧ tT k ≤ 99) (hn : nn ≤ 7) (hft : fr ≤ to) (hto : to ≤ 5) : PM l yX0_leastSum wsX0_leastSum (rmx 3 68) D (tyk cI cZ cJ) (xw ad cI cZ nn mm tT tB tE tL oO oR oQ zS zM zN oJ) [.ref (ad 0), .int (iI ((fr : Int))), .int (iI ((to : Int)))] (vp_Si (fun x => x = iI (lsX tT fr to (nn - 1)))) := by
  refine pmI_of (cc := cX0_leastSum) (maxL := 5) (by decide) rfl (Nat.le_of_ble_eq_true rfl) ?_
  intro p e s m args below meth c Q hx hb hml hown hts hK hP hret ls hl
  have hown : s.vm.findClass RX0 = some m.cls := hown
  have hl : lv_has ls 5 [(0, .ref (ad 0)), (1, .int (iI ((fr : Int)))), (2, .int (iI ((to : Int))))] := hl
  have inW : ∀ w ∈ wsX00, w ∈ wsX0_leastSum := by first | exact (fun w h => List.mem_cons_of_mem _ (List.mem_append_right _ h)) | exact (fun w h => List.mem_cons_of_mem _ (List.mem_append_left _ (List.mem_append_right _ h))) | exact (fun w h => List.mem_cons_of_mem _ (List.mem_append_left _ (List.mem_append_left _ (List.mem_append_right _ h)))) | decide +kernel
  refine lv_aload_n hx hb dX0_leastSum_0 rfl (lv_at hl 0 rfl) ?_
  refine lv_iconst (v := iI 0) hx hb dX0_leastSum_1 rfl ?_
  refine lv_iload_n hx hb dX0_leastSum_2 rfl (lv_at hl 1 rfl) ?_
  refine lv_iload_n hx hb dX0_leastSum_3 rfl (lv_at hl 2 rfl) ?_
  refine w_pV (As := [.int (iI 0), .int (iI ((fr : Int))), .int (iI ((to : Int)))]) (rest := []) ⟨hx, hb, hml, hown, hts⟩ hK hP (mX0_sumOf  (j := 0) hT (by omega) hft hto) (cwV 3 hts gX0_leastSum_X0_sumOf rfl rfl rfl (by decide +kernel) ⟨Nat.le_of_ble_eq_true rfl, Nat.le_of_ble_eq_true rfl⟩) (ci := 0) rfl rfl rfl rfl hl.1 rfl (Nat.le_of_ble_eq_true rfl) dX0_leastSum_4 ⟨Nat.zero_le _, Nat.zero_le _⟩ (fun r4 hr4 => ?_)
  refine w_top (v := iI ((smR tT 0 fr to))) (hr4) ?_
  refine lv_istore_n (lv' := [(3, .int (iI ((smR tT 0 fr to)))), (0, .ref (ad 0)), (1, .int (iI ((fr : Int)))), (2, .int (iI ((to : Int))))]) hx hb dX0_leastSum_7 rfl hl (by decide) rfl (fun ls hl => ?_)
  refine lv_iconst (v := iI 1) hx hb dX0_leastSum_8 rfl ?_
  refine lv_istore (lv' := [(4, .int (iI 1)), (3, .int (iI ((smR tT 0 fr to)))), (0, .ref (ad 0)), (1, .int (iI ((fr : Int)))), (2, .int (iI ((to : Int))))]) hx hb dX0_leastSum_9 hl (by decide) rfl (fun ls hl => ?_)
  have L11 : ∀ (fu : Nat) (i : Nat) (x4_11 : Int) (x3_11 : Int), (i + 1 ≤ nn ∨ i = 0) → (x4_11 = (i : Int) + 1) → (x3_11 = (lsX tT fr to i)) → nn - i < fu → ∀ ls : Array Slot, lv_has ls 5 [(4, .int (iI (x4_11))), (3, .int (iI (x3_11))), (0, .ref (ad 0)), (1, .int (iI ((fr : Int)))), (2, .int (iI ((to : Int))))] → W p l e (rmx 3 68) s m args below meth c s.heap [] 0 0 Q (F0 m 11 ls []) := by
    intro fu
    induction fu with
    | zero =>
      intro i x4_11 x3_11 hi hq0 hq1 hfu
      exact absurd hfu (Nat.not_lt_zero _)
    | succ fu ih =>
      intro i x4_11 x3_11 hi hq0 hq1 hfu ls hl
      subst hq0
      subst hq1
      have ih11 := ih
      have h9 := lsX_rg hT fr to i
      refine lv_iload hx hb dX0_leastSum_11 (lv_at hl 0 rfl) ?_
      refine lv_aload_n hx hb dX0_leastSum_13 rfl (lv_at hl 2 rfl) ?_
      refine va_get (D := D) (ci := 0) (C := RX0) (T := TX0) (N := 13) hx hb hts inW hown hK hP 0 rfl rfl 0 (by decide) (hts (.fieldLink RX0 7 "Flowforge" "jobCount" "I") (List.mem_of_getElem? (i := 1) rfl)) (fun _ h9 => h9) rfl dX0_leastSum_14 ?_
      refine w_icmp_ge (tgt := 39) hx hb dX0_leastSum_17 (by decide) ⟨by omega, by omega⟩ ⟨by omega, by omega⟩ (fun c17 => ?_) (fun c17 => ?_)
      · refine lv_iload_n hx hb dX0_leastSum_39 rfl (lv_at hl 1 rfl) ?_
        exact hret 40 ls _ (by rw [show i = nn - 1 by omega]) dX0_leastSum_40
      · refine lv_iload_n hx hb dX0_leastSum_20 rfl (lv_at hl 1 rfl) ?_
        refine lv_aload_n hx hb dX0_leastSum_21 rfl (lv_at hl 2 rfl) ?_
        refine lv_iload hx hb dX0_leastSum_22 (lv_at hl 0 rfl) ?_
        refine lv_iload_n hx hb dX0_leastSum_24 rfl (lv_at hl 3 rfl) ?_
        refine lv_iload_n hx hb dX0_leastSum_25 rfl (lv_at hl 4 rfl) ?_
        refine w_pV (As := [.int (iI ((((i + 1) : Nat) : Int))), .int (iI ((fr : Int))), .int (iI ((to : Int)))]) (rest := [.int (iI ((lsX tT fr to i)))]) ⟨hx, hb, hml, hown, hts⟩ hK hP (mX0_sumOf  (j := i + 1) hT (by omega) hft hto) (cwV 3 hts gX0_leastSum_X0_sumOf rfl rfl rfl (by decide +kernel) ⟨Nat.le_of_ble_eq_true rfl, Nat.le_of_ble_eq_true rfl⟩) (ci := 0) rfl rfl rfl rfl hl.1 (by rw [show (((i : Int) + 1) : Int) = (((i + 1) : Nat) : Int) by omega]; try rfl) (Nat.le_of_ble_eq_true rfl) dX0_leastSum_26 ⟨Nat.zero_le _, Nat.zero_le _⟩ (fun r26 hr26 => ?_)
        have h8 := smR_rg hT (i + 1) fr to
        refine w_top (v := iI ((smR tT (i + 1) fr to))) (hr26) ?_
        refine va_mmin hx hb (hml.trans hl.1.symm) hown (hts (.methodLink RX0 145 Lib.Math.min.name) (List.mem_of_getElem? (i := 2) rfl)) (hts (.static Lib.Math.min.name) (List.mem_of_getElem? (i := 3) rfl)) (hts (.initialized "java/lang/Math") (List.mem_of_getElem? (i := 4) rfl)) (hts (.code Lib.Math.min.name Lib.Math.min.code 2 (some .int)) (List.mem_of_getElem? (i := 5) rfl)) (Nat.le_of_ble_eq_true rfl) (Nat.le_of_ble_eq_true rfl) (Nat.zero_le _) (Nat.zero_le _) dX0_leastSum_29 ?_
        refine w_top (v := iI ((min ((lsX tT fr to i)) ((smR tT (i + 1) fr to))))) (iI_min ⟨by omega, by omega⟩ ⟨by omega, by omega⟩) ?_
        refine lv_istore_n (lv' := [(3, .int (iI ((min ((lsX tT fr to i)) ((smR tT (i + 1) fr to)))))), (4, .int (iI ((i : Int) + 1))), (0, .ref (ad 0)), (1, .int (iI ((fr : Int)))), (2, .int (iI ((to : Int))))]) hx hb dX0_leastSum_32 rfl hl (by decide) rfl (fun ls hl => ?_)
        refine lv_iinc (v := iI ((i : Int) + 2)) (lv' := [(4, .int (iI ((i : Int) + 2))), (3, .int (iI ((min ((lsX tT fr to i)) ((smR tT (i + 1) fr to)))))), (0, .ref (ad 0)), (1, .int (iI ((fr : Int)))), (2, .int (iI ((to : Int))))]) hx hb dX0_leastSum_33 hl (k := 1) rfl (iI_inc (by omega)) (by decide) rfl (fun ls hl => ?_)
        refine lv_goto (tgt := 11) hx hb dX0_leastSum_36 (by decide) ?_
        exact ih11 (i + 1) ((i : Int) + 2) ((min ((lsX tT fr to i)) ((smR tT (i + 1) fr to)))) (by omega) (by omega) (rfl) (by omega) ls (lv_sub hl [0, 1, 2, 3, 4] rfl)
  exact L11 (nn - 0 + 1) 0 (1) ((smR tT 0 fr to)) (by omega) (by omega) (rfl) (Nat.lt_succ_self _) ls (lv_sub hl [0, 1, 2, 3, 4] rfl)
set_option maxHeartbeats 4000000 in
set_option maxRecDepth 100000 in
theorem mX0_loadOf {k : Nat} (hT : ∀ k, 0 ≤ tT k ∧ tT k ≤ 99) (hn : nn ≤ 7) (hk : k < 5) : PM l yX0_loadOf wsX0_loadOf (rmx 2 43) D (tyk cI cZ cJ) (xw ad cI cZ nn mm tT tB tE tL oO oR oQ zS zM zN oJ) [.ref (ad 0), .int (iI ((k : Int)))] (vp_Si (fun x => x = iI (ldC tT k nn))) := by
  refine pmI_of (cc := cX0_loadOf) (maxL := 4) (by decide) rfl (Nat.le_of_ble_eq_true rfl) ?_
  intro p e s m args below meth c Q hx hb hml hown hts hK hP hret ls hl
  have hown : s.vm.findClass RX0 = some m.cls := hown
  have hl : lv_has ls 4 [(0, .ref (ad 0)), (1, .int (iI ((k : Int))))] := hl
  have inW : ∀ w ∈ wsX00, w ∈ wsX0_loadOf := by first | exact (fun w h => List.mem_cons_of_mem _ (List.mem_append_right _ h)) | exact (fun w h => List.mem_cons_of_mem _ (List.mem_append_left _ (List.mem_append_right _ h))) | exact (fun w h => List.mem_cons_of_mem _ (List.mem_append_left _ (List.mem_append_left _ (List.mem_append_right _ h)))) | decide +kernel
  refine lv_iconst (v := iI 0) hx hb dX0_loadOf_0 rfl ?_
  refine lv_istore_n (lv' := [(2, .int (iI 0)), (0, .ref (ad 0)), (1, .int (iI ((k : Int))))]) hx hb dX0_loadOf_1 rfl hl (by decide) rfl (fun ls hl => ?_)
  refine lv_iconst (v := iI 0) hx hb dX0_loadOf_2 rfl ?_
  refine lv_istore_n (lv' := [(3, .int (iI 0)), (2, .int (iI 0)), (0, .ref (ad 0)), (1, .int (iI ((k : Int))))]) hx hb dX0_loadOf_3 rfl hl (by decide) rfl (fun ls hl => ?_)
  have L4 : ∀ (fu : Nat) (i : Nat) (x3_4 : Int) (x2_4 : Int), (i ≤ nn) → (x3_4 = (i : Int)) → (x2_4 = (ldC tT k i)) → nn - i < fu → ∀ ls : Array Slot, lv_has ls 4 [(3, .int (iI (x3_4))), (2, .int (iI (x2_4))), (0, .ref (ad 0)), (1, .int (iI ((k : Int))))] → W p l e (rmx 2 43) s m args below meth c s.heap [] 0 0 Q (F0 m 4 ls []) := by
    intro fu
    induction fu with
    | zero =>
      intro i x3_4 x2_4 hi hq0 hq1 hfu
      exact absurd hfu (Nat.not_lt_zero _)
    | succ fu ih =>
      intro i x3_4 x2_4 hi hq0 hq1 hfu ls hl
      subst hq0
      subst hq1
      have ih4 := ih
      refine lv_iload_n hx hb dX0_loadOf_4 rfl (lv_at hl 0 rfl) ?_
      refine lv_aload_n hx hb dX0_loadOf_5 rfl (lv_at hl 2 rfl) ?_
      refine va_get (D := D) (ci := 0) (C := RX0) (T := TX0) (N := 13) hx hb hts inW hown hK hP 0 rfl rfl 0 (by decide) (hts (.fieldLink RX0 7 "Flowforge" "jobCount" "I") (List.mem_of_getElem? (i := 1) rfl)) (fun _ h9 => h9) rfl dX0_loadOf_6 ?_
      refine w_icmp_ge (tgt := 27) hx hb dX0_loadOf_9 (by decide) ⟨by omega, by omega⟩ ⟨by omega, by omega⟩ (fun c9 => ?_) (fun c9 => ?_)
      · refine lv_iload_n hx hb dX0_loadOf_27 rfl (lv_at hl 1 rfl) ?_
        exact hret 28 ls _ (by rw [show i = nn by omega]) dX0_loadOf_28
      · refine lv_iload_n hx hb dX0_loadOf_12 rfl (lv_at hl 1 rfl) ?_
        refine lv_aload_n hx hb dX0_loadOf_13 rfl (lv_at hl 2 rfl) ?_
        refine lv_iload_n hx hb dX0_loadOf_14 rfl (lv_at hl 0 rfl) ?_
        refine lv_iload_n hx hb dX0_loadOf_15 rfl (lv_at hl 3 rfl) ?_
        refine w_pV (As := [.int (iI ((i : Int))), .int (iI ((k : Int)))]) (rest := [.int (iI ((ldC tT k i)))]) ⟨hx, hb, hml, hown, hts⟩ hK hP (mX0_timeOf  (by omega) hk) (cwV 2 hts gX0_loadOf_X0_timeOf rfl rfl rfl (by decide +kernel) ⟨Nat.le_of_ble_eq_true rfl, Nat.le_of_ble_eq_true rfl⟩) (ci := 0) rfl rfl rfl rfl hl.1 rfl (Nat.le_of_ble_eq_true rfl) dX0_loadOf_16 ⟨Nat.zero_le _, Nat.zero_le _⟩ (fun r16 hr16 => ?_)
        refine w_top (v := iI ((tT (5 * i + k)))) (hr16) ?_
        refine w_iadd (z := (ldC tT k i) + (tT (5 * i + k))) hx hb dX0_loadOf_19 (by omega) ?_
        refine lv_istore_n (lv' := [(2, .int (iI ((ldC tT k i) + (tT (5 * i + k))))), (3, .int (iI ((i : Int)))), (0, .ref (ad 0)), (1, .int (iI ((k : Int))))]) hx hb dX0_loadOf_20 rfl hl (by decide) rfl (fun ls hl => ?_)
        refine lv_iinc (v := iI ((i : Int) + 1)) (lv' := [(3, .int (iI ((i : Int) + 1))), (2, .int (iI ((ldC tT k i) + (tT (5 * i + k))))), (0, .ref (ad 0)), (1, .int (iI ((k : Int))))]) hx hb dX0_loadOf_21 hl (k := 1) rfl (iI_inc (by omega)) (by decide) rfl (fun ls hl => ?_)
        refine lv_goto (tgt := 4) hx hb dX0_loadOf_24 (by decide) ?_
        exact ih4 (i + 1) ((i : Int) + 1) ((ldC tT k i) + (tT (5 * i + k))) (by omega) (by omega) (rfl) (by omega) ls (lv_sub hl [0, 1, 2, 3] rfl)
  exact L4 (nn - 0 + 1) 0 (0) (0) (by omega) (by omega) (rfl) (Nat.lt_succ_self _) ls (lv_sub hl [0, 1, 2, 3] rfl)
set_option maxHeartbeats 4000000 in
set_option maxRecDepth 100000 in
theorem mX0_placeOf {j q : Nat} (hn : nn ≤ 7) (hq : q < nn) (hj : j = oO q) (hw : ∀ k, k < q → oO k ≠ j) (hO : ∀ k, k < nn → oO k < 7) : PM l yX0_placeOf wsX0_placeOf (rmx 0 0) D (tyk cI cZ cJ) (xw ad cI cZ nn mm tT tB tE tL oO oR oQ zS zM zN oJ) [.ref (ad 0), .int (iI ((j : Int)))] (vp_Si (fun x => x = iI (q : Int))) := by
  refine pmI_of (cc := cX0_placeOf) (maxL := 3) (by decide) rfl (Nat.le_of_ble_eq_true rfl) ?_
  intro p e s m args below meth c Q hx hb hml hown hts hK hP hret ls hl
  have hown : s.vm.findClass RX0 = some m.cls := hown
  have hl : lv_has ls 3 [(0, .ref (ad 0)), (1, .int (iI ((j : Int))))] := hl
  have inW : ∀ w ∈ wsX00, w ∈ wsX0_placeOf := by first | exact (fun w h => List.mem_cons_of_mem _ (List.mem_append_right _ h)) | exact (fun w h => List.mem_cons_of_mem _ (List.mem_append_left _ (List.mem_append_right _ h))) | exact (fun w h => List.mem_cons_of_mem _ (List.mem_append_left _ (List.mem_append_left _ (List.mem_append_right _ h)))) | decide +kernel
  refine lv_iconst (v := iI 0) hx hb dX0_placeOf_0 rfl ?_
  refine lv_istore_n (lv' := [(2, .int (iI 0)), (0, .ref (ad 0)), (1, .int (iI ((j : Int))))]) hx hb dX0_placeOf_1 rfl hl (by decide) rfl (fun ls hl => ?_)
  have L2 : ∀ (fu : Nat) (i : Nat) (x2_2 : Int), (i ≤ q) → (x2_2 = (i : Int)) → q - i < fu → ∀ ls : Array Slot, lv_has ls 3 [(2, .int (iI (x2_2))), (0, .ref (ad 0)), (1, .int (iI ((j : Int))))] → W p l e (rmx 0 0) s m args below meth c s.heap [] 0 0 Q (F0 m 2 ls []) := by
    intro fu
    induction fu with
    | zero =>
      intro i x2_2 hi hq0 hfu
      exact absurd hfu (Nat.not_lt_zero _)
    | succ fu ih =>
      intro i x2_2 hi hq0 hfu ls hl
      subst hq0
      have ih2 := ih
      refine lv_iload_n hx hb dX0_placeOf_2 rfl (lv_at hl 0 rfl) ?_
      refine lv_aload_n hx hb dX0_placeOf_3 rfl (lv_at hl 1 rfl) ?_
      refine va_get (D := D) (ci := 0) (C := RX0) (T := TX0) (N := 13) hx hb hts inW hown hK hP 0 rfl rfl 0 (by decide) (hts (.fieldLink RX0 7 "Flowforge" "jobCount" "I") (List.mem_of_getElem? (i := 1) rfl)) (fun _ h9 => h9) rfl dX0_placeOf_4 ?_
      refine lv_iconst (v := iI 1) hx hb dX0_placeOf_7 rfl ?_
      refine w_isub (z := (nn : Int) - 1) hx hb dX0_placeOf_8 (by omega) ?_
      refine w_icmp_ge (tgt := 28) hx hb dX0_placeOf_9 (by decide) ⟨by omega, by omega⟩ ⟨by omega, by omega⟩ (fun c9 => ?_) (fun c9 => ?_)
      · have hiq : i = q := by omega
        refine lv_iload_n hx hb dX0_placeOf_28 rfl (lv_at hl 0 rfl) ?_
        exact hret 29 ls _ (by rw [hiq]) dX0_placeOf_29
      · have h8 := hO i (by omega)
        have h7 := hO q hq
        refine lv_aload_n hx hb dX0_placeOf_12 rfl (lv_at hl 1 rfl) ?_
        refine va_get (D := D) (ci := 0) (C := RX0) (T := TX0) (N := 13) hx hb hts inW hown hK hP 0 rfl rfl 6 (by decide) (hts (.fieldLink RX0 29 "Flowforge" "order" "[I") (List.mem_of_getElem? (i := 2) rfl)) (fun _ h9 => h9) rfl dX0_placeOf_13 ?_
        refine lv_iload_n hx hb dX0_placeOf_16 rfl (lv_at hl 0 rfl) ?_
        refine w_iald (v := iI ((oO i : Nat) : Int)) hx hb hK hP 5 0 rfl rfl (i) (by omega) (by omega) (by decide) rfl dX0_placeOf_17 ?_
        refine lv_iload_n hx hb dX0_placeOf_18 rfl (lv_at hl 2 rfl) ?_
        refine w_icmp_eq (tgt := 28) hx hb dX0_placeOf_19 (by decide) ⟨by omega, by omega⟩ ⟨by omega, by omega⟩ (fun c19 => ?_) (fun c19 => ?_)
        · have hiq : i = q := (Nat.lt_or_ge i q).elim (fun h => absurd (show oO i = j by omega) (hw i h)) (fun h => by omega)
          refine lv_iload_n hx hb dX0_placeOf_28 rfl (lv_at hl 0 rfl) ?_
          exact hret 29 ls _ (by rw [hiq]) dX0_placeOf_29
        · have hne : i ≠ q := fun h => c19 (by rw [h, hj])
          refine lv_iinc (v := iI ((i : Int) + 1)) (lv' := [(2, .int (iI ((i : Int) + 1))), (0, .ref (ad 0)), (1, .int (iI ((j : Int))))]) hx hb dX0_placeOf_22 hl (k := 0) rfl (iI_inc (by omega)) (by decide) rfl (fun ls hl => ?_)
          refine lv_goto (tgt := 2) hx hb dX0_placeOf_25 (by decide) ?_
          exact ih2 (i + 1) ((i : Int) + 1) (by omega) (by omega) (by omega) ls (lv_sub hl [0, 1, 2] rfl)
  exact L2 (q - 0 + 1) 0 (0) (by omega) (by omega) (Nat.lt_succ_self _) ls (lv_sub hl [0, 1, 2] rfl)
set_option maxHeartbeats 4000000 in
set_option maxRecDepth 100000 in
theorem mX0_shift {a b : Nat} (ha : a < 7) (hb7 : b < 7) : IM l yX0_shift wsX0_shift (rmx 0 0) D (tyk cI cZ cJ) ([(a0, .inl (cI, 7, .inl (jI fF)))]) [.ref (a0), .int (iI ((a : Int))), .int (iI ((b : Int)))] (QV D (tyk cI cZ cJ) (fun u : Unit => [(a0, .inl (cI, 7, .inl (jI (shf fF a b))))]) (fun _ => True)) := by
  refine imV_of (cc := cX0_shift) (maxL := 5) (by decide) rfl (Nat.le_of_ble_eq_true rfl) ?_
  intro p e s m args below meth c A Q hx hb hml hown hts hA hK hP hD hS hret ls hl
  have hown : s.vm.findClass RX0 = some m.cls := hown
  have hl : lv_has ls 5 [(0, .ref (a0)), (1, .int (iI ((a : Int)))), (2, .int (iI ((b : Int))))] := hl
  refine lv_aload_n hx hb dX0_shift_0 rfl (lv_at hl 0 rfl) ?_
  refine lv_iload_n hx hb dX0_shift_1 rfl (lv_at hl 1 rfl) ?_
  refine w_iald (v := iI ((fF a : Nat) : Int)) hx hb hK hP 0 0 rfl rfl (a) (by omega) (by omega) (by decide) rfl dX0_shift_2 ?_
  refine lv_istore_n (lv' := [(3, .int (iI (((fF a : Nat) : Int)))), (0, .ref (a0)), (1, .int (iI ((a : Int)))), (2, .int (iI ((b : Int))))]) hx hb dX0_shift_3 rfl hl (by decide) rfl (fun ls hl => ?_)
  refine lv_iload_n hx hb dX0_shift_4 rfl (lv_at hl 2 rfl) ?_
  refine lv_istore (lv' := [(4, .int (iI ((a : Int)))), (3, .int (iI (((fF a : Nat) : Int)))), (0, .ref (a0)), (1, .int (iI ((a : Int)))), (2, .int (iI ((b : Int))))]) hx hb dX0_shift_5 hl (by decide) rfl (fun ls hl => ?_)
  have L7 : ∀ (fu : Nat) (i : Nat) (wlist7 : Nat → Nat) (x4_7 : Int), (i ≤ b - a) → (wlist7 = sh1 fF a i) → (x4_7 = (a : Int) + (i : Int)) → b - a - i < fu → ∀ (H : Heap) (locs : List Loc), va_P D vwCl ([(a0, .inl (cI, 7, .inl (jI wlist7)))]) H → va_D A ([(a0, .inl (cI, 7, .inl (jI wlist7)))]) → va_S A s.heap H locs → ∀ ls : Array Slot, lv_has ls 5 [(4, .int (iI (x4_7))), (3, .int (iI (((fF a : Nat) : Int)))), (0, .ref (a0)), (1, .int (iI ((a : Int)))), (2, .int (iI ((b : Int))))] → W p l e (rmx 0 0) s m args below meth c H locs 0 0 Q (F0 m 7 ls []) := by
    intro fu
    induction fu with
    | zero =>
      intro i wlist7 x4_7 hi hq0 hq1 hfu
      exact absurd hfu (Nat.not_lt_zero _)
    | succ fu ih =>
      intro i wlist7 x4_7 hi hq0 hq1 hfu H locs hP hD hS ls hl
      subst hq0
      subst hq1
      have ih7 := ih
      refine lv_iload hx hb dX0_shift_7 (lv_at hl 0 rfl) ?_
      refine lv_iload_n hx hb dX0_shift_9 rfl (lv_at hl 4 rfl) ?_
      refine w_icmp_ge (tgt := 29) hx hb dX0_shift_10 (by decide) ⟨by omega, by omega⟩ ⟨by omega, by omega⟩ (fun c10 => ?_) (fun c10 => ?_)
      · obtain rfl : i = b - a := by omega
        refine lv_iload_n hx hb dX0_shift_29 rfl (lv_at hl 3 rfl) ?_
        refine lv_istore (lv' := [(4, .int (iI ((a : Int)))), (3, .int (iI (((fF a : Nat) : Int)))), (0, .ref (a0)), (1, .int (iI ((a : Int)))), (2, .int (iI ((b : Int))))]) hx hb dX0_shift_30 hl (by decide) rfl (fun ls hl => ?_)
        have L32 : ∀ (fu : Nat) (z : Nat) (wlist32 : Nat → Nat) (x4_32 : Int), (z ≤ a - b) → (wlist32 = sh2 (sh1 fF a (b - a)) a z) → (x4_32 = (a : Int) - (z : Int)) → a - b - z < fu → ∀ (H : Heap) (locs : List Loc), va_P D vwCl ([(a0, .inl (cI, 7, .inl (jI wlist32)))]) H → va_D A ([(a0, .inl (cI, 7, .inl (jI wlist32)))]) → va_S A s.heap H locs → ∀ ls : Array Slot, lv_has ls 5 [(4, .int (iI (x4_32))), (3, .int (iI (((fF a : Nat) : Int)))), (0, .ref (a0)), (1, .int (iI ((a : Int)))), (2, .int (iI ((b : Int))))] → W p l e (rmx 0 0) s m args below meth c H locs 0 0 Q (F0 m 32 ls []) := by
          intro fu
          induction fu with
          | zero =>
            intro z wlist32 x4_32 hz hq0 hq1 hfu
            exact absurd hfu (Nat.not_lt_zero _)
          | succ fu ih =>
            intro z wlist32 x4_32 hz hq0 hq1 hfu H locs hP hD hS ls hl
            subst hq0
            subst hq1
            have ih32 := ih
            refine lv_iload hx hb dX0_shift_32 (lv_at hl 0 rfl) ?_
            refine lv_iload_n hx hb dX0_shift_34 rfl (lv_at hl 4 rfl) ?_
            refine w_icmp_le (tgt := 54) hx hb dX0_shift_35 (by decide) ⟨by omega, by omega⟩ ⟨by omega, by omega⟩ (fun c35 => ?_) (fun c35 => ?_)
            · obtain rfl : z = a - b := by omega
              refine lv_aload_n hx hb dX0_shift_54 rfl (lv_at hl 2 rfl) ?_
              refine lv_iload_n hx hb dX0_shift_55 rfl (lv_at hl 4 rfl) ?_
              refine lv_iload_n hx hb dX0_shift_56 rfl (lv_at hl 1 rfl) ?_
              refine w_iast (g := jI (va_up (sh2 (sh1 fF a (b - a)) a (a - b)) b ((fF a)))) (ws' := [(a0, .inl (cI, 7, .inl (jI (va_up (sh2 (sh1 fF a (b - a)) a (a - b)) b ((fF a))))))]) hx hb hK hP hD hS 0 0 rfl rfl (b) (by omega) (by omega) (by decide) (hg := jI_up) (hw := rfl) (hd := dX0_shift_57) (kk := fun H locs hP hD hS => ?_)
              exact hret H locs 58 ls (()) hP hD hS (trivial) dX0_shift_58
            · refine lv_aload_n hx hb dX0_shift_38 rfl (lv_at hl 2 rfl) ?_
              refine lv_iload hx hb dX0_shift_39 (lv_at hl 0 rfl) ?_
              refine lv_aload_n hx hb dX0_shift_41 rfl (lv_at hl 2 rfl) ?_
              refine lv_iload hx hb dX0_shift_42 (lv_at hl 0 rfl) ?_
              refine lv_iconst (v := iI 1) hx hb dX0_shift_44 rfl ?_
              refine w_isub (z := (a : Int) - (z : Int) - 1) hx hb dX0_shift_45 (by omega) ?_
              refine w_iald (v := iI ((sh1 fF a (b - a) (a - z - 1) : Nat) : Int)) hx hb hK hP 0 0 rfl rfl (a - z - 1) (by omega) (by omega) (by decide) (congrArg (fun q : Nat => iI (q : Int)) (sh2_at (by omega))) dX0_shift_46 ?_
              refine w_iast (g := jI (va_up (sh2 (sh1 fF a (b - a)) a z) (a - z) ((sh1 fF a (b - a) (a - z - 1))))) (ws' := [(a0, .inl (cI, 7, .inl (jI (va_up (sh2 (sh1 fF a (b - a)) a z) (a - z) ((sh1 fF a (b - a) (a - z - 1)))))))]) hx hb hK hP hD hS 0 0 rfl rfl (a - z) (by omega) (by omega) (by decide) (hg := jI_up) (hw := rfl) (hd := dX0_shift_47) (kk := fun H locs hP hD hS => ?_)
              refine lv_iinc (v := iI ((a : Int) - (z : Int) - 1)) (lv' := [(4, .int (iI ((a : Int) - (z : Int) - 1))), (3, .int (iI (((fF a : Nat) : Int)))), (0, .ref (a0)), (1, .int (iI ((a : Int)))), (2, .int (iI ((b : Int))))]) hx hb dX0_shift_48 hl (k := 0) rfl (iI_inc (by omega)) (by decide) rfl (fun ls hl => ?_)
              refine lv_goto (tgt := 32) hx hb dX0_shift_51 (by decide) ?_
              exact ih32 (z + 1) (va_up (sh2 (sh1 fF a (b - a)) a z) (a - z) ((sh1 fF a (b - a) (a - z - 1)))) ((a : Int) - (z : Int) - 1) (by omega) (sh2_s (by omega)) (by omega) (by omega) _ _ hP hD hS ls (lv_sub hl [0, 1, 2, 3, 4] rfl)
        exact L32 (a - b - 0 + 1) 0 (sh1 fF a (b - a)) ((a : Int)) (by omega) ((sh2_0 _ _).symm) (by omega) (Nat.lt_succ_self _) _ _ hP hD hS ls (lv_sub hl [0, 1, 2, 3, 4] rfl)
      · refine lv_aload_n hx hb dX0_shift_13 rfl (lv_at hl 2 rfl) ?_
        refine lv_iload hx hb dX0_shift_14 (lv_at hl 0 rfl) ?_
        refine lv_aload_n hx hb dX0_shift_16 rfl (lv_at hl 2 rfl) ?_
        refine lv_iload hx hb dX0_shift_17 (lv_at hl 0 rfl) ?_
        refine lv_iconst (v := iI 1) hx hb dX0_shift_19 rfl ?_
        refine w_iadd (z := (a : Int) + (i : Int) + 1) hx hb dX0_shift_20 (by omega) ?_
        refine w_iald (v := iI ((fF (a + i + 1) : Nat) : Int)) hx hb hK hP 0 0 rfl rfl (a + i + 1) (by omega) (by omega) (by decide) (congrArg (fun q : Nat => iI (q : Int)) (sh1_at (by omega))) dX0_shift_21 ?_
        refine w_iast (g := jI (va_up (sh1 fF a i) (a + i) ((fF (a + i + 1))))) (ws' := [(a0, .inl (cI, 7, .inl (jI (va_up (sh1 fF a i) (a + i) ((fF (a + i + 1)))))))]) hx hb hK hP hD hS 0 0 rfl rfl (a + i) (by omega) (by omega) (by decide) (hg := jI_up) (hw := rfl) (hd := dX0_shift_22) (kk := fun H locs hP hD hS => ?_)
        refine lv_iinc (v := iI ((a : Int) + (i : Int) + 1)) (lv' := [(4, .int (iI ((a : Int) + (i : Int) + 1))), (3, .int (iI (((fF a : Nat) : Int)))), (0, .ref (a0)), (1, .int (iI ((a : Int)))), (2, .int (iI ((b : Int))))]) hx hb dX0_shift_23 hl (k := 0) rfl (iI_inc (by omega)) (by decide) rfl (fun ls hl => ?_)
        refine lv_goto (tgt := 7) hx hb dX0_shift_26 (by decide) ?_
        exact ih7 (i + 1) (va_up (sh1 fF a i) (a + i) ((fF (a + i + 1)))) ((a : Int) + (i : Int) + 1) (by omega) (sh1_s) (by omega) (by omega) _ _ hP hD hS ls (lv_sub hl [0, 1, 2, 3, 4] rfl)
  exact L7 (b - a - 0 + 1) 0 fF ((a : Int)) (by omega) ((sh1_0 _ _).symm) (by omega) (Nat.lt_succ_self _) _ _ hP hD hS ls (lv_sub hl [0, 1, 2, 3, 4] rfl)
set_option maxHeartbeats 4000000 in
set_option maxRecDepth 100000 in
theorem mX0_freeFrom {v q k : Nat} (hm : 1 ≤ mm ∧ mm ≤ 5) (hv : v ≤ 2) (hp : q < 7) (hk : k < mm) : PM l yX0_freeFrom wsX0_freeFrom (rmx 1 21) D (tyk cI cZ cJ) (xw ad cI cZ nn mm tT tB tE tL oO oR oQ zS zM zN oJ) [.ref (ad 0), .int (iI ((v : Int))), .int (iI ((q : Int))), .int (iI ((k : Int)))] (vp_Si (fun x => x = iI (frm v mm (prv tB q) (prv tE q) k))) := by
  refine pmI_of (cc := cX0_freeFrom) (maxL := 4) (by decide) rfl (Nat.le_of_ble_eq_true rfl) ?_
  intro p e s m args below meth c Q hx hb hml hown hts hK hP hret ls hl
  have hown : s.vm.findClass RX0 = some m.cls := hown
  have hl : lv_has ls 4 [(0, .ref (ad 0)), (1, .int (iI ((v : Int)))), (2, .int (iI ((q : Int)))), (3, .int (iI ((k : Int))))] := hl
  have inW : ∀ w ∈ wsX00, w ∈ wsX0_freeFrom := by first | exact (fun w h => List.mem_cons_of_mem _ (List.mem_append_right _ h)) | exact (fun w h => List.mem_cons_of_mem _ (List.mem_append_left _ (List.mem_append_right _ h))) | exact (fun w h => List.mem_cons_of_mem _ (List.mem_append_left _ (List.mem_append_left _ (List.mem_append_right _ h)))) | decide +kernel
  refine lv_iload_n hx hb dX0_freeFrom_0 rfl (lv_at hl 2 rfl) ?_
  refine lv_iconst (v := iI 1) hx hb dX0_freeFrom_1 rfl ?_
  refine w_icmp_ge (tgt := 7) hx hb dX0_freeFrom_2 (by decide) ⟨by omega, by omega⟩ ⟨by omega, by omega⟩ (fun c2 => ?_) (fun c2 => ?_)
  · refine lv_iload_n hx hb dX0_freeFrom_7 rfl (lv_at hl 1 rfl) ?_
    refine lv_iconst (v := iI 1) hx hb dX0_freeFrom_8 rfl ?_
    refine w_icmp_ne (tgt := 37) hx hb dX0_freeFrom_9 (by decide) ⟨by omega, by omega⟩ ⟨by omega, by omega⟩ (fun c9 => ?_) (fun c9 => ?_)
    · refine lv_aload_n hx hb dX0_freeFrom_37 rfl (lv_at hl 0 rfl) ?_
      refine va_get (D := D) (ci := 0) (C := RX0) (T := TX0) (N := 13) hx hb hts inW hown hK hP 0 rfl rfl 4 (by decide) (hts (.fieldLink RX0 23 "Flowforge" "ends" "[I") (List.mem_of_getElem? (i := 3) rfl)) (fun _ h9 => h9) rfl dX0_freeFrom_38 ?_
      refine lv_iload_n hx hb dX0_freeFrom_41 rfl (lv_at hl 2 rfl) ?_
      refine lv_iconst (v := iI 1) hx hb dX0_freeFrom_42 rfl ?_
      refine w_isub (z := (q : Int) - 1) hx hb dX0_freeFrom_43 (by omega) ?_
      refine lv_iload_n hx hb dX0_freeFrom_44 rfl (lv_at hl 3 rfl) ?_
      refine w_pS (As := [.int (iI ((q : Int) - 1)), .int (iI ((k : Int)))]) (rest := [.ref (ad 3)]) ⟨hx, hb, hml, hown, hts⟩ hK hP (mX0_cell  ) (va_cwS 2 hts gX0_freeFrom_X0_cell rfl rfl rfl (by decide +kernel) ⟨Nat.le_of_ble_eq_true rfl, Nat.le_of_ble_eq_true rfl⟩) rfl hl.1 rfl (Nat.le_of_ble_eq_true rfl) dX0_freeFrom_45 ⟨Nat.zero_le _, Nat.zero_le _⟩ (fun r45 hr45 => ?_)
      refine w_top (v := iI (5 * (q : Int) + (k : Int) - 5)) (hr45.trans (congrArg iI (by omega))) ?_
      refine w_iald (v := iI (tE (5 * (q - 1) + k))) hx hb hK hP 3 0 rfl rfl (5 * (q - 1) + k) (by omega) (by omega) (by decide) rfl dX0_freeFrom_48 ?_
      exact hret 49 ls _ (by unfold frm prv; rw [if_neg (by omega), if_neg (by omega)]) dX0_freeFrom_49
    · refine lv_iload_n hx hb dX0_freeFrom_12 rfl (lv_at hl 3 rfl) ?_
      refine lv_aload_n hx hb dX0_freeFrom_13 rfl (lv_at hl 0 rfl) ?_
      refine va_get (D := D) (ci := 0) (C := RX0) (T := TX0) (N := 13) hx hb hts inW hown hK hP 0 rfl rfl 1 (by decide) (hts (.fieldLink RX0 13 "Flowforge" "machineCount" "I") (List.mem_of_getElem? (i := 1) rfl)) (fun _ h9 => h9) rfl dX0_freeFrom_14 ?_
      refine lv_iconst (v := iI 1) hx hb dX0_freeFrom_17 rfl ?_
      refine w_isub (z := (mm : Int) - 1) hx hb dX0_freeFrom_18 (by omega) ?_
      refine w_icmp_ge (tgt := 37) hx hb dX0_freeFrom_19 (by decide) ⟨by omega, by omega⟩ ⟨by omega, by omega⟩ (fun c19 => ?_) (fun c19 => ?_)
      · refine lv_aload_n hx hb dX0_freeFrom_37 rfl (lv_at hl 0 rfl) ?_
        refine va_get (D := D) (ci := 0) (C := RX0) (T := TX0) (N := 13) hx hb hts inW hown hK hP 0 rfl rfl 4 (by decide) (hts (.fieldLink RX0 23 "Flowforge" "ends" "[I") (List.mem_of_getElem? (i := 3) rfl)) (fun _ h9 => h9) rfl dX0_freeFrom_38 ?_
        refine lv_iload_n hx hb dX0_freeFrom_41 rfl (lv_at hl 2 rfl) ?_
        refine lv_iconst (v := iI 1) hx hb dX0_freeFrom_42 rfl ?_
        refine w_isub (z := (q : Int) - 1) hx hb dX0_freeFrom_43 (by omega) ?_
        refine lv_iload_n hx hb dX0_freeFrom_44 rfl (lv_at hl 3 rfl) ?_
        refine w_pS (As := [.int (iI ((q : Int) - 1)), .int (iI ((k : Int)))]) (rest := [.ref (ad 3)]) ⟨hx, hb, hml, hown, hts⟩ hK hP (mX0_cell  ) (va_cwS 2 hts gX0_freeFrom_X0_cell rfl rfl rfl (by decide +kernel) ⟨Nat.le_of_ble_eq_true rfl, Nat.le_of_ble_eq_true rfl⟩) rfl hl.1 rfl (Nat.le_of_ble_eq_true rfl) dX0_freeFrom_45 ⟨Nat.zero_le _, Nat.zero_le _⟩ (fun r45 hr45 => ?_)
        refine w_top (v := iI (5 * (q : Int) + (k : Int) - 5)) (hr45.trans (congrArg iI (by omega))) ?_
        refine w_iald (v := iI (tE (5 * (q - 1) + k))) hx hb hK hP 3 0 rfl rfl (5 * (q - 1) + k) (by omega) (by omega) (by decide) rfl dX0_freeFrom_48 ?_
        exact hret 49 ls _ (by unfold frm prv; rw [if_neg (by omega), if_neg (by omega)]) dX0_freeFrom_49
      · refine lv_aload_n hx hb dX0_freeFrom_22 rfl (lv_at hl 0 rfl) ?_
        refine va_get (D := D) (ci := 0) (C := RX0) (T := TX0) (N := 13) hx hb hts inW hown hK hP 0 rfl rfl 3 (by decide) (hts (.fieldLink RX0 20 "Flowforge" "begins" "[I") (List.mem_of_getElem? (i := 2) rfl)) (fun _ h9 => h9) rfl dX0_freeFrom_23 ?_
        refine lv_iload_n hx hb dX0_freeFrom_26 rfl (lv_at hl 2 rfl) ?_
        refine lv_iconst (v := iI 1) hx hb dX0_freeFrom_27 rfl ?_
        refine w_isub (z := (q : Int) - 1) hx hb dX0_freeFrom_28 (by omega) ?_
        refine lv_iload_n hx hb dX0_freeFrom_29 rfl (lv_at hl 3 rfl) ?_
        refine lv_iconst (v := iI 1) hx hb dX0_freeFrom_30 rfl ?_
        refine w_iadd (z := (k : Int) + 1) hx hb dX0_freeFrom_31 (by omega) ?_
        refine w_pS (As := [.int (iI ((q : Int) - 1)), .int (iI ((k : Int) + 1))]) (rest := [.ref (ad 2)]) ⟨hx, hb, hml, hown, hts⟩ hK hP (mX0_cell  ) (va_cwS 2 hts gX0_freeFrom_X0_cell rfl rfl rfl (by decide +kernel) ⟨Nat.le_of_ble_eq_true rfl, Nat.le_of_ble_eq_true rfl⟩) rfl hl.1 rfl (Nat.le_of_ble_eq_true rfl) dX0_freeFrom_32 ⟨Nat.zero_le _, Nat.zero_le _⟩ (fun r32 hr32 => ?_)
        refine w_top (v := iI (5 * (q : Int) + (k : Int) - 4)) (hr32.trans (congrArg iI (by omega))) ?_
        refine w_iald (v := iI (tB (5 * (q - 1) + (k + 1)))) hx hb hK hP 2 0 rfl rfl (5 * (q - 1) + (k + 1)) (by omega) (by omega) (by decide) rfl dX0_freeFrom_35 ?_
        exact hret 36 ls _ (by unfold frm prv; rw [if_pos ⟨by omega, by omega⟩, if_neg (by omega)]) dX0_freeFrom_36
  · refine lv_iconst (v := iI 0) hx hb dX0_freeFrom_5 rfl ?_
    exact hret 6 ls _ (by obtain rfl : q = 0 := by omega; rw [frm_0]) dX0_freeFrom_6
set_option maxHeartbeats 4000000 in
set_option maxRecDepth 100000 in
theorem mX0_beginWithoutWaiting {q j : Nat} (hT : ∀ k, 0 ≤ tT k ∧ tT k ≤ 99) (hm : 1 ≤ mm ∧ mm ≤ 5) (hp : q < 7) (hj : j < 7) (hB : ∀ k, k < mm → (0 ≤ prv tB q k ∧ prv tB q k ≤ 1000000) ∧ 0 ≤ prv tE q k ∧ prv tE q k ≤ 1000000) : PM l yX0_beginWithoutWaiting wsX0_beginWithoutWaiting (rmx 2 44) D (tyk cI cZ cJ) (xw ad cI cZ nn mm tT tB tE tL oO oR oQ zS zM zN oJ) [.ref (ad 0), .int (iI ((q : Int))), .int (iI ((j : Int)))] (vp_Si (fun x => x = iI (stC (tj tT j) (prv tE q) mm))) := by
  refine pmI_of (cc := cX0_beginWithoutWaiting) (maxL := 6) (by decide) rfl (Nat.le_of_ble_eq_true rfl) ?_
  intro p e s m args below meth c Q hx hb hml hown hts hK hP hret ls hl
  have hown : s.vm.findClass RX0 = some m.cls := hown
  have hl : lv_has ls 6 [(0, .ref (ad 0)), (1, .int (iI ((q : Int)))), (2, .int (iI ((j : Int))))] := hl
  have inW : ∀ w ∈ wsX00, w ∈ wsX0_beginWithoutWaiting := by first | exact (fun w h => List.mem_cons_of_mem _ (List.mem_append_right _ h)) | exact (fun w h => List.mem_cons_of_mem _ (List.mem_append_left _ (List.mem_append_right _ h))) | exact (fun w h => List.mem_cons_of_mem _ (List.mem_append_left _ (List.mem_append_left _ (List.mem_append_right _ h)))) | decide +kernel
  refine lv_iconst (v := iI 0) hx hb dX0_beginWithoutWaiting_0 rfl ?_
  refine lv_istore_n (lv' := [(3, .int (iI 0)), (0, .ref (ad 0)), (1, .int (iI ((q : Int)))), (2, .int (iI ((j : Int))))]) hx hb dX0_beginWithoutWaiting_1 rfl hl (by decide) rfl (fun ls hl => ?_)
  refine lv_iconst (v := iI 0) hx hb dX0_beginWithoutWaiting_2 rfl ?_
  refine lv_istore (lv' := [(4, .int (iI 0)), (3, .int (iI 0)), (0, .ref (ad 0)), (1, .int (iI ((q : Int)))), (2, .int (iI ((j : Int))))]) hx hb dX0_beginWithoutWaiting_3 hl (by decide) rfl (fun ls hl => ?_)
  refine lv_iconst (v := iI 0) hx hb dX0_beginWithoutWaiting_5 rfl ?_
  refine lv_istore (lv' := [(5, .int (iI 0)), (4, .int (iI 0)), (3, .int (iI 0)), (0, .ref (ad 0)), (1, .int (iI ((q : Int)))), (2, .int (iI ((j : Int))))]) hx hb dX0_beginWithoutWaiting_6 hl (by decide) rfl (fun ls hl => ?_)
  have L8 : ∀ (fu : Nat) (i : Nat) (x5_8 : Int) (x4_8 : Int) (x3_8 : Int), (i ≤ mm) → (x5_8 = (i : Int)) → (x4_8 = (wyC (tj tT j) i)) → (x3_8 = (stC (tj tT j) (prv tE q) i)) → mm - i < fu → ∀ ls : Array Slot, lv_has ls 6 [(5, .int (iI (x5_8))), (4, .int (iI (x4_8))), (3, .int (iI (x3_8))), (0, .ref (ad 0)), (1, .int (iI ((q : Int)))), (2, .int (iI ((j : Int))))] → W p l e (rmx 2 44) s m args below meth c s.heap [] 0 0 Q (F0 m 8 ls []) := by
    intro fu
    induction fu with
    | zero =>
      intro i x5_8 x4_8 x3_8 hi hq0 hq1 hq2 hfu
      exact absurd hfu (Nat.not_lt_zero _)
    | succ fu ih =>
      intro i x5_8 x4_8 x3_8 hi hq0 hq1 hq2 hfu ls hl
      subst hq0
      subst hq1
      subst hq2
      have ih8 := ih
      have h9 := stC_rg (K := 1000000) (by omega) (fun k => hT (5 * j + k)) (fun k hk => (hB k hk).2.2) i hi
      have h8 := wyC_rg (t := tj tT j) (fun k => hT (5 * j + k)) i
      refine lv_iload hx hb dX0_beginWithoutWaiting_8 (lv_at hl 0 rfl) ?_
      refine lv_aload_n hx hb dX0_beginWithoutWaiting_10 rfl (lv_at hl 3 rfl) ?_
      refine va_get (D := D) (ci := 0) (C := RX0) (T := TX0) (N := 13) hx hb hts inW hown hK hP 0 rfl rfl 1 (by decide) (hts (.fieldLink RX0 13 "Flowforge" "machineCount" "I") (List.mem_of_getElem? (i := 1) rfl)) (fun _ h9 => h9) rfl dX0_beginWithoutWaiting_11 ?_
      refine w_icmp_ge (tgt := 51) hx hb dX0_beginWithoutWaiting_14 (by decide) ⟨by omega, by omega⟩ ⟨by omega, by omega⟩ (fun c14 => ?_) (fun c14 => ?_)
      · refine lv_iload_n hx hb dX0_beginWithoutWaiting_51 rfl (lv_at hl 2 rfl) ?_
        exact hret 52 ls _ (by rw [show i = mm by omega]) dX0_beginWithoutWaiting_52
      · refine lv_iload_n hx hb dX0_beginWithoutWaiting_17 rfl (lv_at hl 2 rfl) ?_
        refine lv_aload_n hx hb dX0_beginWithoutWaiting_18 rfl (lv_at hl 3 rfl) ?_
        refine lv_iconst (v := iI 2) hx hb dX0_beginWithoutWaiting_19 rfl ?_
        refine lv_iload_n hx hb dX0_beginWithoutWaiting_20 rfl (lv_at hl 4 rfl) ?_
        refine lv_iload hx hb dX0_beginWithoutWaiting_21 (lv_at hl 0 rfl) ?_
        have h7 := hB i (by omega)
        refine w_pV (As := [.int (iI 2), .int (iI ((q : Int))), .int (iI ((i : Int)))]) (rest := [.int (iI ((stC (tj tT j) (prv tE q) i)))]) ⟨hx, hb, hml, hown, hts⟩ hK hP (mX0_freeFrom  (v := 2) hm (by omega) hp (by omega)) (cwV 3 hts gX0_beginWithoutWaiting_X0_freeFrom rfl rfl rfl (by decide +kernel) ⟨Nat.le_of_ble_eq_true rfl, Nat.le_of_ble_eq_true rfl⟩) (ci := 0) rfl rfl rfl rfl hl.1 rfl (Nat.le_of_ble_eq_true rfl) dX0_beginWithoutWaiting_23 ⟨Nat.zero_le _, Nat.zero_le _⟩ (fun r23 hr23 => ?_)
        refine w_top (v := iI ((prv tE q i))) (hr23.trans (congrArg iI frm_2)) ?_
        refine lv_iload hx hb dX0_beginWithoutWaiting_26 (lv_at hl 1 rfl) ?_
        refine w_isub (z := (prv tE q i) - (wyC (tj tT j) i)) hx hb dX0_beginWithoutWaiting_28 (by omega) ?_
        refine va_mmax hx hb (hml.trans hl.1.symm) hown (hts (.methodLink RX0 167 Lib.Math.max.name) (List.mem_of_getElem? (i := 2) rfl)) (hts (.static Lib.Math.max.name) (List.mem_of_getElem? (i := 3) rfl)) (hts (.initialized "java/lang/Math") (List.mem_of_getElem? (i := 4) rfl)) (hts (.code Lib.Math.max.name Lib.Math.max.code 2 (some .int)) (List.mem_of_getElem? (i := 5) rfl)) (Nat.le_of_ble_eq_true rfl) (Nat.le_of_ble_eq_true rfl) (Nat.zero_le _) (Nat.zero_le _) dX0_beginWithoutWaiting_29 ?_
        refine w_top (v := iI ((max ((stC (tj tT j) (prv tE q) i)) ((prv tE q i) - (wyC (tj tT j) i))))) (iI_max ⟨by omega, by omega⟩ ⟨by omega, by omega⟩) ?_
        refine lv_istore_n (lv' := [(3, .int (iI ((max ((stC (tj tT j) (prv tE q) i)) ((prv tE q i) - (wyC (tj tT j) i)))))), (5, .int (iI ((i : Int)))), (4, .int (iI ((wyC (tj tT j) i)))), (0, .ref (ad 0)), (1, .int (iI ((q : Int)))), (2, .int (iI ((j : Int))))]) hx hb dX0_beginWithoutWaiting_32 rfl hl (by decide) rfl (fun ls hl => ?_)
        refine lv_iload hx hb dX0_beginWithoutWaiting_33 (lv_at hl 2 rfl) ?_
        refine lv_aload_n hx hb dX0_beginWithoutWaiting_35 rfl (lv_at hl 3 rfl) ?_
        refine lv_iload_n hx hb dX0_beginWithoutWaiting_36 rfl (lv_at hl 5 rfl) ?_
        refine lv_iload hx hb dX0_beginWithoutWaiting_37 (lv_at hl 1 rfl) ?_
        refine w_pV (As := [.int (iI ((j : Int))), .int (iI ((i : Int)))]) (rest := [.int (iI ((wyC (tj tT j) i)))]) ⟨hx, hb, hml, hown, hts⟩ hK hP (mX0_timeOf  hj (by omega)) (cwV 2 hts gX0_beginWithoutWaiting_X0_timeOf rfl rfl rfl (by decide +kernel) ⟨Nat.le_of_ble_eq_true rfl, Nat.le_of_ble_eq_true rfl⟩) (ci := 0) rfl rfl rfl rfl hl.1 rfl (Nat.le_of_ble_eq_true rfl) dX0_beginWithoutWaiting_39 ⟨Nat.zero_le _, Nat.zero_le _⟩ (fun r39 hr39 => ?_)
        refine w_top (v := iI ((tT (5 * j + i)))) (hr39) ?_
        refine w_iadd (z := (wyC (tj tT j) i) + (tT (5 * j + i))) hx hb dX0_beginWithoutWaiting_42 (by omega) ?_
        refine lv_istore (lv' := [(4, .int (iI ((wyC (tj tT j) i) + (tT (5 * j + i))))), (3, .int (iI ((max ((stC (tj tT j) (prv tE q) i)) ((prv tE q i) - (wyC (tj tT j) i)))))), (5, .int (iI ((i : Int)))), (0, .ref (ad 0)), (1, .int (iI ((q : Int)))), (2, .int (iI ((j : Int))))]) hx hb dX0_beginWithoutWaiting_43 hl (by decide) rfl (fun ls hl => ?_)
        refine lv_iinc (v := iI ((i : Int) + 1)) (lv' := [(5, .int (iI ((i : Int) + 1))), (4, .int (iI ((wyC (tj tT j) i) + (tT (5 * j + i))))), (3, .int (iI ((max ((stC (tj tT j) (prv tE q) i)) ((prv tE q i) - (wyC (tj tT j) i)))))), (0, .ref (ad 0)), (1, .int (iI ((q : Int)))), (2, .int (iI ((j : Int))))]) hx hb dX0_beginWithoutWaiting_45 hl (k := 2) rfl (iI_inc (by omega)) (by decide) rfl (fun ls hl => ?_)
        refine lv_goto (tgt := 8) hx hb dX0_beginWithoutWaiting_48 (by decide) ?_
        exact ih8 (i + 1) ((i : Int) + 1) ((wyC (tj tT j) i) + (tT (5 * j + i))) ((max ((stC (tj tT j) (prv tE q) i)) ((prv tE q i) - (wyC (tj tT j) i)))) (by omega) (by omega) (rfl) (rfl) (by omega) ls (lv_sub hl [0, 1, 2, 3, 4, 5] rfl)
  exact L8 (mm - 0 + 1) 0 (0) (0) (0) (by omega) (by omega) (rfl) (rfl) (Nat.lt_succ_self _) ls (lv_sub hl [0, 1, 2, 3, 4, 5] rfl)
set_option maxHeartbeats 4000000 in
set_option maxRecDepth 100000 in
theorem mX0_scheduleJob {v q j : Nat} (hT : ∀ k, 0 ≤ tT k ∧ tT k ≤ 99) (hm : 1 ≤ mm ∧ mm ≤ 5) (hv : v ≤ 2) (hp : q < 7) (hj : j < 7) (hB : ∀ k, k < mm → (0 ≤ prv tB q k ∧ prv tB q k ≤ 1000000) ∧ 0 ≤ prv tE q k ∧ prv tE q k ≤ 1000000) : IM l yX0_scheduleJob wsX0_scheduleJob (rmx 3 69) D (tyk cI cZ cJ) (xw ad cI cZ nn mm tT tB tE tL oO oR oQ zS zM zN oJ) [.ref (ad 0), .int (iI ((v : Int))), .int (iI ((q : Int))), .int (iI ((j : Int)))] (QV D (tyk cI cZ cJ) (fun u : Unit => xw ad cI cZ nn mm tT (pt tB (sjB v mm tT q j tB tE) (5 * q) mm) (pt tE (sjE v mm tT q j tB tE) (5 * q) mm) tL oO oR oQ zS zM zN oJ) (fun _ => True)) := by
  refine imV_of (cc := cX0_scheduleJob) (maxL := 7) (by decide) rfl (Nat.le_of_ble_eq_true rfl) ?_
  intro p e s m args below meth c A Q hx hb hml hown hts hA hK hP hD hS hret ls hl
  have hown : s.vm.findClass RX0 = some m.cls := hown
  have hl : lv_has ls 7 [(0, .ref (ad 0)), (1, .int (iI ((v : Int)))), (2, .int (iI ((q : Int)))), (3, .int (iI ((j : Int))))] := hl
  have inW : ∀ w ∈ wsX00, w ∈ wsX0_scheduleJob := by first | exact (fun w h => List.mem_cons_of_mem _ (List.mem_append_right _ h)) | exact (fun w h => List.mem_cons_of_mem _ (List.mem_append_left _ (List.mem_append_right _ h))) | exact (fun w h => List.mem_cons_of_mem _ (List.mem_append_left _ (List.mem_append_left _ (List.mem_append_right _ h)))) | decide +kernel
  refine lv_iload_n hx hb dX0_scheduleJob_0 rfl (lv_at hl 1 rfl) ?_
  refine lv_iconst (v := iI 2) hx hb dX0_scheduleJob_1 rfl ?_
  have J15 : ∀ (H : Heap) (locs : List Loc), va_P D vwCl (xw ad cI cZ nn mm tT tB tE tL oO oR oQ zS zM zN oJ) H → va_D A (xw ad cI cZ nn mm tT tB tE tL oO oR oQ zS zM zN oJ) → va_S A s.heap H locs → ∀ ls : Array Slot, lv_has ls 7 [(0, .ref (ad 0)), (1, .int (iI ((v : Int)))), (2, .int (iI ((q : Int)))), (3, .int (iI ((j : Int))))] → W p l e (rmx 3 69) s m args below meth c H locs 0 0 Q (F0 m 15 ls [.int (iI ((m0v v mm (tj tT j) (prv tE q))))]) := by
    intro H locs hP hD hS ls hl
    refine lv_istore (lv' := [(4, .int (iI ((m0v v mm (tj tT j) (prv tE q))))), (0, .ref (ad 0)), (1, .int (iI ((v : Int)))), (2, .int (iI ((q : Int)))), (3, .int (iI ((j : Int))))]) hx hb dX0_scheduleJob_15 hl (by decide) rfl (fun ls hl => ?_)
    refine lv_iconst (v := iI 0) hx hb dX0_scheduleJob_17 rfl ?_
    refine lv_istore (lv' := [(5, .int (iI 0)), (4, .int (iI ((m0v v mm (tj tT j) (prv tE q))))), (0, .ref (ad 0)), (1, .int (iI ((v : Int)))), (2, .int (iI ((q : Int)))), (3, .int (iI ((j : Int))))]) hx hb dX0_scheduleJob_18 hl (by decide) rfl (fun ls hl => ?_)
    have L20 : ∀ (fu : Nat) (i : Nat) (wbegins20 : Nat → Int) (wends20 : Nat → Int) (x5_20 : Int) (x4_20 : Int), (i ≤ mm) → (wbegins20 = pt tB (sjB v mm tT q j tB tE) (5 * q) i) → (wends20 = pt tE (sjE v mm tT q j tB tE) (5 * q) i) → (x5_20 = (i : Int)) → (x4_20 = (mom v mm (tj tT j) (prv tB q) (prv tE q) (m0v v mm (tj tT j) (prv tE q)) i)) → mm - i < fu → ∀ (H : Heap) (locs : List Loc), va_P D vwCl (xw ad cI cZ nn mm tT wbegins20 wends20 tL oO oR oQ zS zM zN oJ) H → va_D A (xw ad cI cZ nn mm tT wbegins20 wends20 tL oO oR oQ zS zM zN oJ) → va_S A s.heap H locs → ∀ ls : Array Slot, lv_has ls 7 [(5, .int (iI (x5_20))), (4, .int (iI (x4_20))), (0, .ref (ad 0)), (1, .int (iI ((v : Int)))), (2, .int (iI ((q : Int)))), (3, .int (iI ((j : Int))))] → W p l e (rmx 3 69) s m args below meth c H locs 0 0 Q (F0 m 20 ls []) := by
      intro fu
      induction fu with
      | zero =>
        intro i wbegins20 wends20 x5_20 x4_20 hi hq0 hq1 hq2 hq3 hfu
        exact absurd hfu (Nat.not_lt_zero _)
      | succ fu ih =>
        intro i wbegins20 wends20 x5_20 x4_20 hi hq0 hq1 hq2 hq3 hfu H locs hP hD hS ls hl
        subst hq0
        subst hq1
        subst hq2
        subst hq3
        have ih20 := ih
        have h9 := mom_rg (v := v) (fun k => hT (5 * j + k)) hB (m0v_rg (v := v) (mm := mm) (t := tj tT j) (e := prv tE q) (K := 1000000) (by omega) (fun k => hT (5 * j + k)) (fun k hk => (hB k hk).2.2)) i hi
        refine lv_iload hx hb dX0_scheduleJob_20 (lv_at hl 0 rfl) ?_
        refine lv_aload_n hx hb dX0_scheduleJob_22 rfl (lv_at hl 2 rfl) ?_
        refine va_get (D := D) (ci := 0) (C := RX0) (T := TX0) (N := 13) hx hb hts inW hown hK hP 0 rfl rfl 1 (by decide) (hts (.fieldLink RX0 13 "Flowforge" "machineCount" "I") (List.mem_of_getElem? (i := 1) rfl)) (fun _ h9 => h9) rfl dX0_scheduleJob_23 ?_
        refine w_icmp_ge (tgt := 88) hx hb dX0_scheduleJob_26 (by decide) ⟨by omega, by omega⟩ ⟨by omega, by omega⟩ (fun c26 => ?_) (fun c26 => ?_)
        · obtain rfl : mm = i := by omega
          exact hret H locs 88 ls (()) hP hD hS (trivial) dX0_scheduleJob_88
        · have h8 := frm_rg (v := v) hB (show i < mm by omega)
          refine lv_iload hx hb dX0_scheduleJob_29 (lv_at hl 1 rfl) ?_
          refine lv_aload_n hx hb dX0_scheduleJob_31 rfl (lv_at hl 2 rfl) ?_
          refine lv_iload_n hx hb dX0_scheduleJob_32 rfl (lv_at hl 3 rfl) ?_
          refine lv_iload_n hx hb dX0_scheduleJob_33 rfl (lv_at hl 4 rfl) ?_
          refine lv_iload hx hb dX0_scheduleJob_34 (lv_at hl 0 rfl) ?_
          refine w_pV (As := [.int (iI ((v : Int))), .int (iI ((q : Int))), .int (iI ((i : Int)))]) (rest := [.int (iI ((mom v mm (tj tT j) (prv tB q) (prv tE q) (m0v v mm (tj tT j) (prv tE q)) i)))]) ⟨hx, hb, hml, hown, hts⟩ hK hP (mX0_freeFrom  hm hv hp (by omega)) (cwV 3 hts gX0_scheduleJob_X0_freeFrom rfl rfl rfl (by decide +kernel) ⟨Nat.le_of_ble_eq_true rfl, Nat.le_of_ble_eq_true rfl⟩) (ci := 0) rfl rfl rfl rfl hl.1 rfl (Nat.le_of_ble_eq_true rfl) dX0_scheduleJob_36 ⟨Nat.zero_le _, Nat.zero_le _⟩ (fun r36 hr36 => ?_)
          refine w_top (v := iI ((frm v mm (prv tB q) (prv tE q) i))) (hr36.trans (congrArg iI (frm_pt hm.2 (by omega)))) ?_
          refine va_mmax hx hb (hml.trans hl.1.symm) hown (hts (.methodLink RX0 167 Lib.Math.max.name) (List.mem_of_getElem? (i := 2) rfl)) (hts (.static Lib.Math.max.name) (List.mem_of_getElem? (i := 3) rfl)) (hts (.initialized "java/lang/Math") (List.mem_of_getElem? (i := 4) rfl)) (hts (.code Lib.Math.max.name Lib.Math.max.code 2 (some .int)) (List.mem_of_getElem? (i := 5) rfl)) (Nat.le_of_ble_eq_true rfl) (Nat.le_of_ble_eq_true rfl) (Nat.zero_le _) (Nat.zero_le _) dX0_scheduleJob_39 ?_
          refine w_top (v := iI ((sjB v mm tT q j tB tE i))) (iI_max ⟨by omega, by omega⟩ ⟨by omega, by omega⟩) ?_
          refine lv_istore (lv' := [(6, .int (iI ((sjB v mm tT q j tB tE i)))), (5, .int (iI ((i : Int)))), (4, .int (iI ((mom v mm (tj tT j) (prv tB q) (prv tE q) (m0v v mm (tj tT j) (prv tE q)) i)))), (0, .ref (ad 0)), (1, .int (iI ((v : Int)))), (2, .int (iI ((q : Int)))), (3, .int (iI ((j : Int))))]) hx hb dX0_scheduleJob_42 hl (by decide) rfl (fun ls hl => ?_)
          refine lv_aload_n hx hb dX0_scheduleJob_44 rfl (lv_at hl 3 rfl) ?_
          refine va_get (D := D) (ci := 0) (C := RX0) (T := TX0) (N := 13) hx hb hts inW hown hK hP 0 rfl rfl 3 (by decide) (hts (.fieldLink RX0 20 "Flowforge" "begins" "[I") (List.mem_of_getElem? (i := 6) rfl)) (fun _ h9 => h9) rfl dX0_scheduleJob_45 ?_
          refine lv_iload_n hx hb dX0_scheduleJob_48 rfl (lv_at hl 5 rfl) ?_
          refine lv_iload hx hb dX0_scheduleJob_49 (lv_at hl 1 rfl) ?_
          refine w_pS (As := [.int (iI ((q : Int))), .int (iI ((i : Int)))]) (rest := [.ref (ad 2)]) ⟨hx, hb, hml, hown, hts⟩ hK hP (mX0_cell  ) (va_cwS 2 hts gX0_scheduleJob_X0_cell rfl rfl rfl (by decide +kernel) ⟨Nat.le_of_ble_eq_true rfl, Nat.le_of_ble_eq_true rfl⟩) rfl hl.1 rfl (Nat.le_of_ble_eq_true rfl) dX0_scheduleJob_51 ⟨Nat.zero_le _, Nat.zero_le _⟩ (fun r51 hr51 => ?_)
          refine w_top (v := iI (5 * (q : Int) + (i : Int))) (hr51.trans (congrArg iI (by omega))) ?_
          refine lv_iload hx hb dX0_scheduleJob_54 (lv_at hl 0 rfl) ?_
          refine w_iast (g := tI (pt tB (sjB v mm tT q j tB tE) (5 * q) (i + 1))) (ws' := xw ad cI cZ nn mm tT (pt tB (sjB v mm tT q j tB tE) (5 * q) (i + 1)) (pt tE (sjE v mm tT q j tB tE) (5 * q) i) tL oO oR oQ zS zM zN oJ) hx hb hK hP hD hS 2 0 rfl rfl (5 * q + i) (by omega) (by omega) (by decide) (hg := (tI_up.trans (congrArg tI pt_s))) (hw := rfl) (hd := dX0_scheduleJob_56) (kk := fun H locs hP hD hS => ?_)
          refine lv_iload hx hb dX0_scheduleJob_57 (lv_at hl 0 rfl) ?_
          refine lv_aload_n hx hb dX0_scheduleJob_59 rfl (lv_at hl 3 rfl) ?_
          refine lv_iload_n hx hb dX0_scheduleJob_60 rfl (lv_at hl 6 rfl) ?_
          refine lv_iload hx hb dX0_scheduleJob_61 (lv_at hl 1 rfl) ?_
          refine w_pV (As := [.int (iI ((j : Int))), .int (iI ((i : Int)))]) (rest := [.int (iI ((sjB v mm tT q j tB tE i)))]) ⟨hx, hb, hml, hown, hts⟩ hK hP (mX0_timeOf  hj (by omega)) (cwV 2 hts gX0_scheduleJob_X0_timeOf rfl rfl rfl (by decide +kernel) ⟨Nat.le_of_ble_eq_true rfl, Nat.le_of_ble_eq_true rfl⟩) (ci := 0) rfl rfl rfl rfl hl.1 rfl (Nat.le_of_ble_eq_true rfl) dX0_scheduleJob_63 ⟨Nat.zero_le _, Nat.zero_le _⟩ (fun r63 hr63 => ?_)
          refine w_top (v := iI ((tT (5 * j + i)))) (hr63) ?_
          refine w_iadd (z := (sjE v mm tT q j tB tE i)) hx hb dX0_scheduleJob_66 (rfl) ?_
          refine lv_istore (lv' := [(4, .int (iI ((sjE v mm tT q j tB tE i)))), (6, .int (iI ((sjB v mm tT q j tB tE i)))), (5, .int (iI ((i : Int)))), (0, .ref (ad 0)), (1, .int (iI ((v : Int)))), (2, .int (iI ((q : Int)))), (3, .int (iI ((j : Int))))]) hx hb dX0_scheduleJob_67 hl (by decide) rfl (fun ls hl => ?_)
          refine lv_aload_n hx hb dX0_scheduleJob_69 rfl (lv_at hl 3 rfl) ?_
          refine va_get (D := D) (ci := 0) (C := RX0) (T := TX0) (N := 13) hx hb hts inW hown hK hP 0 rfl rfl 4 (by decide) (hts (.fieldLink RX0 23 "Flowforge" "ends" "[I") (List.mem_of_getElem? (i := 7) rfl)) (fun _ h9 => h9) rfl dX0_scheduleJob_70 ?_
          refine lv_iload_n hx hb dX0_scheduleJob_73 rfl (lv_at hl 5 rfl) ?_
          refine lv_iload hx hb dX0_scheduleJob_74 (lv_at hl 2 rfl) ?_
          refine w_pS (As := [.int (iI ((q : Int))), .int (iI ((i : Int)))]) (rest := [.ref (ad 3)]) ⟨hx, hb, hml, hown, hts⟩ hK hP (mX0_cell  ) (va_cwS 2 hts gX0_scheduleJob_X0_cell rfl rfl rfl (by decide +kernel) ⟨Nat.le_of_ble_eq_true rfl, Nat.le_of_ble_eq_true rfl⟩) rfl hl.1 rfl (Nat.le_of_ble_eq_true rfl) dX0_scheduleJob_76 ⟨Nat.zero_le _, Nat.zero_le _⟩ (fun r76 hr76 => ?_)
          refine w_top (v := iI (5 * (q : Int) + (i : Int))) (hr76.trans (congrArg iI (by omega))) ?_
          refine lv_iload hx hb dX0_scheduleJob_79 (lv_at hl 0 rfl) ?_
          refine w_iast (g := tI (pt tE (sjE v mm tT q j tB tE) (5 * q) (i + 1))) (ws' := xw ad cI cZ nn mm tT (pt tB (sjB v mm tT q j tB tE) (5 * q) (i + 1)) (pt tE (sjE v mm tT q j tB tE) (5 * q) (i + 1)) tL oO oR oQ zS zM zN oJ) hx hb hK hP hD hS 3 0 rfl rfl (5 * q + i) (by omega) (by omega) (by decide) (hg := (tI_up.trans (congrArg tI pt_s))) (hw := rfl) (hd := dX0_scheduleJob_81) (kk := fun H locs hP hD hS => ?_)
          refine lv_iinc (v := iI ((i : Int) + 1)) (lv' := [(5, .int (iI ((i : Int) + 1))), (4, .int (iI ((sjE v mm tT q j tB tE i)))), (6, .int (iI ((sjB v mm tT q j tB tE i)))), (0, .ref (ad 0)), (1, .int (iI ((v : Int)))), (2, .int (iI ((q : Int)))), (3, .int (iI ((j : Int))))]) hx hb dX0_scheduleJob_82 hl (k := 2) rfl (iI_inc (by omega)) (by decide) rfl (fun ls hl => ?_)
          refine lv_goto (tgt := 20) hx hb dX0_scheduleJob_85 (by decide) ?_
          exact ih20 (i + 1) (pt tB (sjB v mm tT q j tB tE) (5 * q) (i + 1)) (pt tE (sjE v mm tT q j tB tE) (5 * q) (i + 1)) ((i : Int) + 1) ((sjE v mm tT q j tB tE i)) (by omega) (rfl) (rfl) (by omega) (rfl) (by omega) _ _ hP hD hS ls (lv_sub hl [0, 1, 3, 4, 5, 6] rfl)
    exact L20 (mm - 0 + 1) 0 tB tE (0) ((m0v v mm (tj tT j) (prv tE q))) (by omega) ((pt_0 _ _ _).symm) ((pt_0 _ _ _).symm) (by omega) (rfl) (Nat.lt_succ_self _) _ _ hP hD hS ls (lv_sub hl [0, 1, 2, 3, 4, 5] rfl)
  refine w_icmp_ne (tgt := 14) hx hb dX0_scheduleJob_2 (by decide) ⟨by omega, by omega⟩ ⟨by omega, by omega⟩ (fun c2 => ?_) (fun c2 => ?_)
  · refine lv_iconst (v := iI 0) hx hb dX0_scheduleJob_14 rfl ?_
    refine w_top (v := iI ((m0v v mm (tj tT j) (prv tE q)))) (by unfold m0v; rw [if_neg (by omega)]) ?_
    exact J15  _ _ hP hD hS ls (lv_sub hl [0, 1, 2, 3] rfl)
  · refine lv_aload_n hx hb dX0_scheduleJob_5 rfl (lv_at hl 0 rfl) ?_
    refine lv_iload_n hx hb dX0_scheduleJob_6 rfl (lv_at hl 2 rfl) ?_
    refine lv_iload_n hx hb dX0_scheduleJob_7 rfl (lv_at hl 3 rfl) ?_
    refine w_pV (As := [.int (iI ((q : Int))), .int (iI ((j : Int)))]) (rest := []) ⟨hx, hb, hml, hown, hts⟩ hK hP (mX0_beginWithoutWaiting  hT hm hp hj hB) (cwV 2 hts gX0_scheduleJob_X0_beginWithoutWaiting rfl rfl rfl (by decide +kernel) ⟨Nat.le_of_ble_eq_true rfl, Nat.le_of_ble_eq_true rfl⟩) (ci := 0) rfl rfl rfl rfl hl.1 rfl (Nat.le_of_ble_eq_true rfl) dX0_scheduleJob_8 ⟨Nat.zero_le _, Nat.zero_le _⟩ (fun r8 hr8 => ?_)
    refine w_top (v := iI ((stC (tj tT j) (prv tE q) mm))) (hr8) ?_
    refine lv_goto (tgt := 15) hx hb dX0_scheduleJob_11 (by decide) ?_
    refine w_top (v := iI ((m0v v mm (tj tT j) (prv tE q)))) (by unfold m0v; rw [if_pos (by omega)]) ?_
    exact J15  _ _ hP hD hS ls (lv_sub hl [0, 1, 2, 3] rfl)
set_option maxHeartbeats 4000000 in
set_option maxRecDepth 100000 in
theorem mX0_lastEnd {c0 : Nat} (hm : 1 ≤ mm ∧ mm ≤ 5) (hc : c0 ≤ 7) : PM l yX0_lastEnd wsX0_lastEnd (rmx 1 21) D (tyk cI cZ cJ) (xw ad cI cZ nn mm tT tB tE tL oO oR oQ zS zM zN oJ) [.ref (ad 0), .int (iI ((c0 : Int)))] (vp_Si (fun x => x = iI (lstE mm c0 tE))) := by
  refine pmI_of (cc := cX0_lastEnd) (maxL := 2) (by decide) rfl (Nat.le_of_ble_eq_true rfl) ?_
  intro p e s m args below meth c Q hx hb hml hown hts hK hP hret ls hl
  have hown : s.vm.findClass RX0 = some m.cls := hown
  have hl : lv_has ls 2 [(0, .ref (ad 0)), (1, .int (iI ((c0 : Int))))] := hl
  have inW : ∀ w ∈ wsX00, w ∈ wsX0_lastEnd := by first | exact (fun w h => List.mem_cons_of_mem _ (List.mem_append_right _ h)) | exact (fun w h => List.mem_cons_of_mem _ (List.mem_append_left _ (List.mem_append_right _ h))) | exact (fun w h => List.mem_cons_of_mem _ (List.mem_append_left _ (List.mem_append_left _ (List.mem_append_right _ h)))) | decide +kernel
  refine lv_iload_n hx hb dX0_lastEnd_0 rfl (lv_at hl 1 rfl) ?_
  refine lv_iconst (v := iI 1) hx hb dX0_lastEnd_1 rfl ?_
  refine w_icmp_ge (tgt := 7) hx hb dX0_lastEnd_2 (by decide) ⟨by omega, by omega⟩ ⟨by omega, by omega⟩ (fun c2 => ?_) (fun c2 => ?_)
  · refine lv_aload_n hx hb dX0_lastEnd_7 rfl (lv_at hl 0 rfl) ?_
    refine va_get (D := D) (ci := 0) (C := RX0) (T := TX0) (N := 13) hx hb hts inW hown hK hP 0 rfl rfl 4 (by decide) (hts (.fieldLink RX0 23 "Flowforge" "ends" "[I") (List.mem_of_getElem? (i := 1) rfl)) (fun _ h9 => h9) rfl dX0_lastEnd_8 ?_
    refine lv_iload_n hx hb dX0_lastEnd_11 rfl (lv_at hl 1 rfl) ?_
    refine lv_iconst (v := iI 1) hx hb dX0_lastEnd_12 rfl ?_
    refine w_isub (z := (c0 : Int) - 1) hx hb dX0_lastEnd_13 (by omega) ?_
    refine lv_aload_n hx hb dX0_lastEnd_14 rfl (lv_at hl 0 rfl) ?_
    refine va_get (D := D) (ci := 0) (C := RX0) (T := TX0) (N := 13) hx hb hts inW hown hK hP 0 rfl rfl 1 (by decide) (hts (.fieldLink RX0 13 "Flowforge" "machineCount" "I") (List.mem_of_getElem? (i := 2) rfl)) (fun _ h9 => h9) rfl dX0_lastEnd_15 ?_
    refine lv_iconst (v := iI 1) hx hb dX0_lastEnd_18 rfl ?_
    refine w_isub (z := (mm : Int) - 1) hx hb dX0_lastEnd_19 (by omega) ?_
    refine w_pS (As := [.int (iI ((c0 : Int) - 1)), .int (iI ((mm : Int) - 1))]) (rest := [.ref (ad 3)]) ⟨hx, hb, hml, hown, hts⟩ hK hP (mX0_cell  ) (va_cwS 2 hts gX0_lastEnd_X0_cell rfl rfl rfl (by decide +kernel) ⟨Nat.le_of_ble_eq_true rfl, Nat.le_of_ble_eq_true rfl⟩) rfl hl.1 rfl (Nat.le_of_ble_eq_true rfl) dX0_lastEnd_20 ⟨Nat.zero_le _, Nat.zero_le _⟩ (fun r20 hr20 => ?_)
    refine w_top (v := iI (5 * (c0 : Int) + (mm : Int) - 6)) (hr20.trans (congrArg iI (by omega))) ?_
    refine w_iald (v := iI (tE (5 * (c0 - 1) + (mm - 1)))) hx hb hK hP 3 0 rfl rfl (5 * (c0 - 1) + (mm - 1)) (by omega) (by omega) (by decide) rfl dX0_lastEnd_23 ?_
    exact hret 24 ls _ (by unfold lstE; rw [if_neg (by omega)]) dX0_lastEnd_24
  · refine lv_iconst (v := iI 0) hx hb dX0_lastEnd_5 rfl ?_
    exact hret 6 ls _ (by unfold lstE; rw [if_pos (by omega)]) dX0_lastEnd_6
set_option maxHeartbeats 4000000 in
set_option maxRecDepth 100000 in
theorem mX0_scheduleOrder {v : Nat} (hT : ∀ k, 0 ≤ tT k ∧ tT k ≤ 99) (hn : nn ≤ 7) (hm : 1 ≤ mm ∧ mm ≤ 5) (hv : v ≤ 2) (hO : ∀ k, k < nn → oO k < 7) : IM l yX0_scheduleOrder wsX0_scheduleOrder (rmx 4 95) D (tyk cI cZ cJ) (xw ad cI cZ nn mm tT tB tE tL oO oR oQ zS zM zN oJ) [.ref (ad 0), .int (iI ((v : Int)))] (QI D (tyk cI cZ cJ) (fun u : (Nat → Int) × (Nat → Int) => xw ad cI cZ nn mm tT u.1 u.2 tL oO oR oQ zS zM zN oJ) (fun x u => x = iI (mk v mm tT oO nn) ∧ rows v mm tT oO u.1 u.2 nn)) := by
  refine imI_of (cc := cX0_scheduleOrder) (maxL := 3) (by decide) rfl (Nat.le_of_ble_eq_true rfl) ?_
  intro p e s m args below meth c A Q hx hb hml hown hts hA hK hP hD hS hret ls hl
  have hown : s.vm.findClass RX0 = some m.cls := hown
  have hl : lv_has ls 3 [(0, .ref (ad 0)), (1, .int (iI ((v : Int))))] := hl
  have inW : ∀ w ∈ wsX00, w ∈ wsX0_scheduleOrder := by first | exact (fun w h => List.mem_cons_of_mem _ (List.mem_append_right _ h)) | exact (fun w h => List.mem_cons_of_mem _ (List.mem_append_left _ (List.mem_append_right _ h))) | exact (fun w h => List.mem_cons_of_mem _ (List.mem_append_left _ (List.mem_append_left _ (List.mem_append_right _ h)))) | decide +kernel
  refine lv_iconst (v := iI 0) hx hb dX0_scheduleOrder_0 rfl ?_
  refine lv_istore_n (lv' := [(2, .int (iI 0)), (0, .ref (ad 0)), (1, .int (iI ((v : Int))))]) hx hb dX0_scheduleOrder_1 rfl hl (by decide) rfl (fun ls hl => ?_)
  have L2 : ∀ (fu : Nat) (i : Nat) (wbegins2 : Nat → Int) (wends2 : Nat → Int) (x2_2 : Int), (i ≤ nn) → (rows v mm tT oO wbegins2 wends2 i) → (x2_2 = (i : Int)) → nn - i < fu → ∀ (H : Heap) (locs : List Loc), va_P D vwCl (xw ad cI cZ nn mm tT wbegins2 wends2 tL oO oR oQ zS zM zN oJ) H → va_D A (xw ad cI cZ nn mm tT wbegins2 wends2 tL oO oR oQ zS zM zN oJ) → va_S A s.heap H locs → ∀ ls : Array Slot, lv_has ls 3 [(2, .int (iI (x2_2))), (0, .ref (ad 0)), (1, .int (iI ((v : Int))))] → W p l e (rmx 4 95) s m args below meth c H locs 0 0 Q (F0 m 2 ls []) := by
    intro fu
    induction fu with
    | zero =>
      intro i wbegins2 wends2 x2_2 hi hI hq0 hfu
      exact absurd hfu (Nat.not_lt_zero _)
    | succ fu ih =>
      intro i wbegins2 wends2 x2_2 hi hI hq0 hfu H locs hP hD hS ls hl
      subst hq0
      have ih2 := ih
      refine lv_iload_n hx hb dX0_scheduleOrder_2 rfl (lv_at hl 0 rfl) ?_
      refine lv_aload_n hx hb dX0_scheduleOrder_3 rfl (lv_at hl 1 rfl) ?_
      refine va_get (D := D) (ci := 0) (C := RX0) (T := TX0) (N := 13) hx hb hts inW hown hK hP 0 rfl rfl 0 (by decide) (hts (.fieldLink RX0 7 "Flowforge" "jobCount" "I") (List.mem_of_getElem? (i := 1) rfl)) (fun _ h9 => h9) rfl dX0_scheduleOrder_4 ?_
      refine w_icmp_ge (tgt := 28) hx hb dX0_scheduleOrder_7 (by decide) ⟨by omega, by omega⟩ ⟨by omega, by omega⟩ (fun c7 => ?_) (fun c7 => ?_)
      · obtain rfl : nn = i := by omega
        refine lv_aload_n hx hb dX0_scheduleOrder_28 rfl (lv_at hl 1 rfl) ?_
        refine lv_aload_n hx hb dX0_scheduleOrder_29 rfl (lv_at hl 1 rfl) ?_
        refine va_get (D := D) (ci := 0) (C := RX0) (T := TX0) (N := 13) hx hb hts inW hown hK hP 0 rfl rfl 0 (by decide) (hts (.fieldLink RX0 7 "Flowforge" "jobCount" "I") (List.mem_of_getElem? (i := 1) rfl)) (fun _ h9 => h9) rfl dX0_scheduleOrder_30 ?_
        refine w_pV (As := [.int (iI ((nn : Int)))]) (rest := []) ⟨hx, hb, hml, hown, hts⟩ hK hP (mX0_lastEnd  hm hn) (cwV 1 hts gX0_scheduleOrder_X0_lastEnd rfl rfl rfl (by decide +kernel) ⟨Nat.le_of_ble_eq_true rfl, Nat.le_of_ble_eq_true rfl⟩) (ci := 0) rfl rfl rfl rfl hl.1 rfl (Nat.le_of_ble_eq_true rfl) dX0_scheduleOrder_33 ⟨Nat.zero_le _, Nat.zero_le _⟩ (fun r33 hr33 => ?_)
        refine w_top (v := iI ((mk v mm tT oO nn))) (hr33.trans (congrArg iI (lstE_rows hm.1 hI))) ?_
        exact hret H locs 36 ls _ ((wbegins2, wends2)) hP hD hS (⟨rfl, hI⟩) dX0_scheduleOrder_36
      · refine lv_aload_n hx hb dX0_scheduleOrder_10 rfl (lv_at hl 1 rfl) ?_
        refine lv_iload_n hx hb dX0_scheduleOrder_11 rfl (lv_at hl 2 rfl) ?_
        refine lv_iload_n hx hb dX0_scheduleOrder_12 rfl (lv_at hl 0 rfl) ?_
        refine lv_aload_n hx hb dX0_scheduleOrder_13 rfl (lv_at hl 1 rfl) ?_
        refine va_get (D := D) (ci := 0) (C := RX0) (T := TX0) (N := 13) hx hb hts inW hown hK hP 0 rfl rfl 6 (by decide) (hts (.fieldLink RX0 29 "Flowforge" "order" "[I") (List.mem_of_getElem? (i := 2) rfl)) (fun _ h9 => h9) rfl dX0_scheduleOrder_14 ?_
        refine lv_iload_n hx hb dX0_scheduleOrder_17 rfl (lv_at hl 0 rfl) ?_
        refine w_iald (v := iI ((oO i : Nat) : Int)) hx hb hK hP 5 0 rfl rfl (i) (by omega) (by omega) (by decide) rfl dX0_scheduleOrder_18 ?_
        refine w_iVv (As := [.int (iI ((v : Int))), .int (iI ((i : Int))), .int (iI (((((oO i)) : Nat) : Int)))]) (rest := []) (wf := fun u : Unit => xw ad cI cZ nn mm tT (pt wbegins2 (sjB v mm tT i ((oO i)) wbegins2 wends2) (5 * i) mm) (pt wends2 (sjE v mm tT i ((oO i)) wbegins2 wends2) (5 * i) mm) tL oO oR oQ zS zM zN oJ) ⟨hx, hb, hml, hown, hts⟩ hK hP hD hS hA (mX0_scheduleJob  hT hm hv (by omega) (hO i (by omega)) (rows_rg hm.2 hT (by omega) hI)) (cwV 3 hts gX0_scheduleOrder_X0_scheduleJob rfl rfl rfl (by decide +kernel) ⟨Nat.le_of_ble_eq_true rfl, Nat.le_of_ble_eq_true rfl⟩) [0, 1, 2, 3, 4, 5, 6, 7, 8, 9, 10, 11] [] [0, 1, 2, 3, 4, 5, 6, 7, 8, 9, 10, 11] rfl rfl (by decide) (by decide) (by decide) (hwf := fun _ => rfl) (by decide) (ci := 0) rfl rfl rfl rfl hl.1 (by rw [show ((((oO i : Nat) : Int)) : Int) = ((((oO i)) : Nat) : Int) by omega]; try rfl) (Nat.le_of_ble_eq_true rfl) dX0_scheduleOrder_19 ⟨Nat.zero_le _, Nat.zero_le _⟩ (fun u H locs hr19 hP hD hS => ?_)
        refine lv_iinc (v := iI ((i : Int) + 1)) (lv' := [(2, .int (iI ((i : Int) + 1))), (0, .ref (ad 0)), (1, .int (iI ((v : Int))))]) hx hb dX0_scheduleOrder_22 hl (k := 0) rfl (iI_inc (by omega)) (by decide) rfl (fun ls hl => ?_)
        refine lv_goto (tgt := 2) hx hb dX0_scheduleOrder_25 (by decide) ?_
        exact ih2 (i + 1) (pt wbegins2 (sjB v mm tT i ((oO i)) wbegins2 wends2) (5 * i) mm) (pt wends2 (sjE v mm tT i ((oO i)) wbegins2 wends2) (5 * i) mm) ((i : Int) + 1) (by omega) (rows_s hm.2 hI) (by omega) (by omega) _ _ hP hD hS ls (lv_sub hl [0, 1, 2] rfl)
  exact L2 (nn - 0 + 1) 0 tB tE (0) (by omega) (rows_0) (by omega) (Nat.lt_succ_self _) _ _ hP hD hS ls (lv_sub hl [0, 1, 2] rfl)
end
end
section
section
variable {l : Launch} {D : va_G} {cI cZ cJ : ClassId} {ad bd : Nat → Nat} {a0 : Nat} {ws : va_W} {nn mm : Nat} {th bm : Int} {tT tB tE tL : Nat → Int} {oO oR oQ : Nat → Nat} {zS zM zN : Nat → Int} {oJ fF : Nat → Nat}
set_option maxHeartbeats 4000000 in
set_option maxRecDepth 100000 in
theorem mX0_makespanIfShifted {fr to c0 : Nat} (hT : ∀ k, 0 ≤ tT k ∧ tT k ≤ 99) (hn : nn ≤ 7) (hm : 1 ≤ mm ∧ mm ≤ 5) (hc : c0 ≤ nn) (hf : fr < c0) (ht : to < c0) (hO : ∀ k, k < nn → oO k < 7) : IM l yX0_makespanIfShifted wsX0_makespanIfShifted (rmx 4 95) D (tyk cI cZ cJ) (xw ad cI cZ nn mm tT tB tE tL oO oR oQ zS zM zN oJ) [.ref (ad 0), .int (iI ((fr : Int))), .int (iI ((to : Int))), .int (iI ((c0 : Int)))] (QI D (tyk cI cZ cJ) (fun u : (Nat → Nat) × (Nat → Int) × (Nat → Int) => xw ad cI cZ nn mm tT u.2.1 u.2.2 tL oO u.1 oQ zS zM zN oJ) (fun x u => x = iI (mkS tT mm oO fr c0 to))) := by
  refine imI_of (cc := cX0_makespanIfShifted) (maxL := 5) (by decide) rfl (Nat.le_of_ble_eq_true rfl) ?_
  intro p e s m args below meth c A Q hx hb hml hown hts hA hK hP hD hS hret ls hl
  have hown : s.vm.findClass RX0 = some m.cls := hown
  have hl : lv_has ls 5 [(0, .ref (ad 0)), (1, .int (iI ((fr : Int)))), (2, .int (iI ((to : Int)))), (3, .int (iI ((c0 : Int))))] := hl
  have inW : ∀ w ∈ wsX00, w ∈ wsX0_makespanIfShifted := by first | exact (fun w h => List.mem_cons_of_mem _ (List.mem_append_right _ h)) | exact (fun w h => List.mem_cons_of_mem _ (List.mem_append_left _ (List.mem_append_right _ h))) | exact (fun w h => List.mem_cons_of_mem _ (List.mem_append_left _ (List.mem_append_left _ (List.mem_append_right _ h)))) | decide +kernel
  refine lv_aload_n hx hb dX0_makespanIfShifted_0 rfl (lv_at hl 0 rfl) ?_
  refine va_get (D := D) (ci := 0) (C := RX0) (T := TX0) (N := 13) hx hb hts inW hown hK hP 0 rfl rfl 6 (by decide) (hts (.fieldLink RX0 29 "Flowforge" "order" "[I") (List.mem_of_getElem? (i := 1) rfl)) (fun _ h9 => h9) rfl dX0_makespanIfShifted_1 ?_
  refine lv_iconst (v := iI 0) hx hb dX0_makespanIfShifted_4 rfl ?_
  refine lv_aload_n hx hb dX0_makespanIfShifted_5 rfl (lv_at hl 0 rfl) ?_
  refine va_get (D := D) (ci := 0) (C := RX0) (T := TX0) (N := 13) hx hb hts inW hown hK hP 0 rfl rfl 7 (by decide) (hts (.fieldLink RX0 32 "Flowforge" "trial" "[I") (List.mem_of_getElem? (i := 2) rfl)) (fun _ h9 => h9) rfl dX0_makespanIfShifted_6 ?_
  refine lv_iconst (v := iI 0) hx hb dX0_makespanIfShifted_9 rfl ?_
  refine lv_iload_n hx hb dX0_makespanIfShifted_10 rfl (lv_at hl 3 rfl) ?_
  refine w_copy (ws' := xw ad cI cZ nn mm tT tB tE tL oO (va_cpy oO oR 0 0 c0) oQ zS zM zN oJ) (g2 := jI (va_cpy oO oR 0 0 c0)) hx hb (hml.trans hl.1.symm) hown (hts (.methodLink RX0 150 arraycopyName) (List.mem_of_getElem? (i := 3) rfl)) (hts (.native arraycopyName) (List.mem_of_getElem? (i := 4) rfl)) (hts (.static arraycopyName) (List.mem_of_getElem? (i := 5) rfl)) (hts (.initialized "java/lang/System") (List.mem_of_getElem? (i := 6) rfl)) hK hP hD hS 5 6 rfl rfl rfl (0) (0) (c0) (by omega) (by omega) (by omega) (by omega) (by omega) (Nat.le_of_ble_eq_true rfl) (Nat.le_of_ble_eq_true rfl) (by decide) jI_cpy rfl dX0_makespanIfShifted_11 (fun H locs hP hD hS => ?_)
  refine lv_aload_n hx hb dX0_makespanIfShifted_14 rfl (lv_at hl 0 rfl) ?_
  refine va_get (D := D) (ci := 0) (C := RX0) (T := TX0) (N := 13) hx hb hts inW hown hK hP 0 rfl rfl 7 (by decide) (hts (.fieldLink RX0 32 "Flowforge" "trial" "[I") (List.mem_of_getElem? (i := 2) rfl)) (fun _ h9 => h9) rfl dX0_makespanIfShifted_15 ?_
  refine lv_iload_n hx hb dX0_makespanIfShifted_18 rfl (lv_at hl 1 rfl) ?_
  refine lv_iload_n hx hb dX0_makespanIfShifted_19 rfl (lv_at hl 2 rfl) ?_
  refine w_iSv (As := [.ref (ad 6), .int (iI ((fr : Int))), .int (iI ((to : Int)))]) (rest := []) (wf := fun u : Unit => xw ad cI cZ nn mm tT tB tE tL oO (shf (va_cpy oO oR 0 0 c0) fr to) oQ zS zM zN oJ) ⟨hx, hb, hml, hown, hts⟩ hK hP hD hS hA (mX0_shift  (by omega) (by omega)) (va_cwS 3 hts gX0_makespanIfShifted_X0_shift rfl rfl rfl (by decide +kernel) ⟨Nat.le_of_ble_eq_true rfl, Nat.le_of_ble_eq_true rfl⟩) [6] [0, 1, 2, 3, 4, 5, 7, 8, 9, 10, 11] [0, 1, 2, 3, 4, 5, 11, 6, 7, 8, 9, 10] rfl rfl (by decide) (by decide) (by decide) (hwf := fun _ => rfl) (by decide) rfl hl.1 rfl (Nat.le_of_ble_eq_true rfl) dX0_makespanIfShifted_20 ⟨Nat.zero_le _, Nat.zero_le _⟩ (fun u H locs hr20 hP hD hS => ?_)
  have hr9 : ∀ k, k < c0 → (shf (va_cpy oO oR 0 0 c0) fr to) k < 7 := shf_lt hf ht (fun k hk => by rw [cpy_in hk]; exact hO k (by omega))
  refine lv_iconst (v := iI 0) hx hb dX0_makespanIfShifted_23 rfl ?_
  refine lv_istore (lv' := [(4, .int (iI 0)), (0, .ref (ad 0)), (1, .int (iI ((fr : Int)))), (2, .int (iI ((to : Int)))), (3, .int (iI ((c0 : Int))))]) hx hb dX0_makespanIfShifted_24 hl (by decide) rfl (fun ls hl => ?_)
  have L26 : ∀ (fu : Nat) (i : Nat) (wbegins26 : Nat → Int) (wends26 : Nat → Int) (x4_26 : Int), (i ≤ c0) → (rows 0 mm tT (shf (va_cpy oO oR 0 0 c0) fr to) wbegins26 wends26 i) → (x4_26 = (i : Int)) → c0 - i < fu → ∀ (H : Heap) (locs : List Loc), va_P D vwCl (xw ad cI cZ nn mm tT wbegins26 wends26 tL oO (shf (va_cpy oO oR 0 0 c0) fr to) oQ zS zM zN oJ) H → va_D A (xw ad cI cZ nn mm tT wbegins26 wends26 tL oO (shf (va_cpy oO oR 0 0 c0) fr to) oQ zS zM zN oJ) → va_S A s.heap H locs → ∀ ls : Array Slot, lv_has ls 5 [(4, .int (iI (x4_26))), (0, .ref (ad 0)), (1, .int (iI ((fr : Int)))), (2, .int (iI ((to : Int)))), (3, .int (iI ((c0 : Int))))] → W p l e (rmx 4 95) s m args below meth c H locs 0 0 Q (F0 m 26 ls []) := by
    intro fu
    induction fu with
    | zero =>
      intro i wbegins26 wends26 x4_26 hi hI hq0 hfu
      exact absurd hfu (Nat.not_lt_zero _)
    | succ fu ih =>
      intro i wbegins26 wends26 x4_26 hi hI hq0 hfu H locs hP hD hS ls hl
      subst hq0
      have ih26 := ih
      refine lv_iload hx hb dX0_makespanIfShifted_26 (lv_at hl 0 rfl) ?_
      refine lv_iload_n hx hb dX0_makespanIfShifted_28 rfl (lv_at hl 4 rfl) ?_
      refine w_icmp_ge (tgt := 52) hx hb dX0_makespanIfShifted_29 (by decide) ⟨by omega, by omega⟩ ⟨by omega, by omega⟩ (fun c29 => ?_) (fun c29 => ?_)
      · obtain rfl : c0 = i := by omega
        refine lv_aload_n hx hb dX0_makespanIfShifted_52 rfl (lv_at hl 1 rfl) ?_
        refine lv_iload_n hx hb dX0_makespanIfShifted_53 rfl (lv_at hl 4 rfl) ?_
        refine w_pV (As := [.int (iI ((c0 : Int)))]) (rest := []) ⟨hx, hb, hml, hown, hts⟩ hK hP (mX0_lastEnd  hm (by omega)) (cwV 1 hts gX0_makespanIfShifted_X0_lastEnd rfl rfl rfl (by decide +kernel) ⟨Nat.le_of_ble_eq_true rfl, Nat.le_of_ble_eq_true rfl⟩) (ci := 0) rfl rfl rfl rfl hl.1 rfl (Nat.le_of_ble_eq_true rfl) dX0_makespanIfShifted_54 ⟨Nat.zero_le _, Nat.zero_le _⟩ (fun r54 hr54 => ?_)
        refine w_top (v := iI ((mkS tT mm oO fr c0 to))) (hr54.trans (congrArg iI ((lstE_rows hm.1 hI).trans (mk_cg (shf_cg hf ht (fun k hk => cpy_in hk)))))) ?_
        exact hret H locs 57 ls _ ((shf (va_cpy oO oR 0 0 c0) fr to, wbegins26, wends26)) hP hD hS (rfl) dX0_makespanIfShifted_57
      · refine lv_aload_n hx hb dX0_makespanIfShifted_32 rfl (lv_at hl 1 rfl) ?_
        refine lv_iconst (v := iI 0) hx hb dX0_makespanIfShifted_33 rfl ?_
        refine lv_iload hx hb dX0_makespanIfShifted_34 (lv_at hl 0 rfl) ?_
        refine lv_aload_n hx hb dX0_makespanIfShifted_36 rfl (lv_at hl 1 rfl) ?_
        refine va_get (D := D) (ci := 0) (C := RX0) (T := TX0) (N := 13) hx hb hts inW hown hK hP 0 rfl rfl 7 (by decide) (hts (.fieldLink RX0 32 "Flowforge" "trial" "[I") (List.mem_of_getElem? (i := 2) rfl)) (fun _ h9 => h9) rfl dX0_makespanIfShifted_37 ?_
        refine lv_iload hx hb dX0_makespanIfShifted_40 (lv_at hl 0 rfl) ?_
        refine w_iald (v := iI (((shf (va_cpy oO oR 0 0 c0) fr to) i : Nat) : Int)) hx hb hK hP 6 0 rfl rfl (i) (by omega) (by omega) (by decide) rfl dX0_makespanIfShifted_42 ?_
        refine w_iVv (As := [.int (iI 0), .int (iI ((i : Int))), .int (iI ((((((shf (va_cpy oO oR 0 0 c0) fr to) i)) : Nat) : Int)))]) (rest := []) (wf := fun u : Unit => xw ad cI cZ nn mm tT (pt wbegins26 (sjB 0 mm tT i (((shf (va_cpy oO oR 0 0 c0) fr to) i)) wbegins26 wends26) (5 * i) mm) (pt wends26 (sjE 0 mm tT i (((shf (va_cpy oO oR 0 0 c0) fr to) i)) wbegins26 wends26) (5 * i) mm) tL oO (shf (va_cpy oO oR 0 0 c0) fr to) oQ zS zM zN oJ) ⟨hx, hb, hml, hown, hts⟩ hK hP hD hS hA (mX0_scheduleJob  (v := 0) hT hm (by omega) (by omega) (hr9 i (by omega)) (rows_rg hm.2 hT (by omega) hI)) (cwV 3 hts gX0_makespanIfShifted_X0_scheduleJob rfl rfl rfl (by decide +kernel) ⟨Nat.le_of_ble_eq_true rfl, Nat.le_of_ble_eq_true rfl⟩) [0, 1, 2, 3, 4, 5, 6, 7, 8, 9, 10, 11] [] [0, 1, 2, 3, 4, 5, 6, 7, 8, 9, 10, 11] rfl rfl (by decide) (by decide) (by decide) (hwf := fun _ => rfl) (by decide) (ci := 0) rfl rfl rfl rfl hl.1 (by rw [show (((((shf (va_cpy oO oR 0 0 c0) fr to) i : Nat) : Int)) : Int) = (((((shf (va_cpy oO oR 0 0 c0) fr to) i)) : Nat) : Int) by omega]; try rfl) (Nat.le_of_ble_eq_true rfl) dX0_makespanIfShifted_43 ⟨Nat.zero_le _, Nat.zero_le _⟩ (fun u H locs hr43 hP hD hS => ?_)
        refine lv_iinc (v := iI ((i : Int) + 1)) (lv' := [(4, .int (iI ((i : Int) + 1))), (0, .ref (ad 0)), (1, .int (iI ((fr : Int)))), (2, .int (iI ((to : Int)))), (3, .int (iI ((c0 : Int))))]) hx hb dX0_makespanIfShifted_46 hl (k := 0) rfl (iI_inc (by omega)) (by decide) rfl (fun ls hl => ?_)
        refine lv_goto (tgt := 26) hx hb dX0_makespanIfShifted_49 (by decide) ?_
        exact ih26 (i + 1) (pt wbegins26 (sjB 0 mm tT i (((shf (va_cpy oO oR 0 0 c0) fr to) i)) wbegins26 wends26) (5 * i) mm) (pt wends26 (sjE 0 mm tT i (((shf (va_cpy oO oR 0 0 c0) fr to) i)) wbegins26 wends26) (5 * i) mm) ((i : Int) + 1) (by omega) (rows_s hm.2 hI) (by omega) (by omega) _ _ hP hD hS ls (lv_sub hl [0, 1, 2, 3, 4] rfl)
  exact L26 (c0 - 0 + 1) 0 tB tE (0) (by omega) (rows_0) (by omega) (Nat.lt_succ_self _) _ _ hP hD hS ls (lv_sub hl [0, 1, 2, 3, 4] rfl)
set_option maxHeartbeats 4000000 in
set_option maxRecDepth 100000 in
theorem mX0_placeForLast {la : Nat} (hT : ∀ k, 0 ≤ tT k ∧ tT k ≤ 99) (hn : nn ≤ 7) (hm : 1 ≤ mm ∧ mm ≤ 5) (hla : la < nn) (hO : ∀ k, k < nn → oO k < 7) : IM l yX0_placeForLast wsX0_placeForLast (rmx 5 119) D (tyk cI cZ cJ) (xw ad cI cZ nn mm tT tB tE tL oO oR oQ zS zM zN oJ) [.ref (ad 0), .int (iI ((la : Int)))] (QI D (tyk cI cZ cJ) (fun u : (Nat → Nat) × (Nat → Int) × (Nat → Int) => xw ad cI cZ nn mm tT u.2.1 u.2.2 tL oO u.1 oQ zS zM zN oJ) (fun x u => x = iI ((amin (mkS tT mm oO la (la + 1)) la : Nat) : Int))) := by
  refine imI_of (cc := cX0_placeForLast) (maxL := 6) (by decide) rfl (Nat.le_of_ble_eq_true rfl) ?_
  intro p e s m args below meth c A Q hx hb hml hown hts hA hK hP hD hS hret ls hl
  have hown : s.vm.findClass RX0 = some m.cls := hown
  have hl : lv_has ls 6 [(0, .ref (ad 0)), (1, .int (iI ((la : Int))))] := hl
  refine lv_iconst (v := iI 0) hx hb dX0_placeForLast_0 rfl ?_
  refine lv_istore_n (lv' := [(2, .int (iI 0)), (0, .ref (ad 0)), (1, .int (iI ((la : Int))))]) hx hb dX0_placeForLast_1 rfl hl (by decide) rfl (fun ls hl => ?_)
  refine lv_aload_n hx hb dX0_placeForLast_2 rfl (lv_at hl 1 rfl) ?_
  refine lv_iload_n hx hb dX0_placeForLast_3 rfl (lv_at hl 2 rfl) ?_
  refine lv_iconst (v := iI 0) hx hb dX0_placeForLast_4 rfl ?_
  refine lv_iload_n hx hb dX0_placeForLast_5 rfl (lv_at hl 2 rfl) ?_
  refine lv_iconst (v := iI 1) hx hb dX0_placeForLast_6 rfl ?_
  refine w_iadd (z := (la : Int) + 1) hx hb dX0_placeForLast_7 (by omega) ?_
  refine w_iV (As := [.int (iI ((la : Int))), .int (iI 0), .int (iI ((((la + 1) : Nat) : Int)))]) (rest := []) (wf := fun u : (Nat → Nat) × (Nat → Int) × (Nat → Int) => xw ad cI cZ nn mm tT u.2.1 u.2.2 tL oO u.1 oQ zS zM zN oJ) ⟨hx, hb, hml, hown, hts⟩ hK hP hD hS hA (mX0_makespanIfShifted (to := 0) hT hn hm (by omega) (by omega) (by omega) hO) (cwV 3 hts gX0_placeForLast_X0_makespanIfShifted rfl rfl rfl (by decide +kernel) ⟨Nat.le_of_ble_eq_true rfl, Nat.le_of_ble_eq_true rfl⟩) [0, 1, 2, 3, 4, 5, 6, 7, 8, 9, 10, 11] [] [0, 1, 2, 3, 4, 5, 6, 7, 8, 9, 10, 11] rfl rfl (by decide) (by decide) (by decide) (hwf := fun _ => rfl) (by decide) (ci := 0) rfl rfl rfl rfl hl.1 (by rw [show (((la : Int) + 1) : Int) = (((la + 1) : Nat) : Int) by omega]; try rfl) (Nat.le_of_ble_eq_true rfl) dX0_placeForLast_8 ⟨Nat.zero_le _, Nat.zero_le _⟩ (fun r8 u H locs hr8 hP hD hS => ?_)
  obtain ⟨uR, uB, uE⟩ := u
  have hP : va_P D vwCl (xw ad cI cZ nn mm tT uB uE tL oO uR oQ zS zM zN oJ) H := hP
  have hD : va_D A (xw ad cI cZ nn mm tT uB uE tL oO uR oQ zS zM zN oJ) := hD
  refine w_top (v := iI ((mkS tT mm oO la (la + 1) 0))) (hr8) ?_
  refine lv_istore_n (lv' := [(3, .int (iI ((mkS tT mm oO la (la + 1) 0)))), (2, .int (iI 0)), (0, .ref (ad 0)), (1, .int (iI ((la : Int))))]) hx hb dX0_placeForLast_11 rfl hl (by decide) rfl (fun ls hl => ?_)
  refine lv_iconst (v := iI 1) hx hb dX0_placeForLast_12 rfl ?_
  refine lv_istore (lv' := [(4, .int (iI 1)), (3, .int (iI ((mkS tT mm oO la (la + 1) 0)))), (2, .int (iI 0)), (0, .ref (ad 0)), (1, .int (iI ((la : Int))))]) hx hb dX0_placeForLast_13 hl (by decide) rfl (fun ls hl => ?_)
  have L15 : ∀ (fu : Nat) (i : Nat) (wtrial15 : Nat → Nat) (wbegins15 : Nat → Int) (wends15 : Nat → Int) (x4_15 : Int) (x3_15 : Int) (x2_15 : Int), (i ≤ la) → (x4_15 = (i : Int) + 1) → (x3_15 = ((mkS tT mm oO la (la + 1)) (amin (mkS tT mm oO la (la + 1)) i))) → (x2_15 = ((amin (mkS tT mm oO la (la + 1)) i : Nat) : Int)) → la - i < fu → ∀ (H : Heap) (locs : List Loc), va_P D vwCl (xw ad cI cZ nn mm tT wbegins15 wends15 tL oO wtrial15 oQ zS zM zN oJ) H → va_D A (xw ad cI cZ nn mm tT wbegins15 wends15 tL oO wtrial15 oQ zS zM zN oJ) → va_S A s.heap H locs → ∀ ls : Array Slot, lv_has ls 6 [(4, .int (iI (x4_15))), (3, .int (iI (x3_15))), (2, .int (iI (x2_15))), (0, .ref (ad 0)), (1, .int (iI ((la : Int))))] → W p l e (rmx 5 119) s m args below meth c H locs 0 0 Q (F0 m 15 ls []) := by
    intro fu
    induction fu with
    | zero =>
      intro i wtrial15 wbegins15 wends15 x4_15 x3_15 x2_15 hi hq0 hq1 hq2 hfu
      exact absurd hfu (Nat.not_lt_zero _)
    | succ fu ih =>
      intro i wtrial15 wbegins15 wends15 x4_15 x3_15 x2_15 hi hq0 hq1 hq2 hfu H locs hP hD hS ls hl
      subst hq0
      subst hq1
      subst hq2
      have ih15 := ih
      have h9 := mkS_rg (o := oO) (a := la) (c := la + 1) hm hT (by omega)
      have h8 := h9 (amin (mkS tT mm oO la (la + 1)) i)
      have h7 := h9 (i + 1)
      refine lv_iload hx hb dX0_placeForLast_15 (lv_at hl 0 rfl) ?_
      refine lv_iload_n hx hb dX0_placeForLast_17 rfl (lv_at hl 4 rfl) ?_
      refine w_icmp_gt (tgt := 51) hx hb dX0_placeForLast_18 (by decide) ⟨by omega, by omega⟩ ⟨by omega, by omega⟩ (fun c18 => ?_) (fun c18 => ?_)
      · obtain rfl : la = i := by omega
        refine lv_iload_n hx hb dX0_placeForLast_51 rfl (lv_at hl 2 rfl) ?_
        exact hret H locs 52 ls _ (()) hP hD hS (by rw [show i = mm by omega]) dX0_placeForLast_52
      · refine lv_aload_n hx hb dX0_placeForLast_21 rfl (lv_at hl 3 rfl) ?_
        refine lv_iload_n hx hb dX0_placeForLast_22 rfl (lv_at hl 4 rfl) ?_
        refine lv_iload hx hb dX0_placeForLast_23 (lv_at hl 0 rfl) ?_
        refine lv_iload_n hx hb dX0_placeForLast_25 rfl (lv_at hl 4 rfl) ?_
        refine lv_iconst (v := iI 1) hx hb dX0_placeForLast_26 rfl ?_
        refine w_iadd (z := (la : Int) + 1) hx hb dX0_placeForLast_27 (by omega) ?_
        refine w_iV (As := [.int (iI ((la : Int))), .int (iI ((((i + 1) : Nat) : Int))), .int (iI ((((la + 1) : Nat) : Int)))]) (rest := []) (wf := fun u : (Nat → Nat) × (Nat → Int) × (Nat → Int) => xw ad cI cZ nn mm tT u.2.1 u.2.2 tL oO u.1 oQ zS zM zN oJ) ⟨hx, hb, hml, hown, hts⟩ hK hP hD hS hA (mX0_makespanIfShifted (to := i + 1) hT hn hm (by omega) (by omega) (by omega) hO) (cwV 3 hts gX0_placeForLast_X0_makespanIfShifted rfl rfl rfl (by decide +kernel) ⟨Nat.le_of_ble_eq_true rfl, Nat.le_of_ble_eq_true rfl⟩) [0, 1, 2, 3, 4, 5, 6, 7, 8, 9, 10, 11] [] [0, 1, 2, 3, 4, 5, 6, 7, 8, 9, 10, 11] rfl rfl (by decide) (by decide) (by decide) (hwf := fun _ => rfl) (by decide) (ci := 0) rfl rfl rfl rfl hl.1 (by rw [show (((i : Int) + 1) : Int) = (((i + 1) : Nat) : Int) by omega]; rw [show (((la : Int) + 1) : Int) = (((la + 1) : Nat) : Int) by omega]; try rfl) (Nat.le_of_ble_eq_true rfl) dX0_placeForLast_28 ⟨Nat.zero_le _, Nat.zero_le _⟩ (fun r28 u H locs hr28 hP hD hS => ?_)
        obtain ⟨uR, uB, uE⟩ := u
        have hP : va_P D vwCl (xw ad cI cZ nn mm tT uB uE tL oO uR oQ zS zM zN oJ) H := hP
        have hD : va_D A (xw ad cI cZ nn mm tT uB uE tL oO uR oQ zS zM zN oJ) := hD
        refine w_top (v := iI ((mkS tT mm oO la (la + 1) (i + 1)))) (hr28) ?_
        refine lv_istore (lv' := [(5, .int (iI ((mkS tT mm oO la (la + 1) (i + 1))))), (4, .int (iI ((i : Int) + 1))), (3, .int (iI (((mkS tT mm oO la (la + 1)) (amin (mkS tT mm oO la (la + 1)) i))))), (2, .int (iI (((amin (mkS tT mm oO la (la + 1)) i : Nat) : Int)))), (0, .ref (ad 0)), (1, .int (iI ((la : Int))))]) hx hb dX0_placeForLast_31 hl (by decide) rfl (fun ls hl => ?_)
        refine lv_iload hx hb dX0_placeForLast_33 (lv_at hl 0 rfl) ?_
        refine lv_iload_n hx hb dX0_placeForLast_35 rfl (lv_at hl 2 rfl) ?_
        refine w_icmp_ge (tgt := 45) hx hb dX0_placeForLast_36 (by decide) ⟨by omega, by omega⟩ ⟨by omega, by omega⟩ (fun c36 => ?_) (fun c36 => ?_)
        · have e7 : amin (mkS tT mm oO la (la + 1)) (i + 1) = amin (mkS tT mm oO la (la + 1)) i := if_neg (by omega)
          refine lv_iinc (v := iI ((i : Int) + 2)) (lv' := [(4, .int (iI ((i : Int) + 2))), (5, .int (iI ((mkS tT mm oO la (la + 1) (i + 1))))), (3, .int (iI (((mkS tT mm oO la (la + 1)) (amin (mkS tT mm oO la (la + 1)) i))))), (2, .int (iI (((amin (mkS tT mm oO la (la + 1)) i : Nat) : Int)))), (0, .ref (ad 0)), (1, .int (iI ((la : Int))))]) hx hb dX0_placeForLast_45 hl (k := 1) rfl (iI_inc (by omega)) (by decide) rfl (fun ls hl => ?_)
          refine lv_goto (tgt := 15) hx hb dX0_placeForLast_48 (by decide) ?_
          exact ih15 (i + 1) uR uB uE ((i : Int) + 2) (((mkS tT mm oO la (la + 1)) (amin (mkS tT mm oO la (la + 1)) i))) (((amin (mkS tT mm oO la (la + 1)) i : Nat) : Int)) (by omega) (by omega) (by rw [e7]) (by rw [e7]; try omega) (by omega) _ _ hP hD hS ls (lv_sub hl [0, 2, 3, 4, 5] rfl)
        · have e7 : amin (mkS tT mm oO la (la + 1)) (i + 1) = i + 1 := if_pos (by omega)
          refine lv_iload hx hb dX0_placeForLast_39 (lv_at hl 0 rfl) ?_
          refine lv_istore_n (lv' := [(3, .int (iI ((mkS tT mm oO la (la + 1) (i + 1))))), (5, .int (iI ((mkS tT mm oO la (la + 1) (i + 1))))), (4, .int (iI ((i : Int) + 1))), (2, .int (iI (((amin (mkS tT mm oO la (la + 1)) i : Nat) : Int)))), (0, .ref (ad 0)), (1, .int (iI ((la : Int))))]) hx hb dX0_placeForLast_41 rfl hl (by decide) rfl (fun ls hl => ?_)
          refine lv_iload hx hb dX0_placeForLast_42 (lv_at hl 2 rfl) ?_
          refine lv_istore_n (lv' := [(2, .int (iI ((i : Int) + 1))), (3, .int (iI ((mkS tT mm oO la (la + 1) (i + 1))))), (5, .int (iI ((mkS tT mm oO la (la + 1) (i + 1))))), (4, .int (iI ((i : Int) + 1))), (0, .ref (ad 0)), (1, .int (iI ((la : Int))))]) hx hb dX0_placeForLast_44 rfl hl (by decide) rfl (fun ls hl => ?_)
          refine lv_iinc (v := iI ((i : Int) + 2)) (lv' := [(4, .int (iI ((i : Int) + 2))), (2, .int (iI ((i : Int) + 1))), (3, .int (iI ((mkS tT mm oO la (la + 1) (i + 1))))), (5, .int (iI ((mkS tT mm oO la (la + 1) (i + 1))))), (0, .ref (ad 0)), (1, .int (iI ((la : Int))))]) hx hb dX0_placeForLast_45 hl (k := 3) rfl (iI_inc (by omega)) (by decide) rfl (fun ls hl => ?_)
          refine lv_goto (tgt := 15) hx hb dX0_placeForLast_48 (by decide) ?_
          exact ih15 (i + 1) uR uB uE ((i : Int) + 2) ((mkS tT mm oO la (la + 1) (i + 1))) ((i : Int) + 1) (by omega) (by omega) (by rw [e7]) (by rw [e7]; try omega) (by omega) _ _ hP hD hS ls (lv_sub hl [0, 2, 1, 4, 5] rfl)
  exact L15 (la - 0 + 1) 0 uR uB uE (1) ((mkS tT mm oO la (la + 1) 0)) (0) (by omega) (by omega) (rfl) (rfl) (Nat.lt_succ_self _) _ _ hP hD hS ls (lv_sub hl [0, 1, 2, 3, 4] rfl)
set_option maxHeartbeats 4000000 in
set_option maxRecDepth 100000 in
theorem mX0_scheduleJob {v q j : Nat} (hT : ∀ k, 0 ≤ tT k ∧ tT k ≤ 99) (hm : 1 ≤ mm ∧ mm ≤ 5) (hv : v ≤ 2) (hp : q < 7) (hj : j < 7) (hB : ∀ k, k < mm → (0 ≤ prv tB q k ∧ prv tB q k ≤ 1000000) ∧ 0 ≤ prv tE q k ∧ prv tE q k ≤ 1000000) : IM l yX0_scheduleJob wsX0_scheduleJob (rmx 3 69) D (tyk cI cZ cJ) (xw ad cI cZ nn mm tT tB tE tL oO oR oQ zS zM zN oJ) [.ref (ad 0), .int (iI ((v : Int))), .int (iI ((q : Int))), .int (iI ((j : Int)))] (QV D (tyk cI cZ cJ) (fun u : Unit => xw ad cI cZ nn mm tT (pt tB (sjB v mm tT q j tB tE) (5 * q) mm) (pt tE (sjE v mm tT q j tB tE) (5 * q) mm) tL oO oR oQ zS zM zN oJ) (fun _ => True)) := by
  refine imV_of (cc := cX0_scheduleJob) (maxL := 7) (by decide) rfl (Nat.le_of_ble_eq_true rfl) ?_
  intro p e s m args below meth c A Q hx hb hml hown hts hA hK hP hD hS hret ls hl
  have hown : s.vm.findClass RX0 = some m.cls := hown
  have hl : lv_has ls 7 [(0, .ref (ad 0)), (1, .int (iI ((v : Int)))), (2, .int (iI ((q : Int)))), (3, .int (iI ((j : Int))))] := hl
  have inW : ∀ w ∈ wsX00, w ∈ wsX0_scheduleJob := by first | exact (fun w h => List.mem_cons_of_mem _ (List.mem_append_right _ h)) | exact (fun w h => List.mem_cons_of_mem _ (List.mem_append_left _ (List.mem_append_right _ h))) | exact (fun w h => List.mem_cons_of_mem _ (List.mem_append_left _ (List.mem_append_left _ (List.mem_append_right _ h)))) | decide +kernel
  refine lv_iload_n hx hb dX0_scheduleJob_0 rfl (lv_at hl 1 rfl) ?_
  refine lv_iconst (v := iI 2) hx hb dX0_scheduleJob_1 rfl ?_
  have J15 : ∀ (H : Heap) (locs : List Loc), va_P D vwCl (xw ad cI cZ nn mm tT tB tE tL oO oR oQ zS zM zN oJ) H → va_D A (xw ad cI cZ nn mm tT tB tE tL oO oR oQ zS zM zN oJ) → va_S A s.heap H locs → ∀ ls : Array Slot, lv_has ls 7 [(0, .ref (ad 0)), (1, .int (iI ((v : Int)))), (2, .int (iI ((q : Int)))), (3, .int (iI ((j : Int))))] → W p l e (rmx 3 69) s m args below meth c H locs 0 0 Q (F0 m 15 ls [.int (iI ((m0v v mm (tj tT j) (prv tE q))))]) := by
    intro H locs hP hD hS ls hl
    refine lv_istore (lv' := [(4, .int (iI ((m0v v mm (tj tT j) (prv tE q))))), (0, .ref (ad 0)), (1, .int (iI ((v : Int)))), (2, .int (iI ((q : Int)))), (3, .int (iI ((j : Int))))]) hx hb dX0_scheduleJob_15 hl (by decide) rfl (fun ls hl => ?_)
    refine lv_iconst (v := iI 0) hx hb dX0_scheduleJob_17 rfl ?_
    refine lv_istore (lv' := [(5, .int (iI 0)), (4, .int (iI ((m0v v mm (tj tT j) (prv tE q))))), (0, .ref (ad 0)), (1, .int (iI ((v : Int)))), (2, .int (iI ((q : Int)))), (3, .int (iI ((j : Int))))]) hx hb dX0_scheduleJob_18 hl (by decide) rfl (fun ls hl => ?_)
    have L20 : ∀ (fu : Nat) (i : Nat) (wbegins20 : Nat → Int) (wends20 : Nat → Int) (x5_20 : Int) (x4_20 : Int), (i ≤ mm) → (wbegins20 = pt tB (sjB v mm tT q j tB tE) (5 * q) i) → (wends20 = pt tE (sjE v mm tT q j tB tE) (5 * q) i) → (x5_20 = (i : Int)) → (x4_20 = (mom v mm (tj tT j) (prv tB q) (prv tE q) (m0v v mm (tj tT j) (prv tE q)) i)) → mm - i < fu → ∀ (H : Heap) (locs : List Loc), va_P D vwCl (xw ad cI cZ nn mm tT wbegins20 wends20 tL oO oR oQ zS zM zN oJ) H → va_D A (xw ad cI cZ nn mm tT wbegins20 wends20 tL oO oR oQ zS zM zN oJ) → va_S A s.heap H locs → ∀ ls : Array Slot, lv_has ls 7 [(5, .int (iI (x5_20))), (4, .int (iI (x4_20))), (0, .ref (ad 0)), (1, .int (iI ((v : Int)))), (2, .int (iI ((q : Int)))), (3, .int (iI ((j : Int))))] → W p l e (rmx 3 69) s m args below meth c H locs 0 0 Q (F0 m 20 ls []) := by
      intro fu
      induction fu with
      | zero =>
        intro i wbegins20 wends20 x5_20 x4_20 hi hq0 hq1 hq2 hq3 hfu
        exact absurd hfu (Nat.not_lt_zero _)
      | succ fu ih =>
        intro i wbegins20 wends20 x5_20 x4_20 hi hq0 hq1 hq2 hq3 hfu H locs hP hD hS ls hl
        subst hq0
        subst hq1
        subst hq2
        subst hq3
        have ih20 := ih
        have h9 := mom_rg (v := v) (fun k => hT (5 * j + k)) hB (m0v_rg (v := v) (mm := mm) (t := tj tT j) (e := prv tE q) (K := 1000000) (by omega) (fun k => hT (5 * j + k)) (fun k hk => (hB k hk).2.2)) i hi
        refine lv_iload hx hb dX0_scheduleJob_20 (lv_at hl 0 rfl) ?_
        refine lv_aload_n hx hb dX0_scheduleJob_22 rfl (lv_at hl 2 rfl) ?_
        refine va_get (D := D) (ci := 0) (C := RX0) (T := TX0) (N := 13) hx hb hts inW hown hK hP 0 rfl rfl 1 (by decide) (hts (.fieldLink RX0 13 "Flowforge" "machineCount" "I") (List.mem_of_getElem? (i := 1) rfl)) (fun _ h9 => h9) rfl dX0_scheduleJob_23 ?_
        refine w_icmp_ge (tgt := 88) hx hb dX0_scheduleJob_26 (by decide) ⟨by omega, by omega⟩ ⟨by omega, by omega⟩ (fun c26 => ?_) (fun c26 => ?_)
        · obtain rfl : mm = i := by omega
          exact hret H locs 88 ls (()) hP hD hS (trivial) dX0_scheduleJob_88
        · have h8 := frm_rg (v := v) hB (show i < mm by omega)
          refine lv_iload hx hb dX0_scheduleJob_29 (lv_at hl 1 rfl) ?_
          refine lv_aload_n hx hb dX0_scheduleJob_31 rfl (lv_at hl 2 rfl) ?_
          refine lv_iload_n hx hb dX0_scheduleJob_32 rfl (lv_at hl 3 rfl) ?_
          refine lv_iload_n hx hb dX0_scheduleJob_33 rfl (lv_at hl 4 rfl) ?_
          refine lv_iload hx hb dX0_scheduleJob_34 (lv_at hl 0 rfl) ?_
          refine w_pV (As := [.int (iI ((v : Int))), .int (iI ((q : Int))), .int (iI ((i : Int)))]) (rest := [.int (iI ((mom v mm (tj tT j) (prv tB q) (prv tE q) (m0v v mm (tj tT j) (prv tE q)) i)))]) ⟨hx, hb, hml, hown, hts⟩ hK hP (mX0_freeFrom  hm hv hp (by omega)) (cwV 3 hts gX0_scheduleJob_X0_freeFrom rfl rfl rfl (by decide +kernel) ⟨Nat.le_of_ble_eq_true rfl, Nat.le_of_ble_eq_true rfl⟩) (ci := 0) rfl rfl rfl rfl hl.1 rfl (Nat.le_of_ble_eq_true rfl) dX0_scheduleJob_36 ⟨Nat.zero_le _, Nat.zero_le _⟩ (fun r36 hr36 => ?_)
          refine w_top (v := iI ((frm v mm (prv tB q) (prv tE q) i))) (hr36.trans (congrArg iI (frm_pt hm.2 (by omega)))) ?_
          refine va_mmax hx hb (hml.trans hl.1.symm) hown (hts (.methodLink RX0 167 Lib.Math.max.name) (List.mem_of_getElem? (i := 2) rfl)) (hts (.static Lib.Math.max.name) (List.mem_of_getElem? (i := 3) rfl)) (hts (.initialized "java/lang/Math") (List.mem_of_getElem? (i := 4) rfl)) (hts (.code Lib.Math.max.name Lib.Math.max.code 2 (some .int)) (List.mem_of_getElem? (i := 5) rfl)) (Nat.le_of_ble_eq_true rfl) (Nat.le_of_ble_eq_true rfl) (Nat.zero_le _) (Nat.zero_le _) dX0_scheduleJob_39 ?_
          refine w_top (v := iI ((sjB v mm tT q j tB tE i))) (iI_max ⟨by omega, by omega⟩ ⟨by omega, by omega⟩) ?_
          refine lv_istore (lv' := [(6, .int (iI ((sjB v mm tT q j tB tE i)))), (5, .int (iI ((i : Int)))), (4, .int (iI ((mom v mm (tj tT j) (prv tB q) (prv tE q) (m0v v mm (tj tT j) (prv tE q)) i)))), (0, .ref (ad 0)), (1, .int (iI ((v : Int)))), (2, .int (iI ((q : Int)))), (3, .int (iI ((j : Int))))]) hx hb dX0_scheduleJob_42 hl (by decide) rfl (fun ls hl => ?_)
          refine lv_aload_n hx hb dX0_scheduleJob_44 rfl (lv_at hl 3 rfl) ?_
          refine va_get (D := D) (ci := 0) (C := RX0) (T := TX0) (N := 13) hx hb hts inW hown hK hP 0 rfl rfl 3 (by decide) (hts (.fieldLink RX0 20 "Flowforge" "begins" "[I") (List.mem_of_getElem? (i := 6) rfl)) (fun _ h9 => h9) rfl dX0_scheduleJob_45 ?_
          refine lv_iload_n hx hb dX0_scheduleJob_48 rfl (lv_at hl 5 rfl) ?_
          refine lv_iload hx hb dX0_scheduleJob_49 (lv_at hl 1 rfl) ?_
          refine w_pS (As := [.int (iI ((q : Int))), .int (iI ((i : Int)))]) (rest := [.ref (ad 2)]) ⟨hx, hb, hml, hown, hts⟩ hK hP (mX0_cell  ) (va_cwS 2 hts gX0_scheduleJob_X0_cell rfl rfl rfl (by decide +kernel) ⟨Nat.le_of_ble_eq_true rfl, Nat.le_of_ble_eq_true rfl⟩) rfl hl.1 rfl (Nat.le_of_ble_eq_true rfl) dX0_scheduleJob_51 ⟨Nat.zero_le _, Nat.zero_le _⟩ (fun r51 hr51 => ?_)
          refine w_top (v := iI (5 * (q : Int) + (i : Int))) (hr51.trans (congrArg iI (by omega))) ?_
          refine lv_iload hx hb dX0_scheduleJob_54 (lv_at hl 0 rfl) ?_
          refine w_iast (g := tI (pt tB (sjB v mm tT q j tB tE) (5 * q) (i + 1))) (ws' := xw ad cI cZ nn mm tT (pt tB (sjB v mm tT q j tB tE) (5 * q) (i + 1)) (pt tE (sjE v mm tT q j tB tE) (5 * q) i) tL oO oR oQ zS zM zN oJ) hx hb hK hP hD hS 2 0 rfl rfl (5 * q + i) (by omega) (by omega) (by decide) (hg := (tI_up.trans (congrArg tI pt_s))) (hw := rfl) (hd := dX0_scheduleJob_56) (kk := fun H locs hP hD hS => ?_)
          refine lv_iload hx hb dX0_scheduleJob_57 (lv_at hl 0 rfl) ?_
          refine lv_aload_n hx hb dX0_scheduleJob_59 rfl (lv_at hl 3 rfl) ?_
          refine lv_iload_n hx hb dX0_scheduleJob_60 rfl (lv_at hl 6 rfl) ?_
          refine lv_iload hx hb dX0_scheduleJob_61 (lv_at hl 1 rfl) ?_
          refine w_pV (As := [.int (iI ((j : Int))), .int (iI ((i : Int)))]) (rest := [.int (iI ((sjB v mm tT q j tB tE i)))]) ⟨hx, hb, hml, hown, hts⟩ hK hP (mX0_timeOf  hj (by omega)) (cwV 2 hts gX0_scheduleJob_X0_timeOf rfl rfl rfl (by decide +kernel) ⟨Nat.le_of_ble_eq_true rfl, Nat.le_of_ble_eq_true rfl⟩) (ci := 0) rfl rfl rfl rfl hl.1 rfl (Nat.le_of_ble_eq_true rfl) dX0_scheduleJob_63 ⟨Nat.zero_le _, Nat.zero_le _⟩ (fun r63 hr63 => ?_)
          refine w_top (v := iI ((tT (5 * j + i)))) (hr63) ?_
          refine w_iadd (z := (sjE v mm tT q j tB tE i)) hx hb dX0_scheduleJob_66 (rfl) ?_
          refine lv_istore (lv' := [(4, .int (iI ((sjE v mm tT q j tB tE i)))), (6, .int (iI ((sjB v mm tT q j tB tE i)))), (5, .int (iI ((i : Int)))), (0, .ref (ad 0)), (1, .int (iI ((v : Int)))), (2, .int (iI ((q : Int)))), (3, .int (iI ((j : Int))))]) hx hb dX0_scheduleJob_67 hl (by decide) rfl (fun ls hl => ?_)
          refine lv_aload_n hx hb dX0_scheduleJob_69 rfl (lv_at hl 3 rfl) ?_
          refine va_get (D := D) (ci := 0) (C := RX0) (T := TX0) (N := 13) hx hb hts inW hown hK hP 0 rfl rfl 4 (by decide) (hts (.fieldLink RX0 23 "Flowforge" "ends" "[I") (List.mem_of_getElem? (i := 7) rfl)) (fun _ h9 => h9) rfl dX0_scheduleJob_70 ?_
          refine lv_iload_n hx hb dX0_scheduleJob_73 rfl (lv_at hl 5 rfl) ?_
          refine lv_iload hx hb dX0_scheduleJob_74 (lv_at hl 2 rfl) ?_
          refine w_pS (As := [.int (iI ((q : Int))), .int (iI ((i : Int)))]) (rest := [.ref (ad 3)]) ⟨hx, hb, hml, hown, hts⟩ hK hP (mX0_cell  ) (va_cwS 2 hts gX0_scheduleJob_X0_cell rfl rfl rfl (by decide +kernel) ⟨Nat.le_of_ble_eq_true rfl, Nat.le_of_ble_eq_true rfl⟩) rfl hl.1 rfl (Nat.le_of_ble_eq_true rfl) dX0_scheduleJob_76 ⟨Nat.zero_le _, Nat.zero_le _⟩ (fun r76 hr76 => ?_)
          refine w_top (v := iI (5 * (q : Int) + (i : Int))) (hr76.trans (congrArg iI (by omega))) ?_
          refine lv_iload hx hb dX0_scheduleJob_79 (lv_at hl 0 rfl) ?_
          refine w_iast (g := tI (pt tE (sjE v mm tT q j tB tE) (5 * q) (i + 1))) (ws' := xw ad cI cZ nn mm tT (pt tB (sjB v mm tT q j tB tE) (5 * q) (i + 1)) (pt tE (sjE v mm tT q j tB tE) (5 * q) (i + 1)) tL oO oR oQ zS zM zN oJ) hx hb hK hP hD hS 3 0 rfl rfl (5 * q + i) (by omega) (by omega) (by decide) (hg := (tI_up.trans (congrArg tI pt_s))) (hw := rfl) (hd := dX0_scheduleJob_81) (kk := fun H locs hP hD hS => ?_)
          refine lv_iinc (v := iI ((i : Int) + 1)) (lv' := [(5, .int (iI ((i : Int) + 1))), (4, .int (iI ((sjE v mm tT q j tB tE i)))), (6, .int (iI ((sjB v mm tT q j tB tE i)))), (0, .ref (ad 0)), (1, .int (iI ((v : Int)))), (2, .int (iI ((q : Int)))), (3, .int (iI ((j : Int))))]) hx hb dX0_scheduleJob_82 hl (k := 2) rfl (iI_inc (by omega)) (by decide) rfl (fun ls hl => ?_)
          refine lv_goto (tgt := 20) hx hb dX0_scheduleJob_85 (by decide) ?_
          exact ih20 (i + 1) (pt tB (sjB v mm tT q j tB tE) (5 * q) (i + 1)) (pt tE (sjE v mm tT q j tB tE) (5 * q) (i + 1)) ((i : Int) + 1) ((sjE v mm tT q j tB tE i)) (by omega) (rfl) (rfl) (by omega) (rfl) (by omega) _ _ hP hD hS ls (lv_sub hl [0, 1, 3, 4, 5, 6] rfl)
    exact L20 (mm - 0 + 1) 0 tB tE (0) ((m0v v mm (tj tT j) (prv tE q))) (by omega) ((pt_0 _ _ _).symm) ((pt_0 _ _ _).symm) (by omega) (rfl) (Nat.lt_succ_self _) _ _ hP hD hS ls (lv_sub hl [0, 1, 2, 3, 4, 5] rfl)
  refine w_icmp_ne (tgt := 14) hx hb dX0_scheduleJob_2 (by decide) ⟨by omega, by omega⟩ ⟨by omega, by omega⟩ (fun c2 => ?_) (fun c2 => ?_)
  · refine lv_iconst (v := iI 0) hx hb dX0_scheduleJob_14 rfl ?_
    refine w_top (v := iI ((m0v v mm (tj tT j) (prv tE q)))) (by unfold m0v; rw [if_neg (by omega)]) ?_
    exact J15  _ _ hP hD hS ls (lv_sub hl [0, 1, 2, 3] rfl)
  · refine lv_aload_n hx hb dX0_scheduleJob_5 rfl (lv_at hl 0 rfl) ?_
    refine lv_iload_n hx hb dX0_scheduleJob_6 rfl (lv_at hl 2 rfl) ?_
    refine lv_iload_n hx hb dX0_scheduleJob_7 rfl (lv_at hl 3 rfl) ?_
    refine w_pV (As := [.int (iI ((q : Int))), .int (iI ((j : Int)))]) (rest := []) ⟨hx, hb, hml, hown, hts⟩ hK hP (mX0_beginWithoutWaiting  hT hm hp hj hB) (cwV 2 hts gX0_scheduleJob_X0_beginWithoutWaiting rfl rfl rfl (by decide +kernel) ⟨Nat.le_of_ble_eq_true rfl, Nat.le_of_ble_eq_true rfl⟩) (ci := 0) rfl rfl rfl rfl hl.1 rfl (Nat.le_of_ble_eq_true rfl) dX0_scheduleJob_8 ⟨Nat.zero_le _, Nat.zero_le _⟩ (fun r8 hr8 => ?_)
    refine w_top (v := iI ((stC (tj tT j) (prv tE q) mm))) (hr8) ?_
    refine lv_goto (tgt := 15) hx hb dX0_scheduleJob_11 (by decide) ?_
    refine w_top (v := iI ((m0v v mm (tj tT j) (prv tE q)))) (by unfold m0v; rw [if_pos (by omega)]) ?_
    exact J15  _ _ hP hD hS ls (lv_sub hl [0, 1, 2, 3] rfl)
set_option maxHeartbeats 4000000 in
set_option maxRecDepth 100000 in
theorem mX0_lastEnd {c0 : Nat} (hm : 1 ≤ mm ∧ mm ≤ 5) (hc : c0 ≤ 7) : PM l yX0_lastEnd wsX0_lastEnd (rmx 1 21) D (tyk cI cZ cJ) (xw ad cI cZ nn mm tT tB tE tL oO oR oQ zS zM zN oJ) [.ref (ad 0), .int (iI ((c0 : Int)))] (vp_Si (fun x => x = iI (lstE mm c0 tE))) := by
  refine pmI_of (cc := cX0_lastEnd) (maxL := 2) (by decide) rfl (Nat.le_of_ble_eq_true rfl) ?_
  intro p e s m args below meth c Q hx hb hml hown hts hK hP hret ls hl
  have hown : s.vm.findClass RX0 = some m.cls := hown
  have hl : lv_has ls 2 [(0, .ref (ad 0)), (1, .int (iI ((c0 : Int))))] := hl
  have inW : ∀ w ∈ wsX00, w ∈ wsX0_lastEnd := by first | exact (fun w h => List.mem_cons_of_mem _ (List.mem_append_right _ h)) | exact (fun w h => List.mem_cons_of_mem _ (List.mem_append_left _ (List.mem_append_right _ h))) | exact (fun w h => List.mem_cons_of_mem _ (List.mem_append_left _ (List.mem_append_left _ (List.mem_append_right _ h)))) | decide +kernel
  refine lv_iload_n hx hb dX0_lastEnd_0 rfl (lv_at hl 1 rfl) ?_
  refine lv_iconst (v := iI 1) hx hb dX0_lastEnd_1 rfl ?_
  refine w_icmp_ge (tgt := 7) hx hb dX0_lastEnd_2 (by decide) ⟨by omega, by omega⟩ ⟨by omega, by omega⟩ (fun c2 => ?_) (fun c2 => ?_)
  · refine lv_aload_n hx hb dX0_lastEnd_7 rfl (lv_at hl 0 rfl) ?_
    refine va_get (D := D) (ci := 0) (C := RX0) (T := TX0) (N := 13) hx hb hts inW hown hK hP 0 rfl rfl 4 (by decide) (hts (.fieldLink RX0 23 "Flowforge" "ends" "[I") (List.mem_of_getElem? (i := 1) rfl)) (fun _ h9 => h9) rfl dX0_lastEnd_8 ?_
    refine lv_iload_n hx hb dX0_lastEnd_11 rfl (lv_at hl 1 rfl) ?_
    refine lv_iconst (v := iI 1) hx hb dX0_lastEnd_12 rfl ?_
    refine w_isub (z := (c0 : Int) - 1) hx hb dX0_lastEnd_13 (by omega) ?_
    refine lv_aload_n hx hb dX0_lastEnd_14 rfl (lv_at hl 0 rfl) ?_
    refine va_get (D := D) (ci := 0) (C := RX0) (T := TX0) (N := 13) hx hb hts inW hown hK hP 0 rfl rfl 1 (by decide) (hts (.fieldLink RX0 13 "Flowforge" "machineCount" "I") (List.mem_of_getElem? (i := 2) rfl)) (fun _ h9 => h9) rfl dX0_lastEnd_15 ?_
    refine lv_iconst (v := iI 1) hx hb dX0_lastEnd_18 rfl ?_
    refine w_isub (z := (mm : Int) - 1) hx hb dX0_lastEnd_19 (by omega) ?_
    refine w_pS (As := [.int (iI ((c0 : Int) - 1)), .int (iI ((mm : Int) - 1))]) (rest := [.ref (ad 3)]) ⟨hx, hb, hml, hown, hts⟩ hK hP (mX0_cell  ) (va_cwS 2 hts gX0_lastEnd_X0_cell rfl rfl rfl (by decide +kernel) ⟨Nat.le_of_ble_eq_true rfl, Nat.le_of_ble_eq_true rfl⟩) rfl hl.1 rfl (Nat.le_of_ble_eq_true rfl) dX0_lastEnd_20 ⟨Nat.zero_le _, Nat.zero_le _⟩ (fun r20 hr20 => ?_)
    refine w_top (v := iI (5 * (c0 : Int) + (mm : Int) - 6)) (hr20.trans (congrArg iI (by omega))) ?_
    refine w_iald (v := iI (tE (5 * (c0 - 1) + (mm - 1)))) hx hb hK hP 3 0 rfl rfl (5 * (c0 - 1) + (mm - 1)) (by omega) (by omega) (by decide) rfl dX0_lastEnd_23 ?_
    exact hret 24 ls _ (by unfold lstE; rw [if_neg (by omega)]) dX0_lastEnd_24
  · refine lv_iconst (v := iI 0) hx hb dX0_lastEnd_5 rfl ?_
    exact hret 6 ls _ (by unfold lstE; rw [if_pos (by omega)]) dX0_lastEnd_6
set_option maxHeartbeats 4000000 in
set_option maxRecDepth 100000 in
theorem mX0_scheduleOrder {v : Nat} (hT : ∀ k, 0 ≤ tT k ∧ tT k ≤ 99) (hn : nn ≤ 7) (hm : 1 ≤ mm ∧ mm ≤ 5) (hv : v ≤ 2) (hO : ∀ k, k < nn → oO k < 7) : IM l yX0_scheduleOrder wsX0_scheduleOrder (rmx 4 95) D (tyk cI cZ cJ) (xw ad cI cZ nn mm tT tB tE tL oO oR oQ zS zM zN oJ) [.ref (ad 0), .int (iI ((v : Int)))] (QI D (tyk cI cZ cJ) (fun u : (Nat → Int) × (Nat → Int) => xw ad cI cZ nn mm tT u.1 u.2 tL oO oR oQ zS zM zN oJ) (fun x u => x = iI (mk v mm tT oO nn) ∧ rows v mm tT oO u.1 u.2 nn)) := by
  refine imI_of (cc := cX0_scheduleOrder) (maxL := 3) (by decide) rfl (Nat.le_of_ble_eq_true rfl) ?_
  intro p e s m args below meth c A Q hx hb hml hown hts hA hK hP hD hS hret ls hl
  have hown : s.vm.findClass RX0 = some m.cls := hown
  have hl : lv_has ls 3 [(0, .ref (ad 0)), (1, .int (iI ((v : Int))))] := hl
  have inW : ∀ w ∈ wsX00, w ∈ wsX0_scheduleOrder := by first | exact (fun w h => List.mem_cons_of_mem _ (List.mem_append_right _ h)) | exact (fun w h => List.mem_cons_of_mem _ (List.mem_append_left _ (List.mem_append_right _ h))) | exact (fun w h => List.mem_cons_of_mem _ (List.mem_append_left _ (List.mem_append_left _ (List.mem_append_right _ h)))) | decide +kernel
  refine lv_iconst (v := iI 0) hx hb dX0_scheduleOrder_0 rfl ?_
  refine lv_istore_n (lv' := [(2, .int (iI 0)), (0, .ref (ad 0)), (1, .int (iI ((v : Int))))]) hx hb dX0_scheduleOrder_1 rfl hl (by decide) rfl (fun ls hl => ?_)
  have L2 : ∀ (fu : Nat) (i : Nat) (wbegins2 : Nat → Int) (wends2 : Nat → Int) (x2_2 : Int), (i ≤ nn) → (rows v mm tT oO wbegins2 wends2 i) → (x2_2 = (i : Int)) → nn - i < fu → ∀ (H : Heap) (locs : List Loc), va_P D vwCl (xw ad cI cZ nn mm tT wbegins2 wends2 tL oO oR oQ zS zM zN oJ) H → va_D A (xw ad cI cZ nn mm tT wbegins2 wends2 tL oO oR oQ zS zM zN oJ) → va_S A s.heap H locs → ∀ ls : Array Slot, lv_has ls 3 [(2, .int (iI (x2_2))), (0, .ref (ad 0)), (1, .int (iI ((v : Int))))] → W p l e (rmx 4 95) s m args below meth c H locs 0 0 Q (F0 m 2 ls []) := by
    intro fu
    induction fu with
    | zero =>
      intro i wbegins2 wends2 x2_2 hi hI hq0 hfu
      exact absurd hfu (Nat.not_lt_zero _)
    | succ fu ih =>
      intro i wbegins2 wends2 x2_2 hi hI hq0 hfu H locs hP hD hS ls hl
      subst hq0
      have ih2 := ih
      refine lv_iload_n hx hb dX0_scheduleOrder_2 rfl (lv_at hl 0 rfl) ?_
      refine lv_aload_n hx hb dX0_scheduleOrder_3 rfl (lv_at hl 1 rfl) ?_
      refine va_get (D := D) (ci := 0) (C := RX0) (T := TX0) (N := 13) hx hb hts inW hown hK hP 0 rfl rfl 0 (by decide) (hts (.fieldLink RX0 7 "Flowforge" "jobCount" "I") (List.mem_of_getElem? (i := 1) rfl)) (fun _ h9 => h9) rfl dX0_scheduleOrder_4 ?_
      refine w_icmp_ge (tgt := 28) hx hb dX0_scheduleOrder_7 (by decide) ⟨by omega, by omega⟩ ⟨by omega, by omega⟩ (fun c7 => ?_) (fun c7 => ?_)
      · obtain rfl : nn = i := by omega
        refine lv_aload_n hx hb dX0_scheduleOrder_28 rfl (lv_at hl 1 rfl) ?_
        refine lv_aload_n hx hb dX0_scheduleOrder_29 rfl (lv_at hl 1 rfl) ?_
        refine va_get (D := D) (ci := 0) (C := RX0) (T := TX0) (N := 13) hx hb hts inW hown hK hP 0 rfl rfl 0 (by decide) (hts (.fieldLink RX0 7 "Flowforge" "jobCount" "I") (List.mem_of_getElem? (i := 1) rfl)) (fun _ h9 => h9) rfl dX0_scheduleOrder_30 ?_
        refine w_pV (As := [.int (iI ((nn : Int)))]) (rest := []) ⟨hx, hb, hml, hown, hts⟩ hK hP (mX0_lastEnd  hm hn) (cwV 1 hts gX0_scheduleOrder_X0_lastEnd rfl rfl rfl (by decide +kernel) ⟨Nat.le_of_ble_eq_true rfl, Nat.le_of_ble_eq_true rfl⟩) (ci := 0) rfl rfl rfl rfl hl.1 rfl (Nat.le_of_ble_eq_true rfl) dX0_scheduleOrder_33 ⟨Nat.zero_le _, Nat.zero_le _⟩ (fun r33 hr33 => ?_)
        refine w_top (v := iI ((mk v mm tT oO nn))) (hr33.trans (congrArg iI (lstE_rows hm.1 hI))) ?_
        exact hret H locs 36 ls _ ((wbegins2, wends2)) hP hD hS (⟨rfl, hI⟩) dX0_scheduleOrder_36
      · refine lv_aload_n hx hb dX0_scheduleOrder_10 rfl (lv_at hl 1 rfl) ?_
        refine lv_iload_n hx hb dX0_scheduleOrder_11 rfl (lv_at hl 2 rfl) ?_
        refine lv_iload_n hx hb dX0_scheduleOrder_12 rfl (lv_at hl 0 rfl) ?_
        refine lv_aload_n hx hb dX0_scheduleOrder_13 rfl (lv_at hl 1 rfl) ?_
        refine va_get (D := D) (ci := 0) (C := RX0) (T := TX0) (N := 13) hx hb hts inW hown hK hP 0 rfl rfl 6 (by decide) (hts (.fieldLink RX0 29 "Flowforge" "order" "[I") (List.mem_of_getElem? (i := 2) rfl)) (fun _ h9 => h9) rfl dX0_scheduleOrder_14 ?_
        refine lv_iload_n hx hb dX0_scheduleOrder_17 rfl (lv_at hl 0 rfl) ?_
        refine w_iald (v := iI ((oO i : Nat) : Int)) hx hb hK hP 5 0 rfl rfl (i) (by omega) (by omega) (by decide) rfl dX0_scheduleOrder_18 ?_
        refine w_iVv (As := [.int (iI ((v : Int))), .int (iI ((i : Int))), .int (iI (((((oO i)) : Nat) : Int)))]) (rest := []) (wf := fun u : Unit => xw ad cI cZ nn mm tT (pt wbegins2 (sjB v mm tT i ((oO i)) wbegins2 wends2) (5 * i) mm) (pt wends2 (sjE v mm tT i ((oO i)) wbegins2 wends2) (5 * i) mm) tL oO oR oQ zS zM zN oJ) ⟨hx, hb, hml, hown, hts⟩ hK hP hD hS hA (mX0_scheduleJob  hT hm hv (by omega) (hO i (by omega)) (rows_rg hm.2 hT (by omega) hI)) (cwV 3 hts gX0_scheduleOrder_X0_scheduleJob rfl rfl rfl (by decide +kernel) ⟨Nat.le_of_ble_eq_true rfl, Nat.le_of_ble_eq_true rfl⟩) [0, 1, 2, 3, 4, 5, 6, 7, 8, 9, 10, 11] [] [0, 1, 2, 3, 4, 5, 6, 7, 8, 9, 10, 11] rfl rfl (by decide) (by decide) (by decide) (hwf := fun _ => rfl) (by decide) (ci := 0) rfl rfl rfl rfl hl.1 (by rw [show ((((oO i : Nat) : Int)) : Int) = ((((oO i)) : Nat) : Int) by omega]; try rfl) (Nat.le_of_ble_eq_true rfl) dX0_scheduleOrder_19 ⟨Nat.zero_le _, Nat.zero_le _⟩ (fun u H locs hr19 hP hD hS => ?_)
        refine lv_iinc (v := iI ((i : Int) + 1)) (lv' := [(2, .int (iI ((i : Int) + 1))), (0, .ref (ad 0)), (1, .int (iI ((v : Int))))]) hx hb dX0_scheduleOrder_22 hl (k := 0) rfl (iI_inc (by omega)) (by decide) rfl (fun ls hl => ?_)
        refine lv_goto (tgt := 2) hx hb dX0_scheduleOrder_25 (by decide) ?_
        exact ih2 (i + 1) (pt wbegins2 (sjB v mm tT i ((oO i)) wbegins2 wends2) (5 * i) mm) (pt wends2 (sjE v mm tT i ((oO i)) wbegins2 wends2) (5 * i) mm) ((i : Int) + 1) (by omega) (rows_s hm.2 hI) (by omega) (by omega) _ _ hP hD hS ls (lv_sub hl [0, 1, 2] rfl)
  exact L2 (nn - 0 + 1) 0 tB tE (0) (by omega) (rows_0) (by omega) (Nat.lt_succ_self _) _ _ hP hD hS ls (lv_sub hl [0, 1, 2] rfl)
end
end
