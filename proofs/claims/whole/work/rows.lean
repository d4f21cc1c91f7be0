section
/-- a private method of a class that the tables say can be made, by its rows of tables_1 -/
def lw_okq (q : MethodName × Nat) : Prop := (q.1.cls ≠ "java/lang/invoke/MethodHandle" ∧ q.1.cls ≠ "java/lang/invoke/VarHandle") ∧ Cond.instantiable q.1.cls q.2 ∈ tables_1 ∧ Cond.privateMethod q.1 ∈ tables_1 ∧ Cond.instanceMethod q.1 ∈ tables_1
theorem lw_p0 : lw_okq (⟨"MiddleQueue", "settle", "()V"⟩, 12) := ⟨⟨by decide +kernel, by decide +kernel⟩, List.mem_of_getElem? (i := 13) (by decide +kernel), List.mem_of_getElem? (i := 140) (by decide +kernel), List.mem_of_getElem? (i := 141) (by decide +kernel)⟩
theorem lw_p1 : lw_okq (⟨"MiddleQueue$Text", "fits", "(I)Z"⟩, 3) := ⟨⟨by decide +kernel, by decide +kernel⟩, List.mem_of_getElem? (i := 21) (by decide +kernel), List.mem_of_getElem? (i := 156) (by decide +kernel), List.mem_of_getElem? (i := 157) (by decide +kernel)⟩
theorem lw_p2 : lw_okq (⟨"MiddleQueue$Text", "isEnded", "()Z"⟩, 3) := ⟨⟨by decide +kernel, by decide +kernel⟩, List.mem_of_getElem? (i := 21) (by decide +kernel), List.mem_of_getElem? (i := 170) (by decide +kernel), List.mem_of_getElem? (i := 171) (by decide +kernel)⟩
theorem lw_p3 : lw_okq (⟨"MiddleQueue", "happen", "()V"⟩, 12) := ⟨⟨by decide +kernel, by decide +kernel⟩, List.mem_of_getElem? (i := 13) (by decide +kernel), List.mem_of_getElem? (i := 201) (by decide +kernel), List.mem_of_getElem? (i := 202) (by decide +kernel)⟩
theorem lw_p4 : lw_okq (⟨"MiddleQueue$Course", "doEvents", "(LMiddleQueue$Plan;I)V"⟩, 5) := ⟨⟨by decide +kernel, by decide +kernel⟩, List.mem_of_getElem? (i := 81) (by decide +kernel), List.mem_of_getElem? (i := 221) (by decide +kernel), List.mem_of_getElem? (i := 222) (by decide +kernel)⟩
theorem lw_p5 : lw_okq (⟨"MiddleQueue$Course", "letIn", "(LMiddleQueue$Plan;I)V"⟩, 5) := ⟨⟨by decide +kernel, by decide +kernel⟩, List.mem_of_getElem? (i := 81) (by decide +kernel), List.mem_of_getElem? (i := 253) (by decide +kernel), List.mem_of_getElem? (i := 254) (by decide +kernel)⟩
theorem lw_p6 : lw_okq (⟨"MiddleQueue$Course", "serve", "(I)V"⟩, 5) := ⟨⟨by decide +kernel, by decide +kernel⟩, List.mem_of_getElem? (i := 81) (by decide +kernel), List.mem_of_getElem? (i := 268) (by decide +kernel), List.mem_of_getElem? (i := 269) (by decide +kernel)⟩
theorem lw_p7 : lw_okq (⟨"MiddleQueue$Course", "keep", "(I)V"⟩, 5) := ⟨⟨by decide +kernel, by decide +kernel⟩, List.mem_of_getElem? (i := 81) (by decide +kernel), List.mem_of_getElem? (i := 278) (by decide +kernel), List.mem_of_getElem? (i := 279) (by decide +kernel)⟩
theorem lw_p8 : lw_okq (⟨"MiddleQueue", "textOf", "(I)LMiddleQueue$Text;"⟩, 12) := ⟨⟨by decide +kernel, by decide +kernel⟩, List.mem_of_getElem? (i := 13) (by decide +kernel), List.mem_of_getElem? (i := 323) (by decide +kernel), List.mem_of_getElem? (i := 324) (by decide +kernel)⟩
theorem lw_p9 : lw_okq (⟨"MiddleQueue", "isPerson", "(I)Z"⟩, 12) := ⟨⟨by decide +kernel, by decide +kernel⟩, List.mem_of_getElem? (i := 13) (by decide +kernel), List.mem_of_getElem? (i := 360) (by decide +kernel), List.mem_of_getElem? (i := 361) (by decide +kernel)⟩
theorem lw_p10 : lw_okq (⟨"MiddleQueue", "takeEvent", "(III)I"⟩, 12) := ⟨⟨by decide +kernel, by decide +kernel⟩, List.mem_of_getElem? (i := 13) (by decide +kernel), List.mem_of_getElem? (i := 390) (by decide +kernel), List.mem_of_getElem? (i := 391) (by decide +kernel)⟩
theorem lw_p11 : lw_okq (⟨"MiddleQueue", "sheetOf", "(I)LMiddleQueue$Sheet;"⟩, 12) := ⟨⟨by decide +kernel, by decide +kernel⟩, List.mem_of_getElem? (i := 13) (by decide +kernel), List.mem_of_getElem? (i := 411) (by decide +kernel), List.mem_of_getElem? (i := 412) (by decide +kernel)⟩
theorem lw_p12 : lw_okq (⟨"MiddleQueue", "found", "(I)I"⟩, 12) := ⟨⟨by decide +kernel, by decide +kernel⟩, List.mem_of_getElem? (i := 13) (by decide +kernel), List.mem_of_getElem? (i := 419) (by decide +kernel), List.mem_of_getElem? (i := 420) (by decide +kernel)⟩
theorem lw_p13 : lw_okq (⟨"MiddleQueue", "stateOf", "(II)I"⟩, 12) := ⟨⟨by decide +kernel, by decide +kernel⟩, List.mem_of_getElem? (i := 13) (by decide +kernel), List.mem_of_getElem? (i := 463) (by decide +kernel), List.mem_of_getElem? (i := 464) (by decide +kernel)⟩
theorem lw_p14 : lw_okq (⟨"MiddleQueue", "sparedEvents", "()I"⟩, 12) := ⟨⟨by decide +kernel, by decide +kernel⟩, List.mem_of_getElem? (i := 13) (by decide +kernel), List.mem_of_getElem? (i := 552) (by decide +kernel), List.mem_of_getElem? (i := 553) (by decide +kernel)⟩
theorem lw_p15 : lw_okq (⟨"MiddleQueue", "endsEmptyWithout", "(I)Z"⟩, 12) := ⟨⟨by decide +kernel, by decide +kernel⟩, List.mem_of_getElem? (i := 13) (by decide +kernel), List.mem_of_getElem? (i := 556) (by decide +kernel), List.mem_of_getElem? (i := 557) (by decide +kernel)⟩
def lw_privs_1 : List (MethodName × Nat) := [(⟨"MiddleQueue", "settle", "()V"⟩, 12), (⟨"MiddleQueue$Text", "fits", "(I)Z"⟩, 3), (⟨"MiddleQueue$Text", "isEnded", "()Z"⟩, 3), (⟨"MiddleQueue", "happen", "()V"⟩, 12), (⟨"MiddleQueue$Course", "doEvents", "(LMiddleQueue$Plan;I)V"⟩, 5), (⟨"MiddleQueue$Course", "letIn", "(LMiddleQueue$Plan;I)V"⟩, 5), (⟨"MiddleQueue$Course", "serve", "(I)V"⟩, 5), (⟨"MiddleQueue$Course", "keep", "(I)V"⟩, 5), (⟨"MiddleQueue", "textOf", "(I)LMiddleQueue$Text;"⟩, 12), (⟨"MiddleQueue", "isPerson", "(I)Z"⟩, 12), (⟨"MiddleQueue", "takeEvent", "(III)I"⟩, 12), (⟨"MiddleQueue", "sheetOf", "(I)LMiddleQueue$Sheet;"⟩, 12), (⟨"MiddleQueue", "found", "(I)I"⟩, 12), (⟨"MiddleQueue", "stateOf", "(II)I"⟩, 12), (⟨"MiddleQueue", "sparedEvents", "()I"⟩, 12), (⟨"MiddleQueue", "endsEmptyWithout", "(I)Z"⟩, 12)]
theorem lw_r1 : ∀ q ∈ lw_privs_1, lw_okq q := List.forall_mem_cons.mpr ⟨lw_p0, List.forall_mem_cons.mpr ⟨lw_p1, List.forall_mem_cons.mpr ⟨lw_p2, List.forall_mem_cons.mpr ⟨lw_p3, List.forall_mem_cons.mpr ⟨lw_p4, List.forall_mem_cons.mpr ⟨lw_p5, List.forall_mem_cons.mpr ⟨lw_p6, List.forall_mem_cons.mpr ⟨lw_p7, List.forall_mem_cons.mpr ⟨lw_p8, List.forall_mem_cons.mpr ⟨lw_p9, List.forall_mem_cons.mpr ⟨lw_p10, List.forall_mem_cons.mpr ⟨lw_p11, List.forall_mem_cons.mpr ⟨lw_p12, List.forall_mem_cons.mpr ⟨lw_p13, List.forall_mem_cons.mpr ⟨lw_p14, List.forall_mem_cons.mpr ⟨lw_p15, fun _ h => absurd h List.not_mem_nil⟩⟩⟩⟩⟩⟩⟩⟩⟩⟩⟩⟩⟩⟩⟩⟩
theorem lw_p16 : lw_okq (⟨"MiddleQueue", "fittingSorts", "(I)I"⟩, 12) := ⟨⟨by decide +kernel, by decide +kernel⟩, List.mem_of_getElem? (i := 13) (by decide +kernel), List.mem_of_getElem? (i := 597) (by decide +kernel), List.mem_of_getElem? (i := 598) (by decide +kernel)⟩
theorem lw_p17 : lw_okq (⟨"MiddleQueue", "fittingParcels", "(I)I"⟩, 12) := ⟨⟨by decide +kernel, by decide +kernel⟩, List.mem_of_getElem? (i := 13) (by decide +kernel), List.mem_of_getElem? (i := 602) (by decide +kernel), List.mem_of_getElem? (i := 603) (by decide +kernel)⟩
theorem lw_p18 : lw_okq (⟨"MiddleQueue", "keepStanding", "(I)V"⟩, 12) := ⟨⟨by decide +kernel, by decide +kernel⟩, List.mem_of_getElem? (i := 13) (by decide +kernel), List.mem_of_getElem? (i := 607) (by decide +kernel), List.mem_of_getElem? (i := 608) (by decide +kernel)⟩
theorem lw_p19 : lw_okq (⟨"MiddleQueue", "mostAlike", "(II)I"⟩, 12) := ⟨⟨by decide +kernel, by decide +kernel⟩, List.mem_of_getElem? (i := 13) (by decide +kernel), List.mem_of_getElem? (i := 616) (by decide +kernel), List.mem_of_getElem? (i := 617) (by decide +kernel)⟩
theorem lw_p20 : lw_okq (⟨"MiddleQueue", "standing", "(II)J"⟩, 12) := ⟨⟨by decide +kernel, by decide +kernel⟩, List.mem_of_getElem? (i := 13) (by decide +kernel), List.mem_of_getElem? (i := 620) (by decide +kernel), List.mem_of_getElem? (i := 621) (by decide +kernel)⟩
theorem lw_p21 : lw_okq (⟨"MiddleQueue", "learnServed", "()V"⟩, 12) := ⟨⟨by decide +kernel, by decide +kernel⟩, List.mem_of_getElem? (i := 13) (by decide +kernel), List.mem_of_getElem? (i := 630) (by decide +kernel), List.mem_of_getElem? (i := 631) (by decide +kernel)⟩
theorem lw_p22 : lw_okq (⟨"MiddleQueue$Sheet", "cut", "(I)I"⟩, 3) := ⟨⟨by decide +kernel, by decide +kernel⟩, List.mem_of_getElem? (i := 124) (by decide +kernel), List.mem_of_getElem? (i := 691) (by decide +kernel), List.mem_of_getElem? (i := 692) (by decide +kernel)⟩
theorem lw_p23 : lw_okq (⟨"MiddleQueue", "mixedWithDay", "(JI)J"⟩, 12) := ⟨⟨by decide +kernel, by decide +kernel⟩, List.mem_of_getElem? (i := 13) (by decide +kernel), List.mem_of_getElem? (i := 742) (by decide +kernel), List.mem_of_getElem? (i := 743) (by decide +kernel)⟩
theorem lw_p24 : lw_okq (⟨"MiddleQueue", "mixedWithMinute", "(JII)J"⟩, 12) := ⟨⟨by decide +kernel, by decide +kernel⟩, List.mem_of_getElem? (i := 13) (by decide +kernel), List.mem_of_getElem? (i := 747) (by decide +kernel), List.mem_of_getElem? (i := 748) (by decide +kernel)⟩
theorem lw_p25 : lw_okq (⟨"MiddleQueue", "mixedWithGuesses", "(JI)J"⟩, 12) := ⟨⟨by decide +kernel, by decide +kernel⟩, List.mem_of_getElem? (i := 13) (by decide +kernel), List.mem_of_getElem? (i := 753) (by decide +kernel), List.mem_of_getElem? (i := 754) (by decide +kernel)⟩
theorem lw_p26 : lw_okq (⟨"MiddleQueueModel", "faultOf", "(I)I"⟩, 40) := ⟨⟨by decide +kernel, by decide +kernel⟩, List.mem_of_getElem? (i := 769) (by decide +kernel), List.mem_of_getElem? (i := 919) (by decide +kernel), List.mem_of_getElem? (i := 920) (by decide +kernel)⟩
theorem lw_p27 : lw_okq (⟨"MiddleQueueModel", "readsPeople", "()I"⟩, 40) := ⟨⟨by decide +kernel, by decide +kernel⟩, List.mem_of_getElem? (i := 769) (by decide +kernel), List.mem_of_getElem? (i := 923) (by decide +kernel), List.mem_of_getElem? (i := 924) (by decide +kernel)⟩
theorem lw_p28 : lw_okq (⟨"MiddleQueueModel", "readsPerson", "(II)I"⟩, 40) := ⟨⟨by decide +kernel, by decide +kernel⟩, List.mem_of_getElem? (i := 769) (by decide +kernel), List.mem_of_getElem? (i := 927) (by decide +kernel), List.mem_of_getElem? (i := 928) (by decide +kernel)⟩
theorem lw_p29 : lw_okq (⟨"MiddleQueueModel", "byteAt", "(I)I"⟩, 40) := ⟨⟨by decide +kernel, by decide +kernel⟩, List.mem_of_getElem? (i := 769) (by decide +kernel), List.mem_of_getElem? (i := 931) (by decide +kernel), List.mem_of_getElem? (i := 932) (by decide +kernel)⟩
theorem lw_p30 : lw_okq (⟨"MiddleQueueModel", "readsWindows", "()I"⟩, 40) := ⟨⟨by decide +kernel, by decide +kernel⟩, List.mem_of_getElem? (i := 769) (by decide +kernel), List.mem_of_getElem? (i := 938) (by decide +kernel), List.mem_of_getElem? (i := 939) (by decide +kernel)⟩
theorem lw_p31 : lw_okq (⟨"MiddleQueueModel", "isPerson", "(I)Z"⟩, 40) := ⟨⟨by decide +kernel, by decide +kernel⟩, List.mem_of_getElem? (i := 769) (by decide +kernel), List.mem_of_getElem? (i := 949) (by decide +kernel), List.mem_of_getElem? (i := 950) (by decide +kernel)⟩
def lw_privs_2 : List (MethodName × Nat) := [(⟨"MiddleQueue", "fittingSorts", "(I)I"⟩, 12), (⟨"MiddleQueue", "fittingParcels", "(I)I"⟩, 12), (⟨"MiddleQueue", "keepStanding", "(I)V"⟩, 12), (⟨"MiddleQueue", "mostAlike", "(II)I"⟩, 12), (⟨"MiddleQueue", "standing", "(II)J"⟩, 12), (⟨"MiddleQueue", "learnServed", "()V"⟩, 12), (⟨"MiddleQueue$Sheet", "cut", "(I)I"⟩, 3), (⟨"MiddleQueue", "mixedWithDay", "(JI)J"⟩, 12), (⟨"MiddleQueue", "mixedWithMinute", "(JII)J"⟩, 12), (⟨"MiddleQueue", "mixedWithGuesses", "(JI)J"⟩, 12), (⟨"MiddleQueueModel", "faultOf", "(I)I"⟩, 40), (⟨"MiddleQueueModel", "readsPeople", "()I"⟩, 40), (⟨"MiddleQueueModel", "readsPerson", "(II)I"⟩, 40), (⟨"MiddleQueueModel", "byteAt", "(I)I"⟩, 40), (⟨"MiddleQueueModel", "readsWindows", "()I"⟩, 40), (⟨"MiddleQueueModel", "isPerson", "(I)Z"⟩, 40)]
theorem lw_r2 : ∀ q ∈ lw_privs_2, lw_okq q := List.forall_mem_cons.mpr ⟨lw_p16, List.forall_mem_cons.mpr ⟨lw_p17, List.forall_mem_cons.mpr ⟨lw_p18, List.forall_mem_cons.mpr ⟨lw_p19, List.forall_mem_cons.mpr ⟨lw_p20, List.forall_mem_cons.mpr ⟨lw_p21, List.forall_mem_cons.mpr ⟨lw_p22, List.forall_mem_cons.mpr ⟨lw_p23, List.forall_mem_cons.mpr ⟨lw_p24, List.forall_mem_cons.mpr ⟨lw_p25, List.forall_mem_cons.mpr ⟨lw_p26, List.forall_mem_cons.mpr ⟨lw_p27, List.forall_mem_cons.mpr ⟨lw_p28, List.forall_mem_cons.mpr ⟨lw_p29, List.forall_mem_cons.mpr ⟨lw_p30, List.forall_mem_cons.mpr ⟨lw_p31, fun _ h => absurd h List.not_mem_nil⟩⟩⟩⟩⟩⟩⟩⟩⟩⟩⟩⟩⟩⟩⟩⟩
theorem lw_p32 : lw_okq (⟨"MiddleQueueModel", "reads", "()V"⟩, 40) := ⟨⟨by decide +kernel, by decide +kernel⟩, List.mem_of_getElem? (i := 769) (by decide +kernel), List.mem_of_getElem? (i := 953) (by decide +kernel), List.mem_of_getElem? (i := 954) (by decide +kernel)⟩
theorem lw_p33 : lw_okq (⟨"MiddleQueueModel", "personOf", "(II)I"⟩, 40) := ⟨⟨by decide +kernel, by decide +kernel⟩, List.mem_of_getElem? (i := 769) (by decide +kernel), List.mem_of_getElem? (i := 960) (by decide +kernel), List.mem_of_getElem? (i := 961) (by decide +kernel)⟩
theorem lw_p34 : lw_okq (⟨"MiddleQueueModel", "windowOf", "(I)I"⟩, 40) := ⟨⟨by decide +kernel, by decide +kernel⟩, List.mem_of_getElem? (i := 769) (by decide +kernel), List.mem_of_getElem? (i := 968) (by decide +kernel), List.mem_of_getElem? (i := 969) (by decide +kernel)⟩
theorem lw_p35 : lw_okq (⟨"MiddleQueueModel", "meets", "(I)I"⟩, 40) := ⟨⟨by decide +kernel, by decide +kernel⟩, List.mem_of_getElem? (i := 769) (by decide +kernel), List.mem_of_getElem? (i := 990) (by decide +kernel), List.mem_of_getElem? (i := 991) (by decide +kernel)⟩
theorem lw_p36 : lw_okq (⟨"MiddleQueueModel", "standsOf", "(II)I"⟩, 40) := ⟨⟨by decide +kernel, by decide +kernel⟩, List.mem_of_getElem? (i := 769) (by decide +kernel), List.mem_of_getElem? (i := 999) (by decide +kernel), List.mem_of_getElem? (i := 1000) (by decide +kernel)⟩
theorem lw_p37 : lw_okq (⟨"MiddleQueueModel", "runsTold", "()V"⟩, 40) := ⟨⟨by decide +kernel, by decide +kernel⟩, List.mem_of_getElem? (i := 769) (by decide +kernel), List.mem_of_getElem? (i := 1003) (by decide +kernel), List.mem_of_getElem? (i := 1004) (by decide +kernel)⟩
theorem lw_p38 : lw_okq (⟨"MiddleQueueModel", "asTold", "()V"⟩, 40) := ⟨⟨by decide +kernel, by decide +kernel⟩, List.mem_of_getElem? (i := 769) (by decide +kernel), List.mem_of_getElem? (i := 1007) (by decide +kernel), List.mem_of_getElem? (i := 1008) (by decide +kernel)⟩
theorem lw_p39 : lw_okq (⟨"MiddleQueueModel", "runs", "()V"⟩, 40) := ⟨⟨by decide +kernel, by decide +kernel⟩, List.mem_of_getElem? (i := 769) (by decide +kernel), List.mem_of_getElem? (i := 1011) (by decide +kernel), List.mem_of_getElem? (i := 1012) (by decide +kernel)⟩
theorem lw_p40 : lw_okq (⟨"MiddleQueueModel", "goesBy", "(I)V"⟩, 40) := ⟨⟨by decide +kernel, by decide +kernel⟩, List.mem_of_getElem? (i := 769) (by decide +kernel), List.mem_of_getElem? (i := 1015) (by decide +kernel), List.mem_of_getElem? (i := 1016) (by decide +kernel)⟩
theorem lw_p41 : lw_okq (⟨"MiddleQueueModel", "befalls", "(I)V"⟩, 40) := ⟨⟨by decide +kernel, by decide +kernel⟩, List.mem_of_getElem? (i := 769) (by decide +kernel), List.mem_of_getElem? (i := 1022) (by decide +kernel), List.mem_of_getElem? (i := 1023) (by decide +kernel)⟩
theorem lw_p42 : lw_okq (⟨"MiddleQueueModel", "leaves", "(I)V"⟩, 40) := ⟨⟨by decide +kernel, by decide +kernel⟩, List.mem_of_getElem? (i := 769) (by decide +kernel), List.mem_of_getElem? (i := 1026) (by decide +kernel), List.mem_of_getElem? (i := 1027) (by decide +kernel)⟩
theorem lw_p43 : lw_okq (⟨"MiddleQueueModel", "enters", "(II)V"⟩, 40) := ⟨⟨by decide +kernel, by decide +kernel⟩, List.mem_of_getElem? (i := 769) (by decide +kernel), List.mem_of_getElem? (i := 1030) (by decide +kernel), List.mem_of_getElem? (i := 1031) (by decide +kernel)⟩
theorem lw_p44 : lw_okq (⟨"MiddleQueueModel", "comesIn", "(I)V"⟩, 40) := ⟨⟨by decide +kernel, by decide +kernel⟩, List.mem_of_getElem? (i := 769) (by decide +kernel), List.mem_of_getElem? (i := 1034) (by decide +kernel), List.mem_of_getElem? (i := 1035) (by decide +kernel)⟩
theorem lw_p45 : lw_okq (⟨"MiddleQueueModel", "serves", "(I)V"⟩, 40) := ⟨⟨by decide +kernel, by decide +kernel⟩, List.mem_of_getElem? (i := 769) (by decide +kernel), List.mem_of_getElem? (i := 1038) (by decide +kernel), List.mem_of_getElem? (i := 1039) (by decide +kernel)⟩
theorem lw_p46 : lw_okq (⟨"MiddleQueueModel", "manyOf", "(I)I"⟩, 40) := ⟨⟨by decide +kernel, by decide +kernel⟩, List.mem_of_getElem? (i := 769) (by decide +kernel), List.mem_of_getElem? (i := 1046) (by decide +kernel), List.mem_of_getElem? (i := 1047) (by decide +kernel)⟩
theorem lw_p47 : lw_okq (⟨"MiddleQueueModel", "atOf", "(III)I"⟩, 40) := ⟨⟨by decide +kernel, by decide +kernel⟩, List.mem_of_getElem? (i := 769) (by decide +kernel), List.mem_of_getElem? (i := 1054) (by decide +kernel), List.mem_of_getElem? (i := 1055) (by decide +kernel)⟩
def lw_privs_3 : List (MethodName × Nat) := [(⟨"MiddleQueueModel", "reads", "()V"⟩, 40), (⟨"MiddleQueueModel", "personOf", "(II)I"⟩, 40), (⟨"MiddleQueueModel", "windowOf", "(I)I"⟩, 40), (⟨"MiddleQueueModel", "meets", "(I)I"⟩, 40), (⟨"MiddleQueueModel", "standsOf", "(II)I"⟩, 40), (⟨"MiddleQueueModel", "runsTold", "()V"⟩, 40), (⟨"MiddleQueueModel", "asTold", "()V"⟩, 40), (⟨"MiddleQueueModel", "runs", "()V"⟩, 40), (⟨"MiddleQueueModel", "goesBy", "(I)V"⟩, 40), (⟨"MiddleQueueModel", "befalls", "(I)V"⟩, 40), (⟨"MiddleQueueModel", "leaves", "(I)V"⟩, 40), (⟨"MiddleQueueModel", "enters", "(II)V"⟩, 40), (⟨"MiddleQueueModel", "comesIn", "(I)V"⟩, 40), (⟨"MiddleQueueModel", "serves", "(I)V"⟩, 40), (⟨"MiddleQueueModel", "manyOf", "(I)I"⟩, 40), (⟨"MiddleQueueModel", "atOf", "(III)I"⟩, 40)]
theorem lw_r3 : ∀ q ∈ lw_privs_3, lw_okq q := List.forall_mem_cons.mpr ⟨lw_p32, List.forall_mem_cons.mpr ⟨lw_p33, List.forall_mem_cons.mpr ⟨lw_p34, List.forall_mem_cons.mpr ⟨lw_p35, List.forall_mem_cons.mpr ⟨lw_p36, List.forall_mem_cons.mpr ⟨lw_p37, List.forall_mem_cons.mpr ⟨lw_p38, List.forall_mem_cons.mpr ⟨lw_p39, List.forall_mem_cons.mpr ⟨lw_p40, List.forall_mem_cons.mpr ⟨lw_p41, List.forall_mem_cons.mpr ⟨lw_p42, List.forall_mem_cons.mpr ⟨lw_p43, List.forall_mem_cons.mpr ⟨lw_p44, List.forall_mem_cons.mpr ⟨lw_p45, List.forall_mem_cons.mpr ⟨lw_p46, List.forall_mem_cons.mpr ⟨lw_p47, fun _ h => absurd h List.not_mem_nil⟩⟩⟩⟩⟩⟩⟩⟩⟩⟩⟩⟩⟩⟩⟩⟩
theorem lw_p48 : lw_okq (⟨"MiddleQueueModel", "placeAt", "(II)I"⟩, 40) := ⟨⟨by decide +kernel, by decide +kernel⟩, List.mem_of_getElem? (i := 769) (by decide +kernel), List.mem_of_getElem? (i := 1058) (by decide +kernel), List.mem_of_getElem? (i := 1059) (by decide +kernel)⟩
theorem lw_p49 : lw_okq (⟨"MiddleQueueModel", "apartOf", "(III)I"⟩, 40) := ⟨⟨by decide +kernel, by decide +kernel⟩, List.mem_of_getElem? (i := 769) (by decide +kernel), List.mem_of_getElem? (i := 1066) (by decide +kernel), List.mem_of_getElem? (i := 1067) (by decide +kernel)⟩
theorem lw_p50 : lw_okq (⟨"MiddleQueueModel", "doneOf", "(II)I"⟩, 40) := ⟨⟨by decide +kernel, by decide +kernel⟩, List.mem_of_getElem? (i := 769) (by decide +kernel), List.mem_of_getElem? (i := 1074) (by decide +kernel), List.mem_of_getElem? (i := 1075) (by decide +kernel)⟩
theorem lw_p51 : lw_okq (⟨"MiddleQueueModel", "stoodNow", "(I)I"⟩, 40) := ⟨⟨by decide +kernel, by decide +kernel⟩, List.mem_of_getElem? (i := 769) (by decide +kernel), List.mem_of_getElem? (i := 1078) (by decide +kernel), List.mem_of_getElem? (i := 1079) (by decide +kernel)⟩
theorem lw_p52 : lw_okq (⟨"MiddleQueueModel", "movesNow", "(I)I"⟩, 40) := ⟨⟨by decide +kernel, by decide +kernel⟩, List.mem_of_getElem? (i := 769) (by decide +kernel), List.mem_of_getElem? (i := 1082) (by decide +kernel), List.mem_of_getElem? (i := 1083) (by decide +kernel)⟩
theorem lw_p53 : lw_okq (⟨"MiddleQueueModel", "alfredOf", "(I)I"⟩, 40) := ⟨⟨by decide +kernel, by decide +kernel⟩, List.mem_of_getElem? (i := 769) (by decide +kernel), List.mem_of_getElem? (i := 1093) (by decide +kernel), List.mem_of_getElem? (i := 1094) (by decide +kernel)⟩
theorem lw_p54 : lw_okq (⟨"MiddleQueueModel", "kettleOf", "()I"⟩, 40) := ⟨⟨by decide +kernel, by decide +kernel⟩, List.mem_of_getElem? (i := 769) (by decide +kernel), List.mem_of_getElem? (i := 1101) (by decide +kernel), List.mem_of_getElem? (i := 1102) (by decide +kernel)⟩
theorem lw_p55 : lw_okq (⟨"MiddleQueueModel", "comeOf", "(II)I"⟩, 40) := ⟨⟨by decide +kernel, by decide +kernel⟩, List.mem_of_getElem? (i := 769) (by decide +kernel), List.mem_of_getElem? (i := 1109) (by decide +kernel), List.mem_of_getElem? (i := 1110) (by decide +kernel)⟩
theorem lw_p56 : lw_okq (⟨"MiddleQueueModel", "openOf", "(II)I"⟩, 40) := ⟨⟨by decide +kernel, by decide +kernel⟩, List.mem_of_getElem? (i := 769) (by decide +kernel), List.mem_of_getElem? (i := 1117) (by decide +kernel), List.mem_of_getElem? (i := 1118) (by decide +kernel)⟩
theorem lw_p57 : lw_okq (⟨"MiddleQueueModel", "servedNow", "()I"⟩, 40) := ⟨⟨by decide +kernel, by decide +kernel⟩, List.mem_of_getElem? (i := 769) (by decide +kernel), List.mem_of_getElem? (i := 1121) (by decide +kernel), List.mem_of_getElem? (i := 1122) (by decide +kernel)⟩
theorem lw_p58 : lw_okq (⟨"MiddleQueueModel", "letOf", "(II)I"⟩, 40) := ⟨⟨by decide +kernel, by decide +kernel⟩, List.mem_of_getElem? (i := 769) (by decide +kernel), List.mem_of_getElem? (i := 1129) (by decide +kernel), List.mem_of_getElem? (i := 1130) (by decide +kernel)⟩
theorem lw_p59 : lw_okq (⟨"MiddleQueueModel", "spareBy", "()I"⟩, 40) := ⟨⟨by decide +kernel, by decide +kernel⟩, List.mem_of_getElem? (i := 769) (by decide +kernel), List.mem_of_getElem? (i := 1137) (by decide +kernel), List.mem_of_getElem? (i := 1138) (by decide +kernel)⟩
theorem lw_p60 : lw_okq (⟨"MiddleQueueModel", "isSpared", "(I)Z"⟩, 40) := ⟨⟨by decide +kernel, by decide +kernel⟩, List.mem_of_getElem? (i := 769) (by decide +kernel), List.mem_of_getElem? (i := 1141) (by decide +kernel), List.mem_of_getElem? (i := 1142) (by decide +kernel)⟩
theorem lw_p61 : lw_okq (⟨"MiddleQueueModel", "ofRow", "(II)I"⟩, 40) := ⟨⟨by decide +kernel, by decide +kernel⟩, List.mem_of_getElem? (i := 769) (by decide +kernel), List.mem_of_getElem? (i := 1145) (by decide +kernel), List.mem_of_getElem? (i := 1146) (by decide +kernel)⟩
theorem lw_p62 : lw_okq (⟨"MiddleQueueModel", "neverNow", "()I"⟩, 40) := ⟨⟨by decide +kernel, by decide +kernel⟩, List.mem_of_getElem? (i := 769) (by decide +kernel), List.mem_of_getElem? (i := 1161) (by decide +kernel), List.mem_of_getElem? (i := 1162) (by decide +kernel)⟩
theorem lw_p63 : lw_okq (⟨"MiddleQueueModel", "isSeen", "()Z"⟩, 40) := ⟨⟨by decide +kernel, by decide +kernel⟩, List.mem_of_getElem? (i := 769) (by decide +kernel), List.mem_of_getElem? (i := 1165) (by decide +kernel), List.mem_of_getElem? (i := 1166) (by decide +kernel)⟩
def lw_privs_4 : List (MethodName × Nat) := [(⟨"MiddleQueueModel", "placeAt", "(II)I"⟩, 40), (⟨"MiddleQueueModel", "apartOf", "(III)I"⟩, 40), (⟨"MiddleQueueModel", "doneOf", "(II)I"⟩, 40), (⟨"MiddleQueueModel", "stoodNow", "(I)I"⟩, 40), (⟨"MiddleQueueModel", "movesNow", "(I)I"⟩, 40), (⟨"MiddleQueueModel", "alfredOf", "(I)I"⟩, 40), (⟨"MiddleQueueModel", "kettleOf", "()I"⟩, 40), (⟨"MiddleQueueModel", "comeOf", "(II)I"⟩, 40), (⟨"MiddleQueueModel", "openOf", "(II)I"⟩, 40), (⟨"MiddleQueueModel", "servedNow", "()I"⟩, 40), (⟨"MiddleQueueModel", "letOf", "(II)I"⟩, 40), (⟨"MiddleQueueModel", "spareBy", "()I"⟩, 40), (⟨"MiddleQueueModel", "isSpared", "(I)Z"⟩, 40), (⟨"MiddleQueueModel", "ofRow", "(II)I"⟩, 40), (⟨"MiddleQueueModel", "neverNow", "()I"⟩, 40), (⟨"MiddleQueueModel", "isSeen", "()Z"⟩, 40)]
theorem lw_r4 : ∀ q ∈ lw_privs_4, lw_okq q := List.forall_mem_cons.mpr ⟨lw_p48, List.forall_mem_cons.mpr ⟨lw_p49, List.forall_mem_cons.mpr ⟨lw_p50, List.forall_mem_cons.mpr ⟨lw_p51, List.forall_mem_cons.mpr ⟨lw_p52, List.forall_mem_cons.mpr ⟨lw_p53, List.forall_mem_cons.mpr ⟨lw_p54, List.forall_mem_cons.mpr ⟨lw_p55, List.forall_mem_cons.mpr ⟨lw_p56, List.forall_mem_cons.mpr ⟨lw_p57, List.forall_mem_cons.mpr ⟨lw_p58, List.forall_mem_cons.mpr ⟨lw_p59, List.forall_mem_cons.mpr ⟨lw_p60, List.forall_mem_cons.mpr ⟨lw_p61, List.forall_mem_cons.mpr ⟨lw_p62, List.forall_mem_cons.mpr ⟨lw_p63, fun _ h => absurd h List.not_mem_nil⟩⟩⟩⟩⟩⟩⟩⟩⟩⟩⟩⟩⟩⟩⟩⟩
theorem lw_p64 : lw_okq (⟨"MiddleQueueModel", "sortsBy", "(I)I"⟩, 40) := ⟨⟨by decide +kernel, by decide +kernel⟩, List.mem_of_getElem? (i := 769) (by decide +kernel), List.mem_of_getElem? (i := 1173) (by decide +kernel), List.mem_of_getElem? (i := 1174) (by decide +kernel)⟩
theorem lw_p65 : lw_okq (⟨"MiddleQueueModel", "parcelsBy", "(I)I"⟩, 40) := ⟨⟨by decide +kernel, by decide +kernel⟩, List.mem_of_getElem? (i := 769) (by decide +kernel), List.mem_of_getElem? (i := 1177) (by decide +kernel), List.mem_of_getElem? (i := 1178) (by decide +kernel)⟩
theorem lw_p66 : lw_okq (⟨"MiddleQueueModel", "rowAt", "(I)J"⟩, 40) := ⟨⟨by decide +kernel, by decide +kernel⟩, List.mem_of_getElem? (i := 769) (by decide +kernel), List.mem_of_getElem? (i := 1181) (by decide +kernel), List.mem_of_getElem? (i := 1182) (by decide +kernel)⟩
theorem lw_p67 : lw_okq (⟨"MiddleQueueModel", "askOf", "(I)I"⟩, 40) := ⟨⟨by decide +kernel, by decide +kernel⟩, List.mem_of_getElem? (i := 769) (by decide +kernel), List.mem_of_getElem? (i := 1190) (by decide +kernel), List.mem_of_getElem? (i := 1191) (by decide +kernel)⟩
theorem lw_p68 : lw_okq (⟨"MiddleQueueModel", "chanceOf", "(III)J"⟩, 40) := ⟨⟨by decide +kernel, by decide +kernel⟩, List.mem_of_getElem? (i := 769) (by decide +kernel), List.mem_of_getElem? (i := 1198) (by decide +kernel), List.mem_of_getElem? (i := 1199) (by decide +kernel)⟩
theorem lw_p69 : lw_okq (⟨"MiddleQueueModel", "decadesOf", "(III)I"⟩, 40) := ⟨⟨by decide +kernel, by decide +kernel⟩, List.mem_of_getElem? (i := 769) (by decide +kernel), List.mem_of_getElem? (i := 1213) (by decide +kernel), List.mem_of_getElem? (i := 1214) (by decide +kernel)⟩
theorem lw_p70 : lw_okq (⟨"MiddleQueueModel", "lacks", "(III)I"⟩, 40) := ⟨⟨by decide +kernel, by decide +kernel⟩, List.mem_of_getElem? (i := 769) (by decide +kernel), List.mem_of_getElem? (i := 1230) (by decide +kernel), List.mem_of_getElem? (i := 1231) (by decide +kernel)⟩
theorem lw_p71 : lw_okq (⟨"MiddleQueueModel", "keep", "(III)V"⟩, 40) := ⟨⟨by decide +kernel, by decide +kernel⟩, List.mem_of_getElem? (i := 769) (by decide +kernel), List.mem_of_getElem? (i := 1234) (by decide +kernel), List.mem_of_getElem? (i := 1235) (by decide +kernel)⟩
theorem lw_p72 : lw_okq (⟨"MiddleQueueModel", "sumOf", "(I)I"⟩, 40) := ⟨⟨by decide +kernel, by decide +kernel⟩, List.mem_of_getElem? (i := 769) (by decide +kernel), List.mem_of_getElem? (i := 1255) (by decide +kernel), List.mem_of_getElem? (i := 1256) (by decide +kernel)⟩
theorem lw_p73 : lw_okq (⟨"MiddleQueueModel", "personDigest", "(JI)J"⟩, 40) := ⟨⟨by decide +kernel, by decide +kernel⟩, List.mem_of_getElem? (i := 769) (by decide +kernel), List.mem_of_getElem? (i := 1266) (by decide +kernel), List.mem_of_getElem? (i := 1267) (by decide +kernel)⟩
theorem lw_p74 : lw_okq (⟨"MiddleQueueModel", "minuteDigest", "(JII)J"⟩, 40) := ⟨⟨by decide +kernel, by decide +kernel⟩, List.mem_of_getElem? (i := 769) (by decide +kernel), List.mem_of_getElem? (i := 1270) (by decide +kernel), List.mem_of_getElem? (i := 1271) (by decide +kernel)⟩
def lw_privs_5 : List (MethodName × Nat) := [(⟨"MiddleQueueModel", "sortsBy", "(I)I"⟩, 40), (⟨"MiddleQueueModel", "parcelsBy", "(I)I"⟩, 40), (⟨"MiddleQueueModel", "rowAt", "(I)J"⟩, 40), (⟨"MiddleQueueModel", "askOf", "(I)I"⟩, 40), (⟨"MiddleQueueModel", "chanceOf", "(III)J"⟩, 40), (⟨"MiddleQueueModel", "decadesOf", "(III)I"⟩, 40), (⟨"MiddleQueueModel", "lacks", "(III)I"⟩, 40), (⟨"MiddleQueueModel", "keep", "(III)V"⟩, 40), (⟨"MiddleQueueModel", "sumOf", "(I)I"⟩, 40), (⟨"MiddleQueueModel", "personDigest", "(JI)J"⟩, 40), (⟨"MiddleQueueModel", "minuteDigest", "(JII)J"⟩, 40)]
theorem lw_r5 : ∀ q ∈ lw_privs_5, lw_okq q := List.forall_mem_cons.mpr ⟨lw_p64, List.forall_mem_cons.mpr ⟨lw_p65, List.forall_mem_cons.mpr ⟨lw_p66, List.forall_mem_cons.mpr ⟨lw_p67, List.forall_mem_cons.mpr ⟨lw_p68, List.forall_mem_cons.mpr ⟨lw_p69, List.forall_mem_cons.mpr ⟨lw_p70, List.forall_mem_cons.mpr ⟨lw_p71, List.forall_mem_cons.mpr ⟨lw_p72, List.forall_mem_cons.mpr ⟨lw_p73, List.forall_mem_cons.mpr ⟨lw_p74, fun _ h => absurd h List.not_mem_nil⟩⟩⟩⟩⟩⟩⟩⟩⟩⟩⟩
def lw_privs : List (MethodName × Nat) := lw_privs_1 ++ (lw_privs_2 ++ (lw_privs_3 ++ (lw_privs_4 ++ (lw_privs_5))))
def lw_tbl : List Cond := k2_sels lw_privs ++ tables_1
theorem lw_privs_ok : ∀ q ∈ lw_privs, lw_okq q := by
  show ∀ q ∈ lw_privs_1 ++ (lw_privs_2 ++ (lw_privs_3 ++ (lw_privs_4 ++ (lw_privs_5)))), lw_okq q
  exact List.forall_mem_append.mpr ⟨lw_r1, List.forall_mem_append.mpr ⟨lw_r2, List.forall_mem_append.mpr ⟨lw_r3, List.forall_mem_append.mpr ⟨lw_r4, lw_r5⟩⟩⟩⟩
-- names, out of the printed ones
def RX0 : String := "MiddleQueue$Course"
def TX0 : u_T := fun k => match k with
  | 0 => ("MiddleQueue$Course", "queues", "[J", true)
  | 1 => ("MiddleQueue$Course", "lefts", "[J", true)
  | 2 => ("MiddleQueue$Course", "people", "I", false)
  | 3 => ("MiddleQueue$Course", "queue", "J", false)
  | _ => ("MiddleQueue$Course", "left", "J", false)
def tyX0 : Nat → FieldType := fun k => match k with
  | 0 => .array .long
  | 1 => .array .long
  | 2 => .int
  | 3 => .long
  | _ => .long
theorem nmX0 : ∀ a, a < 5 → ∀ b, b < 5 → a ≠ b → (TX0 a).2.1 ≠ (TX0 b).2.1 := by decide +kernel
theorem tyX0_ok : ∀ k, k < 5 → parseFieldDescriptor (TX0 k).2.2.1 = some (tyX0 k) := by decide +kernel
abbrev cX0_init : ByteArray := prog_2_method_1_code
def yX0_init : MethodName := ⟨RX0, "<init>", "()V"⟩
abbrev cX0_run : ByteArray := prog_2_method_2_code
def yX0_run : MethodName := ⟨RX0, "run", "(LMiddleQueue$Plan;I)V"⟩
abbrev cX0_doEvents : ByteArray := prog_2_method_3_code
def yX0_doEvents : MethodName := ⟨RX0, "doEvents", "(LMiddleQueue$Plan;I)V"⟩
abbrev cX0_letIn : ByteArray := prog_2_method_4_code
def yX0_letIn : MethodName := ⟨RX0, "letIn", "(LMiddleQueue$Plan;I)V"⟩
abbrev cX0_placeToJoin : ByteArray := prog_2_method_5_code
def yX0_placeToJoin : MethodName := ⟨RX0, "placeToJoin", "(II)I"⟩
abbrev cX0_serve : ByteArray := prog_2_method_6_code
def yX0_serve : MethodName := ⟨RX0, "serve", "(I)V"⟩
abbrev cX0_keep : ByteArray := prog_2_method_7_code
def yX0_keep : MethodName := ⟨RX0, "keep", "(I)V"⟩
abbrev cX0_queueBehind : ByteArray := prog_2_method_8_code
def yX0_queueBehind : MethodName := ⟨RX0, "queueBehind", "(I)J"⟩
abbrev cX0_whoAt : ByteArray := prog_2_method_9_code
def yX0_whoAt : MethodName := ⟨RX0, "whoAt", "(II)I"⟩
abbrev cX0_howMany : ByteArray := prog_2_method_10_code
def yX0_howMany : MethodName := ⟨RX0, "howMany", "(I)I"⟩
abbrev cX0_placeOf : ByteArray := prog_2_method_11_code
def yX0_placeOf : MethodName := ⟨RX0, "placeOf", "(II)I"⟩
abbrev cX0_leftOf : ByteArray := prog_2_method_12_code
def yX0_leftOf : MethodName := ⟨RX0, "leftOf", "(II)I"⟩
abbrev cX0_isServed : ByteArray := prog_2_method_13_code
def yX0_isServed : MethodName := ⟨RX0, "isServed", "(I)Z"⟩
abbrev cX0_servedIn : ByteArray := prog_2_method_14_code
def yX0_servedIn : MethodName := ⟨RX0, "servedIn", "(I)I"⟩
abbrev cX0_servedBits : ByteArray := prog_2_method_15_code
def yX0_servedBits : MethodName := ⟨RX0, "servedBits", "()I"⟩
abbrev cX0_howManyServed : ByteArray := prog_2_method_16_code
def yX0_howManyServed : MethodName := ⟨RX0, "howManyServed", "()I"⟩
abbrev cX0_stood : ByteArray := prog_2_method_17_code
def yX0_stood : MethodName := ⟨RX0, "stood", "(I)I"⟩
abbrev cX0_moves : ByteArray := prog_2_method_18_code
def yX0_moves : MethodName := ⟨RX0, "moves", "(I)I"⟩
abbrev cX0_minutesFirst : ByteArray := prog_2_method_19_code
def yX0_minutesFirst : MethodName := ⟨RX0, "minutesFirst", "(I)I"⟩
def RX1 : String := "MiddleQueue$Digits"
def TX1 : u_T := fun k => match k with
  | _ => ("", "", "", false)
def tyX1 : Nat → FieldType := fun k => match k with
  | _ => .int
theorem nmX1 : ∀ a, a < 0 → ∀ b, b < 0 → a ≠ b → (TX1 a).2.1 ≠ (TX1 b).2.1 := by decide +kernel
theorem tyX1_ok : ∀ k, k < 0 → parseFieldDescriptor (TX1 k).2.2.1 = some (tyX1 k) := by decide +kernel
abbrev cX1_digit : ByteArray := prog_3_method_2_code
def yX1_digit : MethodName := ⟨RX1, "digit", "(JI)I"⟩
abbrev cX1_replaced : ByteArray := prog_3_method_3_code
def yX1_replaced : MethodName := ⟨RX1, "replaced", "(JII)J"⟩
abbrev cX1_lowered : ByteArray := prog_3_method_4_code
def yX1_lowered : MethodName := ⟨RX1, "lowered", "(JI)J"⟩
abbrev cX1_inserted : ByteArray := prog_3_method_5_code
def yX1_inserted : MethodName := ⟨RX1, "inserted", "(JII)J"⟩
abbrev cX1_removed : ByteArray := prog_3_method_6_code
def yX1_removed : MethodName := ⟨RX1, "removed", "(JI)J"⟩
abbrev cX1_length : ByteArray := prog_3_method_7_code
def yX1_length : MethodName := ⟨RX1, "length", "(J)I"⟩
abbrev cX1_find : ByteArray := prog_3_method_8_code
def yX1_find : MethodName := ⟨RX1, "find", "(JI)I"⟩
def RX2 : String := "MiddleQueue$Plan"
def TX2 : u_T := fun k => match k with
  | 0 => ("MiddleQueue$Plan", "people", "I", false)
  | 1 => ("MiddleQueue$Plan", "coming", "[I", true)
  | 2 => ("MiddleQueue$Plan", "sorts", "[I", true)
  | 3 => ("MiddleQueue$Plan", "parcels", "J", false)
  | 4 => ("MiddleQueue$Plan", "open", "[I", true)
  | 5 => ("MiddleQueue$Plan", "events", "I", false)
  | 6 => ("MiddleQueue$Plan", "kinds", "[I", true)
  | 7 => ("MiddleQueue$Plan", "minutes", "[I", true)
  | 8 => ("MiddleQueue$Plan", "persons", "[I", true)
  | 9 => ("MiddleQueue$Plan", "comers", "[I", true)
  | _ => ("MiddleQueue$Plan", "due", "[I", true)
def tyX2 : Nat → FieldType := fun k => match k with
  | 0 => .int
  | 1 => .array .int
  | 2 => .array .int
  | 3 => .long
  | 4 => .array .int
  | 5 => .int
  | 6 => .array .int
  | 7 => .array .int
  | 8 => .array .int
  | 9 => .array .int
  | _ => .array .int
theorem nmX2 : ∀ a, a < 11 → ∀ b, b < 11 → a ≠ b → (TX2 a).2.1 ≠ (TX2 b).2.1 := by decide +kernel
theorem tyX2_ok : ∀ k, k < 11 → parseFieldDescriptor (TX2 k).2.2.1 = some (tyX2 k) := by decide +kernel
abbrev cX2_init : ByteArray := prog_4_method_1_code
def yX2_init : MethodName := ⟨RX2, "<init>", "()V"⟩
abbrev cX2_readPeople : ByteArray := prog_4_method_2_code
def yX2_readPeople : MethodName := ⟨RX2, "readPeople", "(LMiddleQueue$Text;)V"⟩
abbrev cX2_readWindows : ByteArray := prog_4_method_3_code
def yX2_readWindows : MethodName := ⟨RX2, "readWindows", "(LMiddleQueue$Text;)V"⟩
abbrev cX2_take : ByteArray := prog_4_method_4_code
def yX2_take : MethodName := ⟨RX2, "take", "(LMiddleQueue$Plan;)V"⟩
abbrev cX2_people : ByteArray := prog_4_method_5_code
def yX2_people : MethodName := ⟨RX2, "people", "()I"⟩
abbrev cX2_comingOf : ByteArray := prog_4_method_6_code
def yX2_comingOf : MethodName := ⟨RX2, "comingOf", "(I)I"⟩
abbrev cX2_sortOf : ByteArray := prog_4_method_7_code
def yX2_sortOf : MethodName := ⟨RX2, "sortOf", "(I)I"⟩
abbrev cX2_parcelOf : ByteArray := prog_4_method_8_code
def yX2_parcelOf : MethodName := ⟨RX2, "parcelOf", "(I)I"⟩
abbrev cX2_parcels : ByteArray := prog_4_method_9_code
def yX2_parcels : MethodName := ⟨RX2, "parcels", "()J"⟩
abbrev cX2_openIn : ByteArray := prog_4_method_10_code
def yX2_openIn : MethodName := ⟨RX2, "openIn", "(I)I"⟩
abbrev cX2_comersIn : ByteArray := prog_4_method_11_code
def yX2_comersIn : MethodName := ⟨RX2, "comersIn", "(I)I"⟩
abbrev cX2_dueIn : ByteArray := prog_4_method_12_code
def yX2_dueIn : MethodName := ⟨RX2, "dueIn", "(I)I"⟩
abbrev cX2_setComing : ByteArray := prog_4_method_13_code
def yX2_setComing : MethodName := ⟨RX2, "setComing", "(II)V"⟩
abbrev cX2_setSort : ByteArray := prog_4_method_14_code
def yX2_setSort : MethodName := ⟨RX2, "setSort", "(II)V"⟩
abbrev cX2_setParcel : ByteArray := prog_4_method_15_code
def yX2_setParcel : MethodName := ⟨RX2, "setParcel", "(II)V"⟩
abbrev cX2_setOpen : ByteArray := prog_4_method_16_code
def yX2_setOpen : MethodName := ⟨RX2, "setOpen", "(II)V"⟩
abbrev cX2_events : ByteArray := prog_4_method_17_code
def yX2_events : MethodName := ⟨RX2, "events", "()I"⟩
abbrev cX2_kindOf : ByteArray := prog_4_method_18_code
def yX2_kindOf : MethodName := ⟨RX2, "kindOf", "(I)I"⟩
abbrev cX2_personOf : ByteArray := prog_4_method_19_code
def yX2_personOf : MethodName := ⟨RX2, "personOf", "(I)I"⟩
abbrev cX2_addEvent : ByteArray := prog_4_method_20_code
def yX2_addEvent : MethodName := ⟨RX2, "addEvent", "(III)V"⟩
abbrev cX2_dropEvent : ByteArray := prog_4_method_21_code
def yX2_dropEvent : MethodName := ⟨RX2, "dropEvent", "()Z"⟩
abbrev cX2_dropEvents : ByteArray := prog_4_method_22_code
def yX2_dropEvents : MethodName := ⟨RX2, "dropEvents", "()V"⟩
def RX3 : String := "MiddleQueue$Sheet"
def TX3 : u_T := fun k => match k with
  | 0 => ("MiddleQueue$Sheet", "items", "[I", true)
  | 1 => ("MiddleQueue$Sheet", "form", "I", false)
  | _ => ("MiddleQueue$Sheet", "size", "I", false)
def tyX3 : Nat → FieldType := fun k => match k with
  | 0 => .array .int
  | 1 => .int
  | _ => .int
theorem nmX3 : ∀ a, a < 3 → ∀ b, b < 3 → a ≠ b → (TX3 a).2.1 ≠ (TX3 b).2.1 := by decide +kernel
theorem tyX3_ok : ∀ k, k < 3 → parseFieldDescriptor (TX3 k).2.2.1 = some (tyX3 k) := by decide +kernel
abbrev cX3_init : ByteArray := prog_5_method_1_code
def yX3_init : MethodName := ⟨RX3, "<init>", "()V"⟩
abbrev cX3_isLost : ByteArray := prog_5_method_2_code
def yX3_isLost : MethodName := ⟨RX3, "isLost", "()Z"⟩
abbrev cX3_form : ByteArray := prog_5_method_3_code
def yX3_form : MethodName := ⟨RX3, "form", "()I"⟩
abbrev cX3_size : ByteArray := prog_5_method_4_code
def yX3_size : MethodName := ⟨RX3, "size", "()I"⟩
abbrev cX3_renew : ByteArray := prog_5_method_5_code
def yX3_renew : MethodName := ⟨RX3, "renew", "(II)V"⟩
abbrev cX3_beLost : ByteArray := prog_5_method_6_code
def yX3_beLost : MethodName := ⟨RX3, "beLost", "()V"⟩
abbrev cX3_findingAt : ByteArray := prog_5_method_7_code
def yX3_findingAt : MethodName := ⟨RX3, "findingAt", "(II)I"⟩
abbrev cX3_item : ByteArray := prog_5_method_8_code
def yX3_item : MethodName := ⟨RX3, "item", "(I)I"⟩
abbrev cX3_setItem : ByteArray := prog_5_method_9_code
def yX3_setItem : MethodName := ⟨RX3, "setItem", "(II)V"⟩
abbrev cX3_cut : ByteArray := prog_5_method_10_code
def yX3_cut : MethodName := ⟨RX3, "cut", "(I)I"⟩
abbrev cX3_hasItems : ByteArray := prog_5_method_11_code
def yX3_hasItems : MethodName := ⟨RX3, "hasItems", "(II)Z"⟩
abbrev cX3_takeItems : ByteArray := prog_5_method_12_code
def yX3_takeItems : MethodName := ⟨RX3, "takeItems", "(ILMiddleQueue$Sheet;II)V"⟩
def RX4 : String := "MiddleQueue$Sightings"
def TX4 : u_T := fun k => match k with
  | 0 => ("MiddleQueue$Sightings", "minutes", "[I", true)
  | 1 => ("MiddleQueue$Sightings", "places", "[I", true)
  | 2 => ("MiddleQueue$Sightings", "persons", "[I", true)
  | _ => ("MiddleQueue$Sightings", "size", "I", false)
def tyX4 : Nat → FieldType := fun k => match k with
  | 0 => .array .int
  | 1 => .array .int
  | 2 => .array .int
  | _ => .int
theorem nmX4 : ∀ a, a < 4 → ∀ b, b < 4 → a ≠ b → (TX4 a).2.1 ≠ (TX4 b).2.1 := by decide +kernel
theorem tyX4_ok : ∀ k, k < 4 → parseFieldDescriptor (TX4 k).2.2.1 = some (tyX4 k) := by decide +kernel
abbrev cX4_init : ByteArray := prog_6_method_1_code
def yX4_init : MethodName := ⟨RX4, "<init>", "()V"⟩
abbrev cX4_size : ByteArray := prog_6_method_2_code
def yX4_size : MethodName := ⟨RX4, "size", "()I"⟩
abbrev cX4_add : ByteArray := prog_6_method_3_code
def yX4_add : MethodName := ⟨RX4, "add", "(III)Z"⟩
abbrev cX4_clear : ByteArray := prog_6_method_4_code
def yX4_clear : MethodName := ⟨RX4, "clear", "()V"⟩
abbrev cX4_fit : ByteArray := prog_6_method_5_code
def yX4_fit : MethodName := ⟨RX4, "fit", "(LMiddleQueue$Course;)Z"⟩
def RX5 : String := "MiddleQueue$Text"
def TX5 : u_T := fun k => match k with
  | 0 => ("MiddleQueue$Text", "ofPeople", "Z", true)
  | 1 => ("MiddleQueue$Text", "bytes", "[I", true)
  | _ => ("MiddleQueue$Text", "size", "I", false)
def tyX5 : Nat → FieldType := fun k => match k with
  | 0 => .boolean
  | 1 => .array .int
  | _ => .int
theorem nmX5 : ∀ a, a < 3 → ∀ b, b < 3 → a ≠ b → (TX5 a).2.1 ≠ (TX5 b).2.1 := by decide +kernel
theorem tyX5_ok : ∀ k, k < 3 → parseFieldDescriptor (TX5 k).2.2.1 = some (tyX5 k) := by decide +kernel
abbrev cX5_init : ByteArray := prog_7_method_1_code
def yX5_init : MethodName := ⟨RX5, "<init>", "(ZI)V"⟩
abbrev cX5_size : ByteArray := prog_7_method_2_code
def yX5_size : MethodName := ⟨RX5, "size", "()I"⟩
abbrev cX5_byteAt : ByteArray := prog_7_method_3_code
def yX5_byteAt : MethodName := ⟨RX5, "byteAt", "(I)I"⟩
abbrev cX5_append : ByteArray := prog_7_method_4_code
def yX5_append : MethodName := ⟨RX5, "append", "(I)Z"⟩
abbrev cX5_dropLast : ByteArray := prog_7_method_5_code
def yX5_dropLast : MethodName := ⟨RX5, "dropLast", "()Z"⟩
abbrev cX5_clear : ByteArray := prog_7_method_6_code
def yX5_clear : MethodName := ⟨RX5, "clear", "()V"⟩
abbrev cX5_firstFault : ByteArray := prog_7_method_7_code
def yX5_firstFault : MethodName := ⟨RX5, "firstFault", "()I"⟩
abbrev cX5_whole : ByteArray := prog_7_method_8_code
def yX5_whole : MethodName := ⟨RX5, "whole", "()I"⟩
abbrev cX5_fits : ByteArray := prog_7_method_9_code
def yX5_fits : MethodName := ⟨RX5, "fits", "(I)Z"⟩
abbrev cX5_isEnded : ByteArray := prog_7_method_10_code
def yX5_isEnded : MethodName := ⟨RX5, "isEnded", "()Z"⟩
abbrev cX5_sortBySign : ByteArray := prog_7_method_11_code
def yX5_sortBySign : MethodName := ⟨RX5, "sortBySign", "(I)I"⟩
abbrev cX5_openBySign : ByteArray := prog_7_method_12_code
def yX5_openBySign : MethodName := ⟨RX5, "openBySign", "(I)I"⟩
def RX6 : String := "MiddleQueue"
def TX6 : u_T := fun k => match k with
  | 0 => ("MiddleQueue", "peopleText", "LMiddleQueue$Text;", true)
  | 1 => ("MiddleQueue", "windowsText", "LMiddleQueue$Text;", true)
  | 2 => ("MiddleQueue", "told", "LMiddleQueue$Plan;", true)
  | 3 => ("MiddleQueue", "course", "LMiddleQueue$Course;", true)
  | 4 => ("MiddleQueue", "trial", "LMiddleQueue$Plan;", true)
  | 5 => ("MiddleQueue", "tried", "LMiddleQueue$Course;", true)
  | 6 => ("MiddleQueue", "sightings", "LMiddleQueue$Sightings;", true)
  | 7 => ("MiddleQueue", "sheets", "[LMiddleQueue$Sheet;", true)
  | 8 => ("MiddleQueue", "standings", "[J", true)
  | 9 => ("MiddleQueue", "servedBy", "[I", true)
  | 10 => ("MiddleQueue", "servedKnown", "Z", false)
  | _ => ("MiddleQueue", "latestFinding", "I", false)
def tyX6 : Nat → FieldType := fun k => match k with
  | 0 => .object "MiddleQueue$Text"
  | 1 => .object "MiddleQueue$Text"
  | 2 => .object "MiddleQueue$Plan"
  | 3 => .object "MiddleQueue$Course"
  | 4 => .object "MiddleQueue$Plan"
  | 5 => .object "MiddleQueue$Course"
  | 6 => .object "MiddleQueue$Sightings"
  | 7 => .array (.object "MiddleQueue$Sheet")
  | 8 => .array .long
  | 9 => .array .int
  | 10 => .boolean
  | _ => .int
theorem nmX6 : ∀ a, a < 12 → ∀ b, b < 12 → a ≠ b → (TX6 a).2.1 ≠ (TX6 b).2.1 := by decide +kernel
theorem tyX6_ok : ∀ k, k < 12 → parseFieldDescriptor (TX6 k).2.2.1 = some (tyX6 k) := by decide +kernel
abbrev cX6_init : ByteArray := prog_1_method_1_code
def yX6_init : MethodName := ⟨RX6, "<init>", "()V"⟩
abbrev cX6_type : ByteArray := prog_1_method_2_code
def yX6_type : MethodName := ⟨RX6, "type", "(II)I"⟩
abbrev cX6_wipe : ByteArray := prog_1_method_3_code
def yX6_wipe : MethodName := ⟨RX6, "wipe", "(I)I"⟩
abbrev cX6_undo : ByteArray := prog_1_method_4_code
def yX6_undo : MethodName := ⟨RX6, "undo", "(I)I"⟩
abbrev cX6_fault : ByteArray := prog_1_method_5_code
def yX6_fault : MethodName := ⟨RX6, "fault", "(I)I"⟩
abbrev cX6_person : ByteArray := prog_1_method_6_code
def yX6_person : MethodName := ⟨RX6, "person", "(II)I"⟩
abbrev cX6_window : ByteArray := prog_1_method_7_code
def yX6_window : MethodName := ⟨RX6, "window", "(I)I"⟩
abbrev cX6_event : ByteArray := prog_1_method_8_code
def yX6_event : MethodName := ⟨RX6, "event", "(III)I"⟩
abbrev cX6_back : ByteArray := prog_1_method_9_code
def yX6_back : MethodName := ⟨RX6, "back", "()I"⟩
abbrev cX6_read : ByteArray := prog_1_method_10_code
def yX6_read : MethodName := ⟨RX6, "read", "(I)I"⟩
abbrev cX6_stands : ByteArray := prog_1_method_11_code
def yX6_stands : MethodName := ⟨RX6, "stands", "(II)I"⟩
abbrev cX6_many : ByteArray := prog_1_method_12_code
def yX6_many : MethodName := ⟨RX6, "many", "(I)I"⟩
abbrev cX6_at : ByteArray := prog_1_method_13_code
def yX6_at : MethodName := ⟨RX6, "at", "(III)I"⟩
abbrev cX6_apart : ByteArray := prog_1_method_14_code
def yX6_apart : MethodName := ⟨RX6, "apart", "(III)I"⟩
abbrev cX6_done : ByteArray := prog_1_method_15_code
def yX6_done : MethodName := ⟨RX6, "done", "(II)I"⟩
abbrev cX6_alfred : ByteArray := prog_1_method_16_code
def yX6_alfred : MethodName := ⟨RX6, "alfred", "(I)I"⟩
abbrev cX6_kettle : ByteArray := prog_1_method_17_code
def yX6_kettle : MethodName := ⟨RX6, "kettle", "()I"⟩
abbrev cX6_come : ByteArray := prog_1_method_18_code
def yX6_come : MethodName := ⟨RX6, "come", "(II)I"⟩
abbrev cX6_open : ByteArray := prog_1_method_19_code
def yX6_open : MethodName := ⟨RX6, "open", "(II)I"⟩
abbrev cX6_let : ByteArray := prog_1_method_20_code
def yX6_let : MethodName := ⟨RX6, "let", "(II)I"⟩
abbrev cX6_spare : ByteArray := prog_1_method_21_code
def yX6_spare : MethodName := ⟨RX6, "spare", "(I)I"⟩
abbrev cX6_seen : ByteArray := prog_1_method_22_code
def yX6_seen : MethodName := ⟨RX6, "seen", "(III)I"⟩
abbrev cX6_forget : ByteArray := prog_1_method_23_code
def yX6_forget : MethodName := ⟨RX6, "forget", "()I"⟩
abbrev cX6_never : ByteArray := prog_1_method_24_code
def yX6_never : MethodName := ⟨RX6, "never", "()I"⟩
abbrev cX6_was : ByteArray := prog_1_method_25_code
def yX6_was : MethodName := ⟨RX6, "was", "(II)I"⟩
abbrev cX6_ask : ByteArray := prog_1_method_26_code
def yX6_ask : MethodName := ⟨RX6, "ask", "(I)I"⟩
abbrev cX6_chance : ByteArray := prog_1_method_27_code
def yX6_chance : MethodName := ⟨RX6, "chance", "(III)J"⟩
abbrev cX6_decades : ByteArray := prog_1_method_28_code
def yX6_decades : MethodName := ⟨RX6, "decades", "(III)I"⟩
abbrev cX6_sheet : ByteArray := prog_1_method_29_code
def yX6_sheet : MethodName := ⟨RX6, "sheet", "(III)I"⟩
abbrev cX6_lose : ByteArray := prog_1_method_30_code
def yX6_lose : MethodName := ⟨RX6, "lose", "(I)I"⟩
abbrev cX6_put : ByteArray := prog_1_method_31_code
def yX6_put : MethodName := ⟨RX6, "put", "(IIII)I"⟩
abbrev cX6_get : ByteArray := prog_1_method_32_code
def yX6_get : MethodName := ⟨RX6, "get", "(III)I"⟩
abbrev cX6_copy : ByteArray := prog_1_method_33_code
def yX6_copy : MethodName := ⟨RX6, "copy", "(IIIII)I"⟩
abbrev cX6_write : ByteArray := prog_1_method_34_code
def yX6_write : MethodName := ⟨RX6, "write", "(II)I"⟩
abbrev cX6_count : ByteArray := prog_1_method_35_code
def yX6_count : MethodName := ⟨RX6, "count", "(I)I"⟩
abbrev cX6_digest : ByteArray := prog_1_method_36_code
def yX6_digest : MethodName := ⟨RX6, "digest", "()J"⟩
abbrev cX6_isFrom0To : ByteArray := prog_1_method_37_code
def yX6_isFrom0To : MethodName := ⟨RX6, "isFrom0To", "(II)Z"⟩
abbrev cX6_isMinute : ByteArray := prog_1_method_38_code
def yX6_isMinute : MethodName := ⟨RX6, "isMinute", "(I)Z"⟩
abbrev cX6_isForm : ByteArray := prog_1_method_39_code
def yX6_isForm : MethodName := ⟨RX6, "isForm", "(I)Z"⟩
abbrev cX6_isPerson : ByteArray := prog_1_method_40_code
def yX6_isPerson : MethodName := ⟨RX6, "isPerson", "(I)Z"⟩
abbrev cX6_textOf : ByteArray := prog_1_method_41_code
def yX6_textOf : MethodName := ⟨RX6, "textOf", "(I)LMiddleQueue$Text;"⟩
abbrev cX6_sheetOf : ByteArray := prog_1_method_42_code
def yX6_sheetOf : MethodName := ⟨RX6, "sheetOf", "(I)LMiddleQueue$Sheet;"⟩
abbrev cX6_found : ByteArray := prog_1_method_43_code
def yX6_found : MethodName := ⟨RX6, "found", "(I)I"⟩
abbrev cX6_settle : ByteArray := prog_1_method_44_code
def yX6_settle : MethodName := ⟨RX6, "settle", "()V"⟩
abbrev cX6_happen : ByteArray := prog_1_method_45_code
def yX6_happen : MethodName := ⟨RX6, "happen", "()V"⟩
abbrev cX6_takeEvent : ByteArray := prog_1_method_46_code
def yX6_takeEvent : MethodName := ⟨RX6, "takeEvent", "(III)I"⟩
abbrev cX6_stateOf : ByteArray := prog_1_method_47_code
def yX6_stateOf : MethodName := ⟨RX6, "stateOf", "(II)I"⟩
abbrev cX6_sparedEvents : ByteArray := prog_1_method_48_code
def yX6_sparedEvents : MethodName := ⟨RX6, "sparedEvents", "()I"⟩
abbrev cX6_endsEmptyWithout : ByteArray := prog_1_method_49_code
def yX6_endsEmptyWithout : MethodName := ⟨RX6, "endsEmptyWithout", "(I)Z"⟩
abbrev cX6_nthBit : ByteArray := prog_1_method_50_code
def yX6_nthBit : MethodName := ⟨RX6, "nthBit", "(II)I"⟩
abbrev cX6_fittingSorts : ByteArray := prog_1_method_51_code
def yX6_fittingSorts : MethodName := ⟨RX6, "fittingSorts", "(I)I"⟩
abbrev cX6_fittingParcels : ByteArray := prog_1_method_52_code
def yX6_fittingParcels : MethodName := ⟨RX6, "fittingParcels", "(I)I"⟩
abbrev cX6_keepStanding : ByteArray := prog_1_method_53_code
def yX6_keepStanding : MethodName := ⟨RX6, "keepStanding", "(I)V"⟩
abbrev cX6_standing : ByteArray := prog_1_method_54_code
def yX6_standing : MethodName := ⟨RX6, "standing", "(II)J"⟩
abbrev cX6_mostAlike : ByteArray := prog_1_method_55_code
def yX6_mostAlike : MethodName := ⟨RX6, "mostAlike", "(II)I"⟩
abbrev cX6_learnServed : ByteArray := prog_1_method_56_code
def yX6_learnServed : MethodName := ⟨RX6, "learnServed", "()V"⟩
abbrev cX6_weight : ByteArray := prog_1_method_57_code
def yX6_weight : MethodName := ⟨RX6, "weight", "(III)J"⟩
abbrev cX6_inLowestTerms : ByteArray := prog_1_method_58_code
def yX6_inLowestTerms : MethodName := ⟨RX6, "inLowestTerms", "(JII)J"⟩
abbrev cX6_nextSeed : ByteArray := prog_1_method_59_code
def yX6_nextSeed : MethodName := ⟨RX6, "nextSeed", "(I)I"⟩
abbrev cX6_lot : ByteArray := prog_1_method_60_code
def yX6_lot : MethodName := ⟨RX6, "lot", "(II)I"⟩
abbrev cX6_mixed : ByteArray := prog_1_method_61_code
def yX6_mixed : MethodName := ⟨RX6, "mixed", "(JJ)J"⟩
abbrev cX6_mixedWithDay : ByteArray := prog_1_method_62_code
def yX6_mixedWithDay : MethodName := ⟨RX6, "mixedWithDay", "(JI)J"⟩
abbrev cX6_mixedWithMinute : ByteArray := prog_1_method_63_code
def yX6_mixedWithMinute : MethodName := ⟨RX6, "mixedWithMinute", "(JII)J"⟩
abbrev cX6_mixedWithGuesses : ByteArray := prog_1_method_64_code
def yX6_mixedWithGuesses : MethodName := ⟨RX6, "mixedWithGuesses", "(JI)J"⟩
def RX7 : String := "MiddleQueueModel"
def TX7 : u_T := fun k => match k with
  | 0 => ("MiddleQueueModel", "typed", "[I", true)
  | 1 => ("MiddleQueueModel", "texts", "[I", true)
  | 2 => ("MiddleQueueModel", "people", "I", false)
  | 3 => ("MiddleQueueModel", "comes", "[I", true)
  | 4 => ("MiddleQueueModel", "sorts", "[I", true)
  | 5 => ("MiddleQueueModel", "parcels", "[I", true)
  | 6 => ("MiddleQueueModel", "windows", "I", false)
  | 7 => ("MiddleQueueModel", "windowTold", "[I", true)
  | 8 => ("MiddleQueueModel", "events", "I", false)
  | 9 => ("MiddleQueueModel", "eventKind", "[I", true)
  | 10 => ("MiddleQueueModel", "eventMinute", "[I", true)
  | 11 => ("MiddleQueueModel", "eventPerson", "[I", true)
  | 12 => ("MiddleQueueModel", "eventsNow", "I", false)
  | 13 => ("MiddleQueueModel", "kindNow", "[I", true)
  | 14 => ("MiddleQueueModel", "minuteNow", "[I", true)
  | 15 => ("MiddleQueueModel", "personNow", "[I", true)
  | 16 => ("MiddleQueueModel", "notEvents", "I", false)
  | 17 => ("MiddleQueueModel", "otherMinute", "I", false)
  | 18 => ("MiddleQueueModel", "otherWindow", "I", false)
  | 19 => ("MiddleQueueModel", "size", "I", false)
  | 20 => ("MiddleQueueModel", "queue", "[I", true)
  | 21 => ("MiddleQueueModel", "states", "[I", true)
  | 22 => ("MiddleQueueModel", "lefts", "[I", true)
  | 23 => ("MiddleQueueModel", "doneAt", "[I", true)
  | 24 => ("MiddleQueueModel", "queueAt", "[I", true)
  | 25 => ("MiddleQueueModel", "stateAt", "[I", true)
  | 26 => ("MiddleQueueModel", "leftAt", "[I", true)
  | 27 => ("MiddleQueueModel", "sizeAt", "[I", true)
  | 28 => ("MiddleQueueModel", "planRow", "[I", true)
  | 29 => ("MiddleQueueModel", "seens", "I", false)
  | 30 => ("MiddleQueueModel", "seenMinute", "[I", true)
  | 31 => ("MiddleQueueModel", "seenPlace", "[I", true)
  | 32 => ("MiddleQueueModel", "seenWho", "[I", true)
  | 33 => ("MiddleQueueModel", "rowBy", "[J", true)
  | 34 => ("MiddleQueueModel", "isThere", "[Z", true)
  | 35 => ("MiddleQueueModel", "forms", "[I", true)
  | 36 => ("MiddleQueueModel", "sizes", "[I", true)
  | 37 => ("MiddleQueueModel", "items", "[I", true)
  | 38 => ("MiddleQueueModel", "moved", "[I", true)
  | _ => ("MiddleQueueModel", "finding", "I", false)
def tyX7 : Nat → FieldType := fun k => match k with
  | 0 => .array .int
  | 1 => .array .int
  | 2 => .int
  | 3 => .array .int
  | 4 => .array .int
  | 5 => .array .int
  | 6 => .int
  | 7 => .array .int
  | 8 => .int
  | 9 => .array .int
  | 10 => .array .int
  | 11 => .array .int
  | 12 => .int
  | 13 => .array .int
  | 14 => .array .int
  | 15 => .array .int
  | 16 => .int
  | 17 => .int
  | 18 => .int
  | 19 => .int
  | 20 => .array .int
  | 21 => .array .int
  | 22 => .array .int
  | 23 => .array .int
  | 24 => .array .int
  | 25 => .array .int
  | 26 => .array .int
  | 27 => .array .int
  | 28 => .array .int
  | 29 => .int
  | 30 => .array .int
  | 31 => .array .int
  | 32 => .array .int
  | 33 => .array .long
  | 34 => .array .boolean
  | 35 => .array .int
  | 36 => .array .int
  | 37 => .array .int
  | 38 => .array .int
  | _ => .int
theorem nmX7 : ∀ a, a < 40 → ∀ b, b < 40 → a ≠ b → (TX7 a).2.1 ≠ (TX7 b).2.1 := by decide +kernel
theorem tyX7_ok : ∀ k, k < 40 → parseFieldDescriptor (TX7 k).2.2.1 = some (tyX7 k) := by decide +kernel
abbrev cX7_init : ByteArray := prog_9_method_1_code
def yX7_init : MethodName := ⟨RX7, "<init>", "()V"⟩
abbrev cX7_in : ByteArray := prog_9_method_3_code
def yX7_in : MethodName := ⟨RX7, "in", "(III)Z"⟩
abbrev cX7_isIn : ByteArray := prog_9_method_4_code
def yX7_isIn : MethodName := ⟨RX7, "isIn", "(II)Z"⟩
abbrev cX7_no : ByteArray := prog_9_method_5_code
def yX7_no : MethodName := ⟨RX7, "no", "(I)J"⟩
abbrev cX7_lowest : ByteArray := prog_9_method_6_code
def yX7_lowest : MethodName := ⟨RX7, "lowest", "(JJI)J"⟩
abbrev cX7_isText : ByteArray := prog_9_method_7_code
def yX7_isText : MethodName := ⟨RX7, "isText", "(I)Z"⟩
abbrev cX7_isMinute : ByteArray := prog_9_method_8_code
def yX7_isMinute : MethodName := ⟨RX7, "isMinute", "(I)Z"⟩
abbrev cX7_isTwo : ByteArray := prog_9_method_9_code
def yX7_isTwo : MethodName := ⟨RX7, "isTwo", "(I)Z"⟩
abbrev cX7_isThree : ByteArray := prog_9_method_10_code
def yX7_isThree : MethodName := ⟨RX7, "isThree", "(I)Z"⟩
abbrev cX7_isTwelve : ByteArray := prog_9_method_11_code
def yX7_isTwelve : MethodName := ⟨RX7, "isTwelve", "(I)Z"⟩
abbrev cX7_type : ByteArray := prog_9_method_12_code
def yX7_type : MethodName := ⟨RX7, "type", "(II)I"⟩
abbrev cX7_wipe : ByteArray := prog_9_method_13_code
def yX7_wipe : MethodName := ⟨RX7, "wipe", "(I)I"⟩
abbrev cX7_undo : ByteArray := prog_9_method_14_code
def yX7_undo : MethodName := ⟨RX7, "undo", "(I)I"⟩
abbrev cX7_byteAt : ByteArray := prog_9_method_15_code
def yX7_byteAt : MethodName := ⟨RX7, "byteAt", "(I)I"⟩
abbrev cX7_readsPerson : ByteArray := prog_9_method_16_code
def yX7_readsPerson : MethodName := ⟨RX7, "readsPerson", "(II)I"⟩
abbrev cX7_readsPeople : ByteArray := prog_9_method_17_code
def yX7_readsPeople : MethodName := ⟨RX7, "readsPeople", "()I"⟩
abbrev cX7_openBy : ByteArray := prog_9_method_18_code
def yX7_openBy : MethodName := ⟨RX7, "openBy", "(I)I"⟩
abbrev cX7_readsWindows : ByteArray := prog_9_method_19_code
def yX7_readsWindows : MethodName := ⟨RX7, "readsWindows", "()I"⟩
abbrev cX7_faultOf : ByteArray := prog_9_method_20_code
def yX7_faultOf : MethodName := ⟨RX7, "faultOf", "(I)I"⟩
abbrev cX7_reads : ByteArray := prog_9_method_21_code
def yX7_reads : MethodName := ⟨RX7, "reads", "()V"⟩
abbrev cX7_fault : ByteArray := prog_9_method_22_code
def yX7_fault : MethodName := ⟨RX7, "fault", "(I)I"⟩
abbrev cX7_isPerson : ByteArray := prog_9_method_23_code
def yX7_isPerson : MethodName := ⟨RX7, "isPerson", "(I)Z"⟩
abbrev cX7_personOf : ByteArray := prog_9_method_24_code
def yX7_personOf : MethodName := ⟨RX7, "personOf", "(II)I"⟩
abbrev cX7_person : ByteArray := prog_9_method_25_code
def yX7_person : MethodName := ⟨RX7, "person", "(II)I"⟩
abbrev cX7_windowOf : ByteArray := prog_9_method_26_code
def yX7_windowOf : MethodName := ⟨RX7, "windowOf", "(I)I"⟩
abbrev cX7_window : ByteArray := prog_9_method_27_code
def yX7_window : MethodName := ⟨RX7, "window", "(I)I"⟩
abbrev cX7_event : ByteArray := prog_9_method_28_code
def yX7_event : MethodName := ⟨RX7, "event", "(III)I"⟩
abbrev cX7_back : ByteArray := prog_9_method_29_code
def yX7_back : MethodName := ⟨RX7, "back", "()I"⟩
abbrev cX7_read : ByteArray := prog_9_method_30_code
def yX7_read : MethodName := ⟨RX7, "read", "(I)I"⟩
abbrev cX7_asTold : ByteArray := prog_9_method_31_code
def yX7_asTold : MethodName := ⟨RX7, "asTold", "()V"⟩
abbrev cX7_leaves : ByteArray := prog_9_method_32_code
def yX7_leaves : MethodName := ⟨RX7, "leaves", "(I)V"⟩
abbrev cX7_enters : ByteArray := prog_9_method_33_code
def yX7_enters : MethodName := ⟨RX7, "enters", "(II)V"⟩
abbrev cX7_befalls : ByteArray := prog_9_method_34_code
def yX7_befalls : MethodName := ⟨RX7, "befalls", "(I)V"⟩
abbrev cX7_comesIn : ByteArray := prog_9_method_35_code
def yX7_comesIn : MethodName := ⟨RX7, "comesIn", "(I)V"⟩
abbrev cX7_serves : ByteArray := prog_9_method_36_code
def yX7_serves : MethodName := ⟨RX7, "serves", "(I)V"⟩
abbrev cX7_goesBy : ByteArray := prog_9_method_37_code
def yX7_goesBy : MethodName := ⟨RX7, "goesBy", "(I)V"⟩
abbrev cX7_runs : ByteArray := prog_9_method_38_code
def yX7_runs : MethodName := ⟨RX7, "runs", "()V"⟩
abbrev cX7_runsTold : ByteArray := prog_9_method_39_code
def yX7_runsTold : MethodName := ⟨RX7, "runsTold", "()V"⟩
abbrev cX7_standsOf : ByteArray := prog_9_method_40_code
def yX7_standsOf : MethodName := ⟨RX7, "standsOf", "(II)I"⟩
abbrev cX7_stands : ByteArray := prog_9_method_41_code
def yX7_stands : MethodName := ⟨RX7, "stands", "(II)I"⟩
abbrev cX7_manyOf : ByteArray := prog_9_method_42_code
def yX7_manyOf : MethodName := ⟨RX7, "manyOf", "(I)I"⟩
abbrev cX7_many : ByteArray := prog_9_method_43_code
def yX7_many : MethodName := ⟨RX7, "many", "(I)I"⟩
abbrev cX7_placeAt : ByteArray := prog_9_method_44_code
def yX7_placeAt : MethodName := ⟨RX7, "placeAt", "(II)I"⟩
abbrev cX7_atOf : ByteArray := prog_9_method_45_code
def yX7_atOf : MethodName := ⟨RX7, "atOf", "(III)I"⟩
abbrev cX7_at : ByteArray := prog_9_method_46_code
def yX7_at : MethodName := ⟨RX7, "at", "(III)I"⟩
abbrev cX7_apartOf : ByteArray := prog_9_method_47_code
def yX7_apartOf : MethodName := ⟨RX7, "apartOf", "(III)I"⟩
abbrev cX7_apart : ByteArray := prog_9_method_48_code
def yX7_apart : MethodName := ⟨RX7, "apart", "(III)I"⟩
abbrev cX7_stoodNow : ByteArray := prog_9_method_49_code
def yX7_stoodNow : MethodName := ⟨RX7, "stoodNow", "(I)I"⟩
abbrev cX7_movesNow : ByteArray := prog_9_method_50_code
def yX7_movesNow : MethodName := ⟨RX7, "movesNow", "(I)I"⟩
abbrev cX7_doneOf : ByteArray := prog_9_method_51_code
def yX7_doneOf : MethodName := ⟨RX7, "doneOf", "(II)I"⟩
abbrev cX7_done : ByteArray := prog_9_method_52_code
def yX7_done : MethodName := ⟨RX7, "done", "(II)I"⟩
abbrev cX7_alfredOf : ByteArray := prog_9_method_53_code
def yX7_alfredOf : MethodName := ⟨RX7, "alfredOf", "(I)I"⟩
abbrev cX7_alfred : ByteArray := prog_9_method_54_code
def yX7_alfred : MethodName := ⟨RX7, "alfred", "(I)I"⟩
abbrev cX7_kettleOf : ByteArray := prog_9_method_55_code
def yX7_kettleOf : MethodName := ⟨RX7, "kettleOf", "()I"⟩
abbrev cX7_kettle : ByteArray := prog_9_method_56_code
def yX7_kettle : MethodName := ⟨RX7, "kettle", "()I"⟩
abbrev cX7_servedNow : ByteArray := prog_9_method_57_code
def yX7_servedNow : MethodName := ⟨RX7, "servedNow", "()I"⟩
abbrev cX7_comeOf : ByteArray := prog_9_method_58_code
def yX7_comeOf : MethodName := ⟨RX7, "comeOf", "(II)I"⟩
abbrev cX7_come : ByteArray := prog_9_method_59_code
def yX7_come : MethodName := ⟨RX7, "come", "(II)I"⟩
abbrev cX7_openOf : ByteArray := prog_9_method_60_code
def yX7_openOf : MethodName := ⟨RX7, "openOf", "(II)I"⟩
abbrev cX7_open : ByteArray := prog_9_method_61_code
def yX7_open : MethodName := ⟨RX7, "open", "(II)I"⟩
abbrev cX7_letOf : ByteArray := prog_9_method_62_code
def yX7_letOf : MethodName := ⟨RX7, "letOf", "(II)I"⟩
abbrev cX7_let : ByteArray := prog_9_method_63_code
def yX7_let : MethodName := ⟨RX7, "let", "(II)I"⟩
abbrev cX7_isSpared : ByteArray := prog_9_method_64_code
def yX7_isSpared : MethodName := ⟨RX7, "isSpared", "(I)Z"⟩
abbrev cX7_spareBy : ByteArray := prog_9_method_65_code
def yX7_spareBy : MethodName := ⟨RX7, "spareBy", "()I"⟩
abbrev cX7_ofRow : ByteArray := prog_9_method_66_code
def yX7_ofRow : MethodName := ⟨RX7, "ofRow", "(II)I"⟩
abbrev cX7_spare : ByteArray := prog_9_method_67_code
def yX7_spare : MethodName := ⟨RX7, "spare", "(I)I"⟩
abbrev cX7_seen : ByteArray := prog_9_method_68_code
def yX7_seen : MethodName := ⟨RX7, "seen", "(III)I"⟩
abbrev cX7_forget : ByteArray := prog_9_method_69_code
def yX7_forget : MethodName := ⟨RX7, "forget", "()I"⟩
abbrev cX7_isSeen : ByteArray := prog_9_method_70_code
def yX7_isSeen : MethodName := ⟨RX7, "isSeen", "()Z"⟩
abbrev cX7_neverNow : ByteArray := prog_9_method_71_code
def yX7_neverNow : MethodName := ⟨RX7, "neverNow", "()I"⟩
abbrev cX7_never : ByteArray := prog_9_method_72_code
def yX7_never : MethodName := ⟨RX7, "never", "()I"⟩
abbrev cX7_sortsBy : ByteArray := prog_9_method_73_code
def yX7_sortsBy : MethodName := ⟨RX7, "sortsBy", "(I)I"⟩
abbrev cX7_rowAt : ByteArray := prog_9_method_74_code
def yX7_rowAt : MethodName := ⟨RX7, "rowAt", "(I)J"⟩
abbrev cX7_parcelsBy : ByteArray := prog_9_method_75_code
def yX7_parcelsBy : MethodName := ⟨RX7, "parcelsBy", "(I)I"⟩
abbrev cX7_was : ByteArray := prog_9_method_76_code
def yX7_was : MethodName := ⟨RX7, "was", "(II)I"⟩
abbrev cX7_askOf : ByteArray := prog_9_method_77_code
def yX7_askOf : MethodName := ⟨RX7, "askOf", "(I)I"⟩
abbrev cX7_ask : ByteArray := prog_9_method_78_code
def yX7_ask : MethodName := ⟨RX7, "ask", "(I)I"⟩
abbrev cX7_chanceOf : ByteArray := prog_9_method_79_code
def yX7_chanceOf : MethodName := ⟨RX7, "chanceOf", "(III)J"⟩
abbrev cX7_chance : ByteArray := prog_9_method_80_code
def yX7_chance : MethodName := ⟨RX7, "chance", "(III)J"⟩
abbrev cX7_decadesOf : ByteArray := prog_9_method_81_code
def yX7_decadesOf : MethodName := ⟨RX7, "decadesOf", "(III)I"⟩
abbrev cX7_decades : ByteArray := prog_9_method_82_code
def yX7_decades : MethodName := ⟨RX7, "decades", "(III)I"⟩
abbrev cX7_meets : ByteArray := prog_9_method_83_code
def yX7_meets : MethodName := ⟨RX7, "meets", "(I)I"⟩
abbrev cX7_isSheet : ByteArray := prog_9_method_84_code
def yX7_isSheet : MethodName := ⟨RX7, "isSheet", "(I)Z"⟩
abbrev cX7_sheet : ByteArray := prog_9_method_85_code
def yX7_sheet : MethodName := ⟨RX7, "sheet", "(III)I"⟩
abbrev cX7_lose : ByteArray := prog_9_method_86_code
def yX7_lose : MethodName := ⟨RX7, "lose", "(I)I"⟩
abbrev cX7_lacks : ByteArray := prog_9_method_87_code
def yX7_lacks : MethodName := ⟨RX7, "lacks", "(III)I"⟩
abbrev cX7_keep : ByteArray := prog_9_method_88_code
def yX7_keep : MethodName := ⟨RX7, "keep", "(III)V"⟩
abbrev cX7_put : ByteArray := prog_9_method_89_code
def yX7_put : MethodName := ⟨RX7, "put", "(IIII)I"⟩
abbrev cX7_get : ByteArray := prog_9_method_90_code
def yX7_get : MethodName := ⟨RX7, "get", "(III)I"⟩
abbrev cX7_copy : ByteArray := prog_9_method_91_code
def yX7_copy : MethodName := ⟨RX7, "copy", "(IIIII)I"⟩
abbrev cX7_write : ByteArray := prog_9_method_92_code
def yX7_write : MethodName := ⟨RX7, "write", "(II)I"⟩
abbrev cX7_sumOf : ByteArray := prog_9_method_93_code
def yX7_sumOf : MethodName := ⟨RX7, "sumOf", "(I)I"⟩
abbrev cX7_count : ByteArray := prog_9_method_94_code
def yX7_count : MethodName := ⟨RX7, "count", "(I)I"⟩
abbrev cX7_minuteDigest : ByteArray := prog_9_method_95_code
def yX7_minuteDigest : MethodName := ⟨RX7, "minuteDigest", "(JII)J"⟩
abbrev cX7_personDigest : ByteArray := prog_9_method_96_code
def yX7_personDigest : MethodName := ⟨RX7, "personDigest", "(JI)J"⟩
abbrev cX7_digest : ByteArray := prog_9_method_97_code
def yX7_digest : MethodName := ⟨RX7, "digest", "()J"⟩
def RJ6 : String := "java/lang/Integer"
abbrev cJ6_bitCount_0f7a4 : ByteArray := prog_10_method_49_code
def yJ6_bitCount_0f7a4 : MethodName := ⟨RJ6, "bitCount", "(I)I"⟩
def RJ9 : String := "java/lang/Math"
abbrev cJ9_abs_0f7a4 : ByteArray := prog_11_method_59_code
def yJ9_abs_0f7a4 : MethodName := ⟨RJ9, "abs", "(I)I"⟩
abbrev cJ9_max_7cf53 : ByteArray := prog_11_method_65_code
def yJ9_max_7cf53 : MethodName := ⟨RJ9, "max", "(II)I"⟩
abbrev cJ9_min_7cf53 : ByteArray := prog_11_method_69_code
def yJ9_min_7cf53 : MethodName := ⟨RJ9, "min", "(II)I"⟩
def RJ10 : String := "java/lang/System"
abbrev vwCl : List vw_C := [(RX0, TX0, 5), (RX2, TX2, 11), (RX3, TX3, 3), (RX4, TX4, 4), (RX5, TX5, 3), (RX6, TX6, 12), (RX7, TX7, 40)]

def z_tbl : List Cond := lw_tbl.filter goodWord
theorem z_good {w : Cond} (h : w ∈ z_tbl) : (w.onTables && w.keeps) = true ∨ ∃ ty, w = .arrayClass ty := good_of_word (List.mem_filter.mp h).2
theorem z_in {w : Cond} (h : w ∈ lw_tbl) (g : goodWord w = true) : w ∈ z_tbl := List.mem_filter.mpr ⟨h, g⟩
theorem z_lw {w : Cond} (h : w ∈ z_tbl) : w ∈ lw_tbl := (List.mem_filter.mp h).1
theorem z_ws0 : ∀ w ∈ u_ws RX0 TX0 5, w ∈ z_tbl := by decide +kernel
theorem z_ws2 : ∀ w ∈ u_ws RX2 TX2 11, w ∈ z_tbl := by decide +kernel
theorem z_ws3 : ∀ w ∈ u_ws RX3 TX3 3, w ∈ z_tbl := by decide +kernel
theorem z_ws4 : ∀ w ∈ u_ws RX4 TX4 4, w ∈ z_tbl := by decide +kernel
theorem z_ws5 : ∀ w ∈ u_ws RX5 TX5 3, w ∈ z_tbl := by decide +kernel
theorem z_ws6 : ∀ w ∈ u_ws RX6 TX6 12, w ∈ z_tbl := by decide +kernel
theorem z_ws7 : ∀ w ∈ u_ws RX7 TX7 40, w ∈ z_tbl := by decide +kernel
end
section
/-! The abstract layer: values, world, V: what a method does from a place on, whatever the machine's own parts are. -/
abbrev VV : Type := Int ⊕ (Int64 ⊕ Option (Nat × Nat))
abbrev vZ (z : Int) : VV := .inl z
abbrev vL (x : Int64) : VV := .inr (.inl x)
abbrev vR (c k : Nat) : VV := .inr (.inr (some (c, k)))
abbrev vN : VV := .inr (.inr none)
abbrev zSt : Type := (Nat → Int → Int) × (Nat → Int → Int64)
def tv (ad : Nat → Nat) : VV → Value
  | .inl z => .int (Int32.ofInt z)
  | .inr (.inl x) => .long x
  | .inr (.inr none) => .null
  | .inr (.inr (some q)) => .ref (ad q.2)
def uI (σ : zSt) (k : Nat) (j v : Int) : zSt := (fun a b => if a = k ∧ b = j then v else σ.1 a b, σ.2)
def uL (σ : zSt) (k : Nat) (j : Int) (v : Int64) : zSt := (σ.1, fun a b => if a = k ∧ b = j then v else σ.2 a b)
abbrev zr (a : Int) : Prop := -2147483648 ≤ a ∧ a < 2147483648
/-- the fields of a class, by its number in vwCl: (0, 0) int, (0, 1) boolean, (0, 2) a final boolean, (1, 0) long, (n + 2, c) a reference to the cell n further on, of kind c. Kinds: a class' number; 8 int rows, 9 long rows, 10 boolean rows, 11 rows of Sheets -/
def zfk : Nat → List (Nat × Nat)
  | 0 => [(3, 9), (4, 9), (0, 0), (1, 0), (1, 0)]
  | 1 => [(0, 0), (3, 8), (4, 8), (1, 0), (5, 8), (0, 0), (6, 8), (7, 8), (8, 8), (9, 8), (10, 8)]
  | 2 => [(3, 8), (0, 0), (0, 0)]
  | 3 => [(3, 8), (4, 8), (5, 8), (0, 0)]
  | 4 => [(0, 2), (3, 8), (0, 0)]
  | 5 => [(3, 4), (5, 4), (7, 1), (25, 0), (16, 1), (28, 0), (31, 3), (35, 11), (44, 9), (45, 8), (0, 1), (0, 0)]
  | 6 => [(3, 8), (4, 8), (0, 0), (5, 8), (6, 8), (7, 8), (0, 0), (8, 8), (0, 0), (9, 8), (10, 8), (11, 8), (0, 0), (12, 8), (13, 8), (14, 8), (0, 0), (0, 0), (0, 0), (0, 0), (15, 8), (16, 8), (17, 8), (18, 8), (19, 8), (20, 8), (21, 8), (22, 8), (23, 8), (0, 0), (24, 8), (25, 8), (26, 8), (27, 9), (28, 10), (29, 8), (30, 8), (31, 8), (32, 8), (0, 0)]
  | _ => []
/-- the kinds of the cells -/
def shL : List Nat := [5, 4, 8, 4, 8, 1, 8, 8, 8, 8, 8, 8, 8, 8, 1, 8, 8, 8, 8, 8, 8, 8, 8, 0, 9, 9, 0, 9, 9, 3, 8, 8, 8, 11, 2, 8, 2, 8, 2, 8, 2, 8, 9, 8, 6, 8, 8, 8, 8, 8, 8, 8, 8, 8, 8, 8, 8, 8, 8, 8, 8, 8, 8, 8, 8, 8, 8, 8, 8, 9, 10, 8, 8, 8, 8]
def shG (k : Nat) : Nat := shL.getD k 12
/-- the lengths of the cells that are rows -/
def zlL : List Int := [0, 0, 47, 0, 24, 0, 12, 12, 24, 9, 9, 9, 24, 24, 0, 12, 12, 24, 9, 9, 9, 24, 24, 0, 24, 24, 0, 24, 24, 0, 8, 8, 8, 4, 0, 60, 0, 60, 0, 60, 0, 60, 216, 256, 0, 2, 94, 13, 13, 13, 24, 9, 9, 9, 9, 9, 9, 13, 12, 12, 12, 288, 288, 288, 24, 2, 8, 8, 8, 240, 4, 4, 4, 240, 60]
def zlen (k : Nat) : Int := zlL.getD k 0
abbrev zFD : Type := va_G × Nat × (Nat → Nat) × (Nat → ClassId)
def zcf (ad : Nat → Nat) (σ : zSt) (k j : Nat) (q : Nat × Nat) : Value := match q.1 with
  | 0 => .int (Int32.ofInt (σ.1 k j))
  | 1 => .long (σ.2 k j)
  | n + 2 => .ref (ad (k + n))
def zce (ad : Nat → Nat) (tc : Nat → ClassId) (σ : zSt) (k c : Nat) : va_E := match c with
  | 8 => .inl (tc 0, (zlen k).toNat, .inl (fun j => Int32.ofInt (σ.1 k j)))
  | 9 => .inl (tc 1, (zlen k).toNat, .inr (.inl (fun j => σ.2 k j)))
  | 10 => .inl (tc 2, (zlen k).toNat, .inl (fun j => Int32.ofInt (σ.1 k j)))
  | 11 => .inl (tc 3, (zlen k).toNat, .inr (.inr (.inr (.inr (fun j => some (ad (k + 1 + 2 * j)))))))
  | c => .inr (c, (zfk c).mapIdx (fun j q => zcf ad σ k j q))
def zwl (G : zFD) (σ : zSt) : va_W := (List.range G.2.1).map (fun k => (G.2.2.1 k, zce G.2.2.1 G.2.2.2 σ k (shG k)))
def zty (G : zFD) : List (ClassId × FieldType) := [(G.2.2.2 0, .int), (G.2.2.2 1, .long), (G.2.2.2 2, .boolean), (G.2.2.2 3, .object "MiddleQueue$Sheet")]
def zwt (G : zFD) : VV → Prop
  | .inr (.inr (some q)) => q.2 < G.2.1 ∧ shG q.2 = q.1
  | _ => True
def zwts (G : zFD) (st : List VV) : Prop := ∀ v ∈ st, zwt G v
def zwtl (G : zFD) (L : List (Option VV)) : Prop := ∀ v, some v ∈ L → zwt G v
/-- a method: its name, its bytes, how many locals, what it answers, whose class it is (a number), its instructions with their targets -/
abbrev MI : Type := MethodName × ByteArray × Nat × Option FieldType × Nat × (Nat → Option (Instr × Nat))
def zown : Nat → String
  | 0 => RX0
  | 1 => RX1
  | 2 => RX2
  | 3 => RX3
  | 4 => RX4
  | 5 => RX5
  | 6 => RX6
  | 7 => RX7
  | _ => RJ6
def Cx (d : Nat) (Y : MI) (p : Program) (R : Room) (s : State) (m : MethodId) (args : Array Value) (meth : Method) (c : Code) (G : zFD) (A : Nat → Prop) : Prop :=
  p.tables.exec = Jvm.exec ∧ c.code = Y.2.1 ∧ c.maxLocals = Y.2.2.1 ∧ s.vm.findClass (zown Y.2.2.2.2.1) = some m.cls ∧ meth.sig.returnType = Y.2.2.2.1 ∧ meth.locks = false ∧ (∀ w ∈ z_tbl, w.before args s = true) ∧ (d ≤ R.frames ∧ 32 * d ≤ R.locals) ∧ va_K G.1 vwCl (zty G) s ∧ (G.2.1 = 44 ∨ G.2.1 = 75) ∧ ∀ q : Nat, s.heap.size ≤ q → A q
def zlm (ad : Nat → Nat) : Nat → List (Option VV) → List (Nat × Value)
  | _, [] => []
  | i, none :: t => zlm ad (i + 1) t
  | i, some v :: t => (i, tv ad v) :: zlm ad (i + 1) t
def zQ (post : Option VV → zSt → Prop) (G : zFD) (A : Nat → Prop) : Array Value → State → Outcome → State → Prop := fun _ st oc t =>
  (∃ (v : Option VV) (σ' : zSt), oc = .returned (v.map (tv G.2.2.1)) ∧ post v σ' ∧ (∀ w, v = some w → zwt G w) ∧ va_P G.1 vwCl (zwl G σ') t.heap ∧ va_D A (zwl G σ')) ∧ va_F A st t
def zV (l : Launch) (p : Program) (e : Env) (R : Room) (s : State) (m : MethodId) (args : Array Value) (below : List Frame) (meth : Method) (c : Code) (G : zFD) (A : Nat → Prop) (Y : MI) (post : Option VV → zSt → Prop) (pc : Nat) (L : List (Option VV)) (st : List VV) (σ : zSt) : Prop :=
  ∀ (H : Heap) (locs : List Loc) (ls : Array Slot), va_P G.1 vwCl (zwl G σ) H → va_D A (zwl G σ) → va_S A s.heap H locs → lv_has ls Y.2.2.1 (zlm G.2.2.1 0 L) → L.length = Y.2.2.1 → zwtl G L → zwts G st →
    W p l e R s m args below meth c H locs 0 0 (MQ below (zQ post G A) args s 0 0 A) (F0 m pc ls (st.map (tv G.2.2.1)))
def V (d : Nat) (Y : MI) (pc : Nat) (L : List (Option VV)) (st : List VV) (σ : zSt) (post : Option VV → zSt → Prop) : Prop :=
  ∀ (l : Launch) (p : Program) (e : Env) (R : Room) (s : State) (m : MethodId) (args : Array Value) (below : List Frame) (meth : Method) (c : Code) (G : zFD) (A : Nat → Prop), Cx d Y p R s m args meth c G A → zV l p e R s m args below meth c G A Y post pc L st σ
/-! locals -/
theorem zlm_mem {ad : Nat → Nat} {x : Nat × Value} : ∀ {L : List (Option VV)} {i : Nat}, x ∈ zlm ad i L ↔ ∃ (j : Nat) (v : VV), L[j]? = some (some v) ∧ x = (i + j, tv ad v)
  | [], i => by simp [zlm]
  | none :: t, i => by
    rw [zlm, zlm_mem (L := t)]
    constructor
    · rintro ⟨j, v, h, rfl⟩
      exact ⟨j + 1, v, h, by rw [show i + 1 + j = i + (j + 1) by omega]⟩
    · rintro ⟨j, v, h, rfl⟩
      cases j with
      | zero => simp at h
      | succ j => exact ⟨j, v, h, by rw [show i + 1 + j = i + (j + 1) by omega]⟩
  | some w :: t, i => by
    rw [zlm, List.mem_cons, zlm_mem (L := t)]
    constructor
    · rintro (rfl | ⟨j, v, h, rfl⟩)
      · exact ⟨0, w, rfl, rfl⟩
      · exact ⟨j + 1, v, h, by rw [show i + 1 + j = i + (j + 1) by omega]⟩
    · rintro ⟨j, v, h, rfl⟩
      cases j with
      | zero => simp at h; subst h; exact Or.inl rfl
      | succ j => exact Or.inr ⟨j, v, h, by rw [show i + 1 + j = i + (j + 1) by omega]⟩
theorem zl_at {ad : Nat → Nat} {ls : Array Slot} {n : Nat} {L : List (Option VV)} (h : lv_has ls n (zlm ad 0 L)) {i : Nat} {v : VV} (hi : L[i]? = some (some v)) : ls[i]? = some (.val (tv ad v)) := by
  have := h.2.2 (i, tv ad v) (zlm_mem.mpr ⟨i, v, hi, by rw [Nat.zero_add]⟩)
  exact this
/-- a long ahead of a place is lost when something is put there -/
def zlc1 (L : List (Option VV)) (j : Nat) (o : Option (Option VV)) : List (Option VV) := match o with
  | some (some (.inr (.inl _))) => L.set j none
  | _ => L
def zlclr (L : List (Option VV)) (i : Nat) : List (Option VV) := match i with
  | 0 => L
  | j + 1 => zlc1 L j L[j]?
def zlput (L : List (Option VV)) (i : Nat) (v : VV) : List (Option VV) := (zlclr L i).set i (some v)
def zlput2 (L : List (Option VV)) (i : Nat) (v : VV) : List (Option VV) := ((zlclr L i).set i (some v)).set (i + 1) none
theorem zlc1_len (L : List (Option VV)) (j : Nat) (o : Option (Option VV)) : (zlc1 L j o).length = L.length := by
  unfold zlc1; split
  · rw [List.length_set]
  · rfl
theorem zlclr_len (L : List (Option VV)) (i : Nat) : (zlclr L i).length = L.length := by
  cases i with
  | zero => rfl
  | succ j => exact zlc1_len L j _
theorem tv_cat2 {ad : Nat → Nat} {v : VV} : (tv ad v).category = 2 ↔ ∃ x, v = .inr (.inl x) := by
  rcases v with z | x | _ | q <;> simp [tv, Value.category]
theorem zlclr_get {L : List (Option VV)} {i j : Nat} {w : VV} (h : (zlclr L i)[j]? = some (some w)) : L[j]? = some (some w) ∧ ¬ (j + 1 = i ∧ ∃ x, w = .inr (.inl x)) := by
  cases i with
  | zero => exact ⟨h, fun q => by omega⟩
  | succ k =>
    replace h : (zlc1 L k L[k]?)[j]? = some (some w) := h
    unfold zlc1 at h
    split at h
    · rename_i x hx
      by_cases hj : j = k
      · subst hj
        have hlt : j < L.length := (List.getElem?_eq_some_iff.mp hx).1
        rw [List.getElem?_set_self hlt] at h
        simp at h
      · rw [List.getElem?_set_ne (Ne.symm hj)] at h
        exact ⟨h, fun q => hj (by omega)⟩
    · rename_i hx
      refine ⟨h, fun q => ?_⟩
      obtain ⟨q1, x, rfl⟩ := q
      have hjk : j = k := by omega
      subst hjk
      exact hx x h
theorem zl_put {ad : Nat → Nat} {n : Nat} {L : List (Option VV)} {i : Nat} {v : VV} {ls' : Array Slot} (hc : lv_has ls' n ((i, tv ad v) :: (zlm ad 0 L).filter (fun q => !(q.1 == i) && !(q.1 + 1 == i && q.2.category == 2)))) : lv_has ls' n (zlm ad 0 (zlput L i v)) := by
  refine ⟨hc.1, hc.2.1, fun q hq => hc.2.2 q ?_⟩
  obtain ⟨j, w, hj, rfl⟩ := zlm_mem.mp hq
  rw [Nat.zero_add]
  by_cases hji : j = i
  · subst hji
    unfold zlput at hj
    have hlt := (List.getElem?_eq_some_iff.mp hj).1
    rw [List.length_set] at hlt
    rw [List.getElem?_set_self hlt] at hj
    cases hj
    exact List.mem_cons_self
  · unfold zlput at hj
    rw [List.getElem?_set_ne (Ne.symm hji)] at hj
    obtain ⟨h1, h2⟩ := zlclr_get hj
    refine List.mem_cons_of_mem _ (List.mem_filter.mpr ⟨zlm_mem.mpr ⟨j, w, h1, by rw [Nat.zero_add]⟩, ?_⟩)
    have e1 : (j == i) = false := by simpa using hji
    have e2 : (j + 1 == i && (tv ad w).category == 2) = false := by
      rw [Bool.and_eq_false_iff]
      by_cases hk : j + 1 = i
      · exact Or.inr (by simpa using fun hcat => h2 ⟨hk, tv_cat2.mp hcat⟩)
      · exact Or.inl (by simpa using hk)
    simp only [e1, e2]
    rfl
theorem zl_put2 {ad : Nat → Nat} {n : Nat} {L : List (Option VV)} {i : Nat} {v : VV} {ls' : Array Slot} (hc : lv_has ls' n ((i, tv ad v) :: (zlm ad 0 L).filter (fun q => !(q.1 == i) && (!(q.1 == i + 1) && !(q.1 + 1 == i && q.2.category == 2))))) : lv_has ls' n (zlm ad 0 (zlput2 L i v)) := by
  refine ⟨hc.1, hc.2.1, fun q hq => hc.2.2 q ?_⟩
  obtain ⟨j, w, hj, rfl⟩ := zlm_mem.mp hq
  rw [Nat.zero_add]
  unfold zlput2 at hj
  by_cases hj1 : j = i + 1
  · subst hj1
    have hlt := (List.getElem?_eq_some_iff.mp hj).1
    rw [List.length_set] at hlt
    rw [List.getElem?_set_self hlt] at hj
    simp at hj
  · rw [List.getElem?_set_ne (Ne.symm hj1)] at hj
    by_cases hji : j = i
    · subst hji
      have hlt := (List.getElem?_eq_some_iff.mp hj).1
      rw [List.length_set] at hlt
      rw [List.getElem?_set_self hlt] at hj
      cases hj
      exact List.mem_cons_self
    · rw [List.getElem?_set_ne (Ne.symm hji)] at hj
      obtain ⟨h1, h2⟩ := zlclr_get hj
      refine List.mem_cons_of_mem _ (List.mem_filter.mpr ⟨zlm_mem.mpr ⟨j, w, h1, by rw [Nat.zero_add]⟩, ?_⟩)
      have e1 : (j == i) = false := by simpa using hji
      have e3 : (j == i + 1) = false := by simpa using hj1
      have e2 : (j + 1 == i && (tv ad w).category == 2) = false := by
        rw [Bool.and_eq_false_iff]
        by_cases hk : j + 1 = i
        · exact Or.inr (by simpa using fun hcat => h2 ⟨hk, tv_cat2.mp hcat⟩)
        · exact Or.inl (by simpa using hk)
      simp only [e1, e2, e3]
      rfl
theorem zwtl_clr {G : zFD} {L : List (Option VV)} (h : zwtl G L) (i : Nat) : zwtl G (zlclr L i) := by
  intro v hv
  obtain ⟨j, hj⟩ := List.getElem?_of_mem hv
  exact h v (List.mem_of_getElem? (zlclr_get hj).1)
theorem zwtl_put {G : zFD} {L : List (Option VV)} (h : zwtl G L) (i : Nat) {v : VV} (hv : zwt G v) : zwtl G (zlput L i v) := by
  intro w hw
  rcases List.mem_or_eq_of_mem_set hw with h1 | h1
  · exact zwtl_clr h i w h1
  · cases h1; exact hv
theorem zwtl_put2 {G : zFD} {L : List (Option VV)} (h : zwtl G L) (i : Nat) {v : VV} (hv : zwt G v) : zwtl G (zlput2 L i v) := by
  intro w hw
  rcases List.mem_or_eq_of_mem_set hw with h1 | h1
  · exact zwtl_put h i hv w h1
  · cases h1
/-! the world's cells -/
theorem zwl_get {G : zFD} {σ : zSt} {k : Nat} (hk : k < G.2.1) : (zwl G σ)[k]? = some (G.2.2.1 k, zce G.2.2.1 G.2.2.2 σ k (shG k)) := by
  simp [zwl, hk]
theorem zwl_set {G : zFD} {σ σ' : zSt} {k : Nat} {e : va_E} (he : zce G.2.2.1 G.2.2.2 σ' k (shG k) = e) (ho : ∀ q, q ≠ k → zce G.2.2.1 G.2.2.2 σ' q (shG q) = zce G.2.2.1 G.2.2.2 σ q (shG q)) : (zwl G σ).set k (G.2.2.1 k, e) = zwl G σ' := by
  apply List.ext_getElem?
  intro i
  by_cases hi : i = k
  · subst hi
    by_cases hl : i < G.2.1
    · rw [List.getElem?_set_self (by simpa [zwl] using hl), zwl_get hl, he]
    · rw [List.getElem?_eq_none (by simp [zwl]; omega), List.getElem?_eq_none (by simp [zwl]; omega)]
  · rw [List.getElem?_set_ne (Ne.symm hi)]
    by_cases hl : i < G.2.1
    · rw [zwl_get hl, zwl_get hl, ho i hi]
    · rw [List.getElem?_eq_none (by simp [zwl]; omega), List.getElem?_eq_none (by simp [zwl]; omega)]
theorem zcf_eq {ad : Nat → Nat} {σ σ' : zSt} {k : Nat} (h1 : ∀ b, σ'.1 k b = σ.1 k b) (h2 : ∀ b, σ'.2 k b = σ.2 k b) (j : Nat) (q : Nat × Nat) : zcf ad σ' k j q = zcf ad σ k j q := by
  unfold zcf
  split
  · rw [h1]
  · rw [h2]
  · rfl
theorem zce_eq {ad : Nat → Nat} {tc : Nat → ClassId} {σ σ' : zSt} {q c : Nat} (h1 : ∀ b, σ'.1 q b = σ.1 q b) (h2 : ∀ b, σ'.2 q b = σ.2 q b) : zce ad tc σ' q c = zce ad tc σ q c := by
  unfold zce
  split
  · simp only [h1]
  · simp only [h2]
  · simp only [h1]
  · rfl
  · have e : (fun j q' => zcf ad σ' q j q') = (fun j q' => zcf ad σ q j q') := by
      funext j q'
      exact zcf_eq h1 h2 j q'
    rw [e]
theorem zce_uI {ad : Nat → Nat} {tc : Nat → ClassId} {σ : zSt} {k q c : Nat} {j v : Int} (h : q ≠ k) : zce ad tc (uI σ k j v) q c = zce ad tc σ q c :=
  zce_eq (fun _ => if_neg (fun z => h z.1)) (fun _ => rfl)
theorem zce_uL {ad : Nat → Nat} {tc : Nat → ClassId} {σ : zSt} {k q c : Nat} {j : Int} {v : Int64} (h : q ≠ k) : zce ad tc (uL σ k j v) q c = zce ad tc σ q c :=
  zce_eq (fun _ => rfl) (fun _ => if_neg (fun z => h z.1))
end
section
/-! fields and constants by their numbers in the own class (a number) -/
def zgl : Nat → List (Nat × Nat × Nat)
  | 0 => [(9, 0, 0), (15, 0, 1), (24, 0, 2), (27, 0, 3), (35, 0, 4)]
  | 2 => [(9, 1, 1), (15, 1, 2), (18, 1, 4), (21, 1, 6), (24, 1, 7), (27, 1, 8), (30, 1, 9), (33, 1, 10), (36, 1, 3), (52, 1, 0), (76, 1, 5)]
  | 3 => [(9, 2, 0), (15, 2, 1), (19, 2, 2)]
  | 4 => [(9, 3, 0), (15, 3, 1), (18, 3, 2), (21, 3, 3)]
  | 5 => [(9, 4, 0), (21, 4, 1), (25, 4, 2)]
  | 6 => [(14, 5, 0), (18, 5, 1), (24, 5, 2), (31, 5, 3), (35, 5, 4), (38, 5, 5), (44, 5, 6), (50, 5, 7), (54, 5, 8), (58, 5, 9), (285, 5, 11), (345, 5, 10)]
  | 7 => [(7, 6, 0), (13, 6, 1), (16, 6, 3), (19, 6, 4), (22, 6, 5), (25, 6, 7), (28, 6, 9), (31, 6, 10), (34, 6, 11), (37, 6, 13), (40, 6, 14), (43, 6, 15), (46, 6, 20), (49, 6, 21), (52, 6, 22), (55, 6, 23), (58, 6, 24), (61, 6, 25), (64, 6, 26), (67, 6, 27), (70, 6, 28), (73, 6, 30), (76, 6, 31), (79, 6, 32), (82, 6, 33), (86, 6, 34), (90, 6, 35), (93, 6, 36), (96, 6, 37), (99, 6, 38), (119, 6, 2), (127, 6, 6), (161, 6, 8), (174, 6, 12), (177, 6, 16), (180, 6, 17), (183, 6, 18), (186, 6, 19), (276, 6, 29), (316, 6, 39)]
  | _ => []
def zll : Nat → List (Nat × Int64)
  | 1 => [(9, 15), (11, -1)]
  | 6 => [(231, -9223372036854775806), (289, 17), (376, 2), (379, 31)]
  | 7 => [(102, -9223372036854775808), (286, 16), (330, 31), (336, 17)]
  | _ => []
def zil : Nat → List (Nat × Int)
  | 6 => [(268, -2147483648), (378, 1103515245)]
  | 7 => [(312, 1103515245), (326, -2147483648)]
  | 8 => [(265, 1431655765), (266, 858993459), (267, 252645135)]
  | _ => []
def zgi {α : Type} (i : Nat) : List (Nat × α) → Option α
  | [] => none
  | q :: t => bif Nat.beq i q.1 then some q.2 else zgi i t
theorem zgi_mem {α : Type} {i : Nat} {x : α} : ∀ {l : List (Nat × α)}, zgi i l = some x → (i, x) ∈ l
  | [], h => by cases h
  | q :: t, h => by
    unfold zgi at h
    cases hb : Nat.beq i q.1 with
    | true =>
      rw [hb] at h
      have e : i = q.1 := Nat.eq_of_beq_eq_true hb
      have h : some q.2 = some x := h
      cases h
      rw [e]
      exact List.mem_cons_self
    | false =>
      rw [hb] at h
      exact List.mem_cons_of_mem _ (zgi_mem h)
def zgchk (w : Nat) (e : Nat × Nat × Nat) : Bool := match vwCl[e.2.1]? with
  | some (C, T, N) => Nat.blt e.2.2 N && decide (Cond.fieldLink (zown w) e.1 (T e.2.2).1 (T e.2.2).2.1 (T e.2.2).2.2.1 ∈ z_tbl)
  | none => false
theorem zgl_ok0 : (zgl 0).all (zgchk 0) = true := by decide +kernel
theorem zgl_ok2 : (zgl 2).all (zgchk 2) = true := by decide +kernel
theorem zgl_ok3 : (zgl 3).all (zgchk 3) = true := by decide +kernel
theorem zgl_ok4 : (zgl 4).all (zgchk 4) = true := by decide +kernel
theorem zgl_ok5 : (zgl 5).all (zgchk 5) = true := by decide +kernel
theorem zgl_ok6 : (zgl 6).all (zgchk 6) = true := by decide +kernel
theorem zgl_ok7 : (zgl 7).all (zgchk 7) = true := by decide +kernel
theorem zgl_ok {w i ci j : Nat} (h : zgi i (zgl w) = some (ci, j)) : ∃ C T N, vwCl[ci]? = some (C, T, N) ∧ j < N ∧ Cond.fieldLink (zown w) i (T j).1 (T j).2.1 (T j).2.2.1 ∈ z_tbl := by
  have hm := zgi_mem h
  have key : zgchk w (i, ci, j) = true := by
    match w, hm with
    | 0, hm => exact List.all_eq_true.mp zgl_ok0 _ hm
    | 2, hm => exact List.all_eq_true.mp zgl_ok2 _ hm
    | 3, hm => exact List.all_eq_true.mp zgl_ok3 _ hm
    | 4, hm => exact List.all_eq_true.mp zgl_ok4 _ hm
    | 5, hm => exact List.all_eq_true.mp zgl_ok5 _ hm
    | 6, hm => exact List.all_eq_true.mp zgl_ok6 _ hm
    | 7, hm => exact List.all_eq_true.mp zgl_ok7 _ hm
    | 1, hm => exact absurd hm List.not_mem_nil
    | n + 8, hm => exact absurd hm List.not_mem_nil
  unfold zgchk at key
  split at key
  · rename_i C T N hq
    rw [Bool.and_eq_true, decide_eq_true_eq] at key
    exact ⟨C, T, N, hq, Nat.blt_eq.mp key.1, key.2⟩
  · cases key
def zpty : Nat × Nat → FieldType → Bool
  | (0, 0), .int => true
  | (0, 1), .boolean => true
  | (0, 2), .boolean => true
  | (1, _), .long => true
  | (_ + 2, _), _ => true
  | _, _ => false
def zfchk (ci : Nat) : Bool := match vwCl[ci]? with
  | some (_, T, N) => Nat.beq (zfk ci).length N && (List.range N).all (fun j => match (zfk ci)[j]?, parseFieldDescriptor (T j).2.2.1 with
    | some q, some ty => zpty q ty && (match q with
      | (0, 2) => true
      | (0, _) => !(T j).2.2.2
      | (1, _) => !(T j).2.2.2
      | _ => true)
    | _, _ => false)
  | none => true
theorem zfchk_ok : (List.range 8).all zfchk = true := by decide +kernel
theorem zcl_ok {ci : Nat} {C : String} {T : u_T} {N : Nat} (h : vwCl[ci]? = some (C, T, N)) : ci < 8 ∧ (∀ w ∈ u_ws C T N, w ∈ z_tbl) ∧ (∃ ty0 : Nat → FieldType, ∀ k, k < N → parseFieldDescriptor (T k).2.2.1 = some (ty0 k)) ∧ (∀ a, a < N → ∀ b, b < N → a ≠ b → (T a).2.1 ≠ (T b).2.1) ∧ (zfk ci).length = N ∧ ∀ j x y, (zfk ci)[j]? = some (x, y) → ∃ ty, parseFieldDescriptor (T j).2.2.1 = some ty ∧ zpty (x, y) ty = true ∧ ((x = 0 ∧ y ≠ 2) ∨ x = 1 → (T j).2.2.2 = false) := by
  have hc : ci < 8 := by
    have := (List.getElem?_eq_some_iff.mp h).1
    simp [vwCl] at this
    omega
  have hz : zfchk ci = true := List.all_eq_true.mp zfchk_ok ci (List.mem_range.mpr hc)
  unfold zfchk at hz
  rw [h] at hz
  simp only [Bool.and_eq_true] at hz
  obtain ⟨hz1, hz2⟩ := hz
  have hlen : (zfk ci).length = N := Nat.eq_of_beq_eq_true hz1
  refine ⟨hc, ?_, ?_, ?_, hlen, ?_⟩
  · match ci, h with
    | 0, h => cases h; exact z_ws0
    | 1, h => cases h; exact z_ws2
    | 2, h => cases h; exact z_ws3
    | 3, h => cases h; exact z_ws4
    | 4, h => cases h; exact z_ws5
    | 5, h => cases h; exact z_ws6
    | 6, h => cases h; exact z_ws7
    | n + 7, h => simp [vwCl] at h
  · match ci, h with
    | 0, h => cases h; exact ⟨_, tyX0_ok⟩
    | 1, h => cases h; exact ⟨_, tyX2_ok⟩
    | 2, h => cases h; exact ⟨_, tyX3_ok⟩
    | 3, h => cases h; exact ⟨_, tyX4_ok⟩
    | 4, h => cases h; exact ⟨_, tyX5_ok⟩
    | 5, h => cases h; exact ⟨_, tyX6_ok⟩
    | 6, h => cases h; exact ⟨_, tyX7_ok⟩
    | n + 7, h => simp [vwCl] at h
  · match ci, h with
    | 0, h => cases h; exact nmX0
    | 1, h => cases h; exact nmX2
    | 2, h => cases h; exact nmX3
    | 3, h => cases h; exact nmX4
    | 4, h => cases h; exact nmX5
    | 5, h => cases h; exact nmX6
    | 6, h => cases h; exact nmX7
    | n + 7, h => simp [vwCl] at h
  · intro j x y hj
    have hjN : j < N := by rw [← hlen]; exact (List.getElem?_eq_some_iff.mp hj).1
    have h1 := List.all_eq_true.mp hz2 j (List.mem_range.mpr hjN)
    rw [hj] at h1
    cases hp : parseFieldDescriptor (T j).2.2.1 with
    | none => rw [hp] at h1; cases h1
    | some ty =>
      rw [hp] at h1
      simp only [Bool.and_eq_true] at h1
      refine ⟨ty, rfl, h1.1, fun hx => ?_⟩
      have h2 := h1.2
      rcases hx with ⟨rfl, hy⟩ | rfl
      · match y, hy, h2 with
        | 0, _, h2 => simpa using h2
        | 1, _, h2 => simpa using h2
        | n + 3, _, h2 => simpa using h2
      · simpa using h2
def zllchk (w : Nat) (e : Nat × Int64) : Bool := decide (Cond.constantLong (zown w) e.1 e.2 ∈ z_tbl)
theorem zll_ok1 : (zll 1).all (zllchk 1) = true := by decide +kernel
theorem zll_ok6 : (zll 6).all (zllchk 6) = true := by decide +kernel
theorem zll_ok7 : (zll 7).all (zllchk 7) = true := by decide +kernel
theorem zll_ok {w i : Nat} {v : Int64} (h : zgi i (zll w) = some v) : Cond.constantLong (zown w) i v ∈ z_tbl := by
  have hm := zgi_mem h
  have key : zllchk w (i, v) = true := by
    match w, hm with
    | 0, hm => exact absurd hm List.not_mem_nil
    | 1, hm => exact List.all_eq_true.mp zll_ok1 _ hm
    | 2, hm => exact absurd hm List.not_mem_nil
    | 3, hm => exact absurd hm List.not_mem_nil
    | 4, hm => exact absurd hm List.not_mem_nil
    | 5, hm => exact absurd hm List.not_mem_nil
    | 6, hm => exact List.all_eq_true.mp zll_ok6 _ hm
    | 7, hm => exact List.all_eq_true.mp zll_ok7 _ hm
    | 8, hm => exact absurd hm List.not_mem_nil
    | n + 9, hm => exact absurd hm List.not_mem_nil
  exact of_decide_eq_true key
def zilchk (w : Nat) (e : Nat × Int) : Bool := decide (Cond.constant (zown w) e.1 (Int32.ofInt e.2) ∈ z_tbl)
theorem zil_ok6 : (zil 6).all (zilchk 6) = true := by decide +kernel
theorem zil_ok7 : (zil 7).all (zilchk 7) = true := by decide +kernel
theorem zil_ok8 : (zil 8).all (zilchk 8) = true := by decide +kernel
theorem zil_ok {w i : Nat} {v : Int} (h : zgi i (zil w) = some v) : Cond.constant (zown w) i (Int32.ofInt v) ∈ z_tbl := by
  have hm := zgi_mem h
  have key : zilchk w (i, v) = true := by
    match w, hm with
    | 0, hm => exact absurd hm List.not_mem_nil
    | 1, hm => exact absurd hm List.not_mem_nil
    | 2, hm => exact absurd hm List.not_mem_nil
    | 3, hm => exact absurd hm List.not_mem_nil
    | 4, hm => exact absurd hm List.not_mem_nil
    | 5, hm => exact absurd hm List.not_mem_nil
    | 6, hm => exact List.all_eq_true.mp zil_ok6 _ hm
    | 7, hm => exact List.all_eq_true.mp zil_ok7 _ hm
    | 8, hm => exact List.all_eq_true.mp zil_ok8 _ hm
    | n + 9, hm => exact absurd hm List.not_mem_nil
  exact of_decide_eq_true key
/-! a world's references lead to cells of the kind that is said -/
theorem z_closedB : (List.range 75).all (fun k => (zfk (shG k)).all (fun q => Nat.blt q.1 2 || (Nat.blt (k + (q.1 - 2)) 75 && ((!Nat.blt k 44) || Nat.blt (k + (q.1 - 2)) 44) && Nat.beq (shG (k + (q.1 - 2))) q.2))) = true := by decide +kernel
theorem z_closed {G : zFD} (hG : G.2.1 = 44 ∨ G.2.1 = 75) {k ci j n c : Nat} (hk : k < G.2.1) (hs : shG k = ci) (hj : (zfk ci)[j]? = some (n + 2, c)) : k + n < G.2.1 ∧ shG (k + n) = c := by
  subst hs
  have hk75 : k < 75 := by omega
  have h1 := List.all_eq_true.mp z_closedB k (List.mem_range.mpr hk75)
  have h2 := List.all_eq_true.mp h1 _ (List.mem_of_getElem? hj)
  have e1 : Nat.blt (n + 2) 2 = false := by
    cases hq : Nat.blt (n + 2) 2 with
    | false => rfl
    | true => have := Nat.blt_eq.mp hq; omega
  simp only [e1, Bool.false_or, Bool.and_eq_true, Nat.add_sub_cancel] at h2
  obtain ⟨⟨h3, h4⟩, h5⟩ := h2
  have h6 : shG (k + n) = c := Nat.eq_of_beq_eq_true h5
  have h7 : k + n < 75 := Nat.blt_eq.mp h3
  refine ⟨?_, h6⟩
  rcases hG with e | e
  · rw [e] at hk ⊢
    rcases Bool.or_eq_true_iff.mp h4 with h8 | h8
    · rw [Nat.blt_eq.mpr hk] at h8; cases h8
    · exact Nat.blt_eq.mp h8
  · rw [e]; exact h7
theorem z_k11B : (List.range 75).all (fun k => (!Nat.beq (shG k) 11) || Nat.beq k 33) = true := by decide +kernel
theorem z_k11 {G : zFD} (hG : G.2.1 = 44 ∨ G.2.1 = 75) {k : Nat} (hk : k < G.2.1) (hs : shG k = 11) : k = 33 := by
  have hk75 : k < 75 := by omega
  have h1 := List.all_eq_true.mp z_k11B k (List.mem_range.mpr hk75)
  rw [hs] at h1
  exact Nat.eq_of_beq_eq_true (by simpa using h1)
theorem z_lenB : (List.range 75).all (fun k => decide (0 ≤ zlen k ∧ zlen k < 2000)) = true := by decide +kernel
theorem z_len {G : zFD} (hG : G.2.1 = 44 ∨ G.2.1 = 75) {k : Nat} (hk : k < G.2.1) : 0 ≤ zlen k ∧ zlen k < 2000 := by
  have hk75 : k < 75 := by omega
  exact of_decide_eq_true (List.all_eq_true.mp z_lenB k (List.mem_range.mpr hk75))
end
section
/-! one step of the abstract layer, and why it holds -/
theorem zi_to {a : Int} (h : zr a) : (Int32.ofInt a).toInt = a := Int32.toInt_ofInt_of_le (by have := h.1; omega) (by have := h.2; omega)
theorem zi_lt {a b : Int} (ha : zr a) (hb : zr b) : Int32.ofInt a < Int32.ofInt b ↔ a < b := by rw [Int32.lt_iff_toInt_lt, zi_to ha, zi_to hb]
theorem zi_le {a b : Int} (ha : zr a) (hb : zr b) : Int32.ofInt a ≤ Int32.ofInt b ↔ a ≤ b := by rw [Int32.le_iff_toInt_le, zi_to ha, zi_to hb]
theorem zi_eq {a b : Int} (ha : zr a) (hb : zr b) : Int32.ofInt a = Int32.ofInt b ↔ a = b := by rw [← Int32.toInt_inj, zi_to ha, zi_to hb]
theorem zi_0 : (0 : Int32) = Int32.ofInt 0 := rfl
theorem zi_nI (n : Nat) : Int32.ofInt (n : Int) = nI n := by
  apply Int32.toBitVec.inj
  simp [nI]
theorem zi_of {a : Int} (h : 0 ≤ a) : ∃ n : Nat, a = (n : Int) := ⟨a.toNat, (Int.toNat_of_nonneg h).symm⟩
theorem zi_div {a b : Int} (h0 : 0 ≤ a) (ha : a < 2147483648) (h1 : 0 < b) (hb : b < 2147483648) : Int32.ofInt a / Int32.ofInt b = Int32.ofInt (a / b) := by
  obtain ⟨n, rfl⟩ := zi_of h0
  obtain ⟨k, rfl⟩ := zi_of (by omega : 0 ≤ b)
  rw [zi_nI, zi_nI, pk_div (by omega) (by omega) (by omega), ← Int.natCast_ediv, zi_nI]
theorem zi_rem {a b : Int} (h0 : 0 ≤ a) (ha : a < 2147483648) (h1 : 0 < b) (hb : b < 2147483648) : Int32.ofInt a - Int32.ofInt a / Int32.ofInt b * Int32.ofInt b = Int32.ofInt (a % b) := by
  rw [zi_div h0 ha h1 hb, ← Int32.ofInt_mul, ← Int32.ofInt_sub, Int.emod_def, Int.mul_comm]
def zand (a b : Int) : Int := (Int32.ofInt a &&& Int32.ofInt b).toInt
def zor (a b : Int) : Int := (Int32.ofInt a ||| Int32.ofInt b).toInt
def zxor (a b : Int) : Int := (Int32.ofInt a ^^^ Int32.ofInt b).toInt
def zshl (a b : Int) : Int := (Int32.ofInt a <<< (Int32.ofInt b &&& 31)).toInt
def zshr (a b : Int) : Int := (Int32.ofInt a >>> (Int32.ofInt b &&& 31)).toInt
def zushr (a b : Int) : Int := (((Int32.ofInt a).toUInt32 >>> ((Int32.ofInt b).toUInt32 &&& Int32.toUInt32 31)).toInt32).toInt
def zi2l (a : Int) : Int64 := (Int32.ofInt a).toInt64
def zl2i (x : Int64) : Int := x.toInt32.toInt
def zi2b (a : Int) : Int := (Int32.ofInt a).toInt8.toInt32.toInt
def zi2s (a : Int) : Int := (Int32.ofInt a).toInt16.toInt32.toInt
def zlshl (x : Int64) (a : Int) : Int64 := x <<< ((Int32.ofInt a).toInt64 &&& 63)
def zlushr (x : Int64) (a : Int) : Int64 := (x.toUInt64 >>> ((Int32.ofInt a).toInt64.toUInt64 &&& Int64.toUInt64 63)).toInt64
def zlcmp (x y : Int64) : Int := (lg_cmp x y).toInt
def zcmp : Jvm.ClassFile.Cond → Int → Int → Prop
  | .eq, a, b => a = b
  | .ne, a, b => ¬ a = b
  | .lt, a, b => a < b
  | .ge, a, b => b ≤ a
  | .gt, a, b => b < a
  | .le, a, b => a ≤ b
def zncmp : Jvm.ClassFile.Cond → Int → Int → Prop
  | .eq, a, b => ¬ a = b
  | .ne, a, b => a = b
  | .lt, a, b => b ≤ a
  | .ge, a, b => a < b
  | .gt, a, b => a ≤ b
  | .le, a, b => b < a
def zp1 (st : List VV) (f : Int → List VV → Prop) : Prop := match st with
  | .inl a :: r => f a r
  | _ => False
def zp2 (st : List VV) (f : Int → Int → List VV → Prop) : Prop := match st with
  | .inl b :: .inl a :: r => f a b r
  | _ => False
def zpL1 (st : List VV) (f : Int64 → List VV → Prop) : Prop := match st with
  | .inr (.inl a) :: r => f a r
  | _ => False
def zpL2 (st : List VV) (f : Int64 → Int64 → List VV → Prop) : Prop := match st with
  | .inr (.inl b) :: .inr (.inl a) :: r => f a b r
  | _ => False
def zpLI (st : List VV) (f : Int64 → Int → List VV → Prop) : Prop := match st with
  | .inl b :: .inr (.inl a) :: r => f a b r
  | _ => False
def zpQ (st : List VV) (f : Option (Nat × Nat) → List VV → Prop) : Prop := match st with
  | .inr (.inr q) :: r => f q r
  | _ => False
def zpR (st : List VV) (f : Nat → Nat → List VV → Prop) : Prop := match st with
  | .inr (.inr (some (c, k))) :: r => f c k r
  | _ => False
def zpIR (st : List VV) (f : Int → Nat → Nat → List VV → Prop) : Prop := match st with
  | .inl i :: .inr (.inr (some (c, k))) :: r => f i c k r
  | _ => False
def zpVR (st : List VV) (f : VV → Nat → Nat → List VV → Prop) : Prop := match st with
  | v :: .inr (.inr (some (c, k))) :: r => f v c k r
  | _ => False
def zpVIR (st : List VV) (f : VV → Int → Nat → Nat → List VV → Prop) : Prop := match st with
  | v :: .inl i :: .inr (.inr (some (c, k))) :: r => f v i c k r
  | _ => False
def zld (L : List (Option VV)) (i : Nat) (f : VV → Prop) : Prop := match L[i]? with
  | some (some v) => f v
  | _ => False
def zvI (v : VV) (f : Int → Prop) : Prop := match v with
  | .inl z => f z
  | _ => False
def zvL (v : VV) (f : Int64 → Prop) : Prop := match v with
  | .inr (.inl z) => f z
  | _ => False
def zvQ (v : VV) (f : Option (Nat × Nat) → Prop) : Prop := match v with
  | .inr (.inr z) => f z
  | _ => False
def zbr (ds : List Nat) (tk nt : Prop) (kt kn : List Nat → Prop) : Prop := match ds with
  | [] => False
  | 0 :: ds => nt ∧ kn ds
  | _ :: ds => tk ∧ kt ds
def zop {α : Type} (o : Option α) (f : α → Prop) : Prop := match o with
  | some x => f x
  | none => False
def zif (b : Bool) (P : Prop) : Prop := match b with
  | true => P
  | false => False
def zfld (q : Nat × Nat) (fi fl : Prop) (fr : Nat → Nat → Prop) : Prop := match q.1 with
  | 0 => fi
  | 1 => fl
  | n + 2 => fr n q.2
def zput (q : Nat × Nat) (v : VV) (fi fb : Int → Prop) (fl : Int64 → Prop) : Prop := match q with
  | (0, 0) => zvI v fi
  | (0, 1) => zvI v fb
  | (1, _) => zvL v fl
  | _ => False
abbrev zK : Type := List Nat → Nat → List (Option VV) → List VV → zSt → Prop
def st1 (w : Nat) (i : Instr) (t : Nat) (ds : List Nat) (pc : Nat) (L : List (Option VV)) (st : List VV) (σ : zSt) (K : zK) : Prop := match i with
  | .aconst_null => K ds (pc + 1) L (vN :: st) σ
  | .iconst z => K ds (pc + 1) L (vZ z :: st) σ
  | .bipush z => zif (Nat.blt z.natAbs 128) (K ds (pc + 2) L (vZ z :: st) σ)
  | .sipush z => zif (Nat.blt z.natAbs 32768) (K ds (pc + 3) L (vZ z :: st) σ)
  | .lconst z => K ds (pc + 1) L (vL (Int64.ofNat z.val) :: st) σ
  | .ldc x => zop (zgi x (zil w)) fun v => K ds (pc + 2) L (vZ v :: st) σ
  | .ldc_w x => zop (zgi x (zil w)) fun v => K ds (pc + 3) L (vZ v :: st) σ
  | .ldc2_w x => zop (zgi x (zll w)) fun v => K ds (pc + 3) L (vL v :: st) σ
  | .iload_n k => zld L k.val fun v => zvI v fun z => K ds (pc + 1) L (vZ z :: st) σ
  | .iload k => zld L k fun v => zvI v fun z => K ds (pc + 2) L (vZ z :: st) σ
  | .lload_n k => zld L k.val fun v => zvL v fun z => K ds (pc + 1) L (vL z :: st) σ
  | .lload k => zld L k fun v => zvL v fun z => K ds (pc + 2) L (vL z :: st) σ
  | .aload_n k => zld L k.val fun v => zvQ v fun z => K ds (pc + 1) L (.inr (.inr z) :: st) σ
  | .aload k => zld L k fun v => zvQ v fun z => K ds (pc + 2) L (.inr (.inr z) :: st) σ
  | .istore_n k => zif (Nat.blt k.val L.length) (zp1 st fun z r => K ds (pc + 1) (zlput L k.val (vZ z)) r σ)
  | .istore k => zif (Nat.blt k L.length) (zp1 st fun z r => K ds (pc + 2) (zlput L k (vZ z)) r σ)
  | .lstore_n k => zif (Nat.blt (k.val + 1) L.length) (zpL1 st fun z r => K ds (pc + 1) (zlput2 L k.val (vL z)) r σ)
  | .lstore k => zif (Nat.blt (k + 1) L.length) (zpL1 st fun z r => K ds (pc + 2) (zlput2 L k (vL z)) r σ)
  | .astore_n k => zif (Nat.blt k.val L.length) (zpQ st fun z r => K ds (pc + 1) (zlput L k.val (.inr (.inr z))) r σ)
  | .astore k => zif (Nat.blt k L.length) (zpQ st fun z r => K ds (pc + 2) (zlput L k (.inr (.inr z))) r σ)
  | .iinc k n => zif (Nat.blt k L.length) (zld L k fun v => zvI v fun z => K ds (pc + 3) (zlput L k (vZ (z + n))) st σ)
  | .dup => zpQ st (fun q r => K ds (pc + 1) L (.inr (.inr q) :: .inr (.inr q) :: r) σ)
  | .dup2 => zpIR st (fun i c k r => K ds (pc + 1) L (vZ i :: vR c k :: vZ i :: vR c k :: r) σ)
  | .pop => zp1 st (fun _ r => K ds (pc + 1) L r σ)
  | .iadd => zp2 st fun a b r => K ds (pc + 1) L (vZ (a + b) :: r) σ
  | .isub => zp2 st fun a b r => K ds (pc + 1) L (vZ (a - b) :: r) σ
  | .imul => zp2 st fun a b r => K ds (pc + 1) L (vZ (a * b) :: r) σ
  | .idiv => zp2 st fun a b r => (0 ≤ a ∧ a < 2147483648 ∧ 0 < b ∧ b < 2147483648) ∧ K ds (pc + 1) L (vZ (a / b) :: r) σ
  | .irem => zp2 st fun a b r => (0 ≤ a ∧ a < 2147483648 ∧ 0 < b ∧ b < 2147483648) ∧ K ds (pc + 1) L (vZ (a % b) :: r) σ
  | .iand => zp2 st fun a b r => K ds (pc + 1) L (vZ (zand a b) :: r) σ
  | .ior => zp2 st fun a b r => K ds (pc + 1) L (vZ (zor a b) :: r) σ
  | .ixor => zp2 st fun a b r => K ds (pc + 1) L (vZ (zxor a b) :: r) σ
  | .ishl => zp2 st fun a b r => K ds (pc + 1) L (vZ (zshl a b) :: r) σ
  | .ishr => zp2 st fun a b r => K ds (pc + 1) L (vZ (zshr a b) :: r) σ
  | .iushr => zp2 st fun a b r => K ds (pc + 1) L (vZ (zushr a b) :: r) σ
  | .i2l => zp1 st fun a r => K ds (pc + 1) L (vL (zi2l a) :: r) σ
  | .l2i => zpL1 st fun a r => K ds (pc + 1) L (vZ (zl2i a) :: r) σ
  | .i2b => zp1 st fun a r => K ds (pc + 1) L (vZ (zi2b a) :: r) σ
  | .i2s => zp1 st fun a r => K ds (pc + 1) L (vZ (zi2s a) :: r) σ
  | .ladd => zpL2 st fun a b r => K ds (pc + 1) L (vL (a + b) :: r) σ
  | .lsub => zpL2 st fun a b r => K ds (pc + 1) L (vL (a - b) :: r) σ
  | .lmul => zpL2 st fun a b r => K ds (pc + 1) L (vL (a * b) :: r) σ
  | .land => zpL2 st fun a b r => K ds (pc + 1) L (vL (a &&& b) :: r) σ
  | .lor => zpL2 st fun a b r => K ds (pc + 1) L (vL (a ||| b) :: r) σ
  | .lxor => zpL2 st fun a b r => K ds (pc + 1) L (vL (a ^^^ b) :: r) σ
  | .ldiv => zpL2 st fun a b r => (¬ b = 0) ∧ K ds (pc + 1) L (vL (a / b) :: r) σ
  | .lrem => zpL2 st fun a b r => (¬ b = 0) ∧ K ds (pc + 1) L (vL (a - a / b * b) :: r) σ
  | .lshl => zpLI st fun a b r => K ds (pc + 1) L (vL (zlshl a b) :: r) σ
  | .lushr => zpLI st fun a b r => K ds (pc + 1) L (vL (zlushr a b) :: r) σ
  | .lcmp => zpL2 st fun a b r => K ds (pc + 1) L (vZ (zlcmp a b) :: r) σ
  | .goto _ => K ds t L st σ
  | .ifCond c _ => zp1 st fun a r => zbr ds (zr a ∧ zcmp c a 0) (zr a ∧ zncmp c a 0) (fun ds => K ds t L r σ) (fun ds => K ds (pc + 3) L r σ)
  | .if_icmp c _ => zp2 st fun a b r => zbr ds (zr a ∧ zr b ∧ zcmp c a b) (zr a ∧ zr b ∧ zncmp c a b) (fun ds => K ds t L r σ) (fun ds => K ds (pc + 3) L r σ)
  | .ifnull _ => zpQ st fun q r => match q with
    | none => K ds t L r σ
    | some _ => K ds (pc + 3) L r σ
  | .ifnonnull _ => zpQ st fun q r => match q with
    | none => K ds (pc + 3) L r σ
    | some _ => K ds t L r σ
  | .getfield x => zpR st fun c k r => zop (zgi x (zgl w)) fun e => zif (Nat.beq e.1 c) (zop (zfk e.1)[e.2]? fun q => zfld q (K ds (pc + 3) L (vZ (σ.1 k e.2) :: r) σ) (K ds (pc + 3) L (vL (σ.2 k e.2) :: r) σ) (fun n c' => K ds (pc + 3) L (vR c' (k + n) :: r) σ))
  | .putfield x => zpVR st fun v c k r => zop (zgi x (zgl w)) fun e => zif (Nat.beq e.1 c) (zop (zfk e.1)[e.2]? fun q => zput q v (fun z => K ds (pc + 3) L r (uI σ k e.2 z)) (fun z => (z = 0 ∨ z = 1) ∧ K ds (pc + 3) L r (uI σ k e.2 z)) (fun z => K ds (pc + 3) L r (uL σ k e.2 z)))
  | .arraylength => zpR st fun c k r => zif (Nat.ble 8 c && Nat.ble c 11) (K ds (pc + 1) L (vZ (zlen k) :: r) σ)
  | .iaload => zpIR st fun i c k r => zif (Nat.beq c 8) ((0 ≤ i ∧ i < zlen k) ∧ K ds (pc + 1) L (vZ (σ.1 k i) :: r) σ)
  | .laload => zpIR st fun i c k r => zif (Nat.beq c 9) ((0 ≤ i ∧ i < zlen k) ∧ K ds (pc + 1) L (vL (σ.2 k i) :: r) σ)
  | .baload => zpIR st fun i c k r => zif (Nat.beq c 10) ((0 ≤ i ∧ i < zlen k) ∧ K ds (pc + 1) L (vZ (σ.1 k i) :: r) σ)
  | .aaload => zpIR st fun i c k r => zif (Nat.beq c 11) ((0 ≤ i ∧ i < zlen k) ∧ K ds (pc + 1) L (vR 2 (k + 1 + 2 * i.toNat) :: r) σ)
  | .iastore => zpVIR st fun v i c k r => zif (Nat.beq c 8) (zvI v fun z => (0 ≤ i ∧ i < zlen k) ∧ K ds (pc + 1) L r (uI σ k i z))
  | .bastore => zpVIR st fun v i c k r => zif (Nat.beq c 10) (zvI v fun z => (0 ≤ i ∧ i < zlen k ∧ (z = 0 ∨ z = 1)) ∧ K ds (pc + 1) L r (uI σ k i z))
  | .lastore => zpVIR st fun v i c k r => zif (Nat.beq c 9) (zvL v fun z => (0 ≤ i ∧ i < zlen k) ∧ K ds (pc + 1) L r (uL σ k i z))
  | _ => False
/-! what the views say -/
theorem zp1_i {st : List VV} {f : Int → List VV → Prop} (h : zp1 st f) : ∃ a r, st = vZ a :: r ∧ f a r := by
  unfold zp1 at h; split at h
  · exact ⟨_, _, rfl, h⟩
  · exact h.elim
theorem zp2_i {st : List VV} {f : Int → Int → List VV → Prop} (h : zp2 st f) : ∃ a b r, st = vZ b :: vZ a :: r ∧ f a b r := by
  unfold zp2 at h; split at h
  · exact ⟨_, _, _, rfl, h⟩
  · exact h.elim
theorem zpL1_i {st : List VV} {f : Int64 → List VV → Prop} (h : zpL1 st f) : ∃ a r, st = vL a :: r ∧ f a r := by
  unfold zpL1 at h; split at h
  · exact ⟨_, _, rfl, h⟩
  · exact h.elim
theorem zpL2_i {st : List VV} {f : Int64 → Int64 → List VV → Prop} (h : zpL2 st f) : ∃ a b r, st = vL b :: vL a :: r ∧ f a b r := by
  unfold zpL2 at h; split at h
  · exact ⟨_, _, _, rfl, h⟩
  · exact h.elim
theorem zpLI_i {st : List VV} {f : Int64 → Int → List VV → Prop} (h : zpLI st f) : ∃ a b r, st = vZ b :: vL a :: r ∧ f a b r := by
  unfold zpLI at h; split at h
  · exact ⟨_, _, _, rfl, h⟩
  · exact h.elim
theorem zpQ_i {st : List VV} {f : Option (Nat × Nat) → List VV → Prop} (h : zpQ st f) : ∃ q r, st = .inr (.inr q) :: r ∧ f q r := by
  unfold zpQ at h; split at h
  · exact ⟨_, _, rfl, h⟩
  · exact h.elim
theorem zpR_i {st : List VV} {f : Nat → Nat → List VV → Prop} (h : zpR st f) : ∃ c k r, st = vR c k :: r ∧ f c k r := by
  unfold zpR at h; split at h
  · exact ⟨_, _, _, rfl, h⟩
  · exact h.elim
theorem zpIR_i {st : List VV} {f : Int → Nat → Nat → List VV → Prop} (h : zpIR st f) : ∃ i c k r, st = vZ i :: vR c k :: r ∧ f i c k r := by
  unfold zpIR at h; split at h
  · exact ⟨_, _, _, _, rfl, h⟩
  · exact h.elim
theorem zpVR_i {st : List VV} {f : VV → Nat → Nat → List VV → Prop} (h : zpVR st f) : ∃ v c k r, st = v :: vR c k :: r ∧ f v c k r := by
  unfold zpVR at h; split at h
  · exact ⟨_, _, _, _, rfl, h⟩
  · exact h.elim
theorem zpVIR_i {st : List VV} {f : VV → Int → Nat → Nat → List VV → Prop} (h : zpVIR st f) : ∃ v i c k r, st = v :: vZ i :: vR c k :: r ∧ f v i c k r := by
  unfold zpVIR at h; split at h
  · exact ⟨_, _, _, _, _, rfl, h⟩
  · exact h.elim
theorem zld_i {L : List (Option VV)} {i : Nat} {f : VV → Prop} (h : zld L i f) : ∃ v, L[i]? = some (some v) ∧ f v := by
  unfold zld at h; split at h
  · exact ⟨_, by assumption, h⟩
  · exact h.elim
theorem zvI_i {v : VV} {f : Int → Prop} (h : zvI v f) : ∃ z, v = vZ z ∧ f z := by
  unfold zvI at h; split at h
  · exact ⟨_, rfl, h⟩
  · exact h.elim
theorem zvL_i {v : VV} {f : Int64 → Prop} (h : zvL v f) : ∃ z, v = vL z ∧ f z := by
  unfold zvL at h; split at h
  · exact ⟨_, rfl, h⟩
  · exact h.elim
theorem zvQ_i {v : VV} {f : Option (Nat × Nat) → Prop} (h : zvQ v f) : ∃ z, v = .inr (.inr z) ∧ f z := by
  unfold zvQ at h; split at h
  · exact ⟨_, rfl, h⟩
  · exact h.elim
theorem zop_i {α : Type} {o : Option α} {f : α → Prop} (h : zop o f) : ∃ x, o = some x ∧ f x := by
  unfold zop at h; split at h
  · exact ⟨_, rfl, h⟩
  · exact h.elim
theorem zif_i {b : Bool} {P : Prop} (h : zif b P) : b = true ∧ P := by
  unfold zif at h; split at h
  · exact ⟨rfl, h⟩
  · exact h.elim
theorem zbr_i {ds : List Nat} {tk nt : Prop} {kt kn : List Nat → Prop} (h : zbr ds tk nt kt kn) : (tk ∧ ∃ ds, kt ds) ∨ (nt ∧ ∃ ds, kn ds) := by
  unfold zbr at h; split at h
  · exact h.elim
  · exact Or.inr ⟨h.1, _, h.2⟩
  · exact Or.inl ⟨h.1, _, h.2⟩
end
section
/-! one step of the abstract layer is a step of the machine -/
def zsz (i : Instr) (t : Nat) : Nat := match i with
  | .iload _ => 2
  | .lload _ => 2
  | .aload _ => 2
  | .istore _ => 2
  | .lstore _ => 2
  | .astore _ => 2
  | .bipush _ => 2
  | .ldc _ => 2
  | .sipush _ => 3
  | .ldc_w _ => 3
  | .ldc2_w _ => 3
  | .iinc _ _ => 3
  | .goto _ => 3
  | .ifCond _ _ => 3
  | .if_icmp _ _ => 3
  | .ifnull _ => 3
  | .ifnonnull _ => 3
  | .getfield _ => 3
  | .putfield _ => 3
  | .invokevirtual _ => 3
  | .invokespecial _ => 3
  | .invokestatic _ => 3
  | .tableswitch _ _ _ _ => t
  | .lookupswitch _ _ => t
  | _ => 1
def zto (pc : Nat) (i : Instr) (t : Nat) : Bool := match i with
  | .goto o => decide ((pc : Int) + o = (t : Int))
  | .ifCond _ o => decide ((pc : Int) + o = (t : Int))
  | .if_icmp _ o => decide ((pc : Int) + o = (t : Int))
  | .ifnull o => decide ((pc : Int) + o = (t : Int))
  | .ifnonnull o => decide ((pc : Int) + o = (t : Int))
  | _ => true
theorem zw_c {G : zFD} {v : VV} {r : List VV} (hv : zwt G v) (hr : zwts G r) : zwts G (v :: r) := fun w hw => by
  rcases List.mem_cons.mp hw with rfl | h
  · exact hv
  · exact hr w h
theorem zw_t {G : zFD} {v : VV} {r : List VV} (h : zwts G (v :: r)) : zwts G r := fun w hw => h w (List.mem_cons_of_mem _ hw)
theorem zw_h {G : zFD} {v : VV} {r : List VV} (h : zwts G (v :: r)) : zwt G v := h v List.mem_cons_self
theorem z_b8 {n : Int} (h : Nat.blt n.natAbs 128 = true) : (Int8.ofInt n).toInt32 = Int32.ofInt n := by
  have h := Nat.blt_eq.mp h
  apply Int32.toInt_inj.mp
  rw [Int8.toInt_toInt32, Int8.toInt_ofInt_of_le (by omega) (by omega), zi_to ⟨by omega, by omega⟩]
theorem z_b16 {n : Int} (h : Nat.blt n.natAbs 32768 = true) : (Int16.ofInt n).toInt32 = Int32.ofInt n := by
  have h := Nat.blt_eq.mp h
  apply Int32.toInt_inj.mp
  rw [Int16.toInt_toInt32, Int16.toInt_ofInt_of_le (by omega) (by omega), zi_to ⟨by omega, by omega⟩]
theorem z_ix {G : zFD} (hG : G.2.1 = 44 ∨ G.2.1 = 75) {k : Nat} (hk : k < G.2.1) {i : Int} (h : 0 ≤ i ∧ i < zlen k) : vp_in (Int32.ofInt i) (zlen k).toNat ∧ (Int32.ofInt i).toNatClampNeg = i.toNat := by
  have h1 := z_len hG hk
  have hz : zr i := ⟨by omega, by omega⟩
  have e : (Int32.ofInt i).toNatClampNeg = i.toNat := Int32.toNatClampNeg_ofInt_of_le (by omega) (by omega)
  exact ⟨vp_in_iff.mpr ⟨by rw [zi_to hz]; exact h.1, by rw [zi_to hz]; omega⟩, e⟩
theorem zce_obj {ad : Nat → Nat} {tc : Nat → ClassId} {σ : zSt} {k c : Nat} (h : c < 8) : zce ad tc σ k c = .inr (c, (zfk c).mapIdx (fun j q => zcf ad σ k j q)) := by
  unfold zce
  split <;> first | omega | rfl
theorem z_setI {ad : Nat → Nat} {σ : zSt} {k ci j y : Nat} {z : Int} (hj : (zfk ci)[j]? = some (0, y)) : ((zfk ci).mapIdx (fun j q => zcf ad σ k j q)).set j (.int (Int32.ofInt z)) = (zfk ci).mapIdx (fun b q => zcf ad (uI σ k j z) k b q) := by
  apply List.ext_getElem?
  intro b
  by_cases hb : b = j
  · subst hb
    rw [List.getElem?_set_self (by rw [List.length_mapIdx]; exact (List.getElem?_eq_some_iff.mp hj).1), List.getElem?_mapIdx, hj]
    show some (Value.int (Int32.ofInt z)) = some (zcf ad (uI σ k b z) k b (0, y))
    simp [zcf, uI]
  · rw [List.getElem?_set_ne (Ne.symm hb), List.getElem?_mapIdx, List.getElem?_mapIdx]
    cases (zfk ci)[b]? with
    | none => rfl
    | some q =>
      show some (zcf ad σ k b q) = some (zcf ad (uI σ k j z) k b q)
      have e : (uI σ k j z).1 k b = σ.1 k b := if_neg (fun w => hb (by have := w.2; omega))
      congr 1
      unfold zcf
      split
      · rw [e]
      · rfl
      · rfl
theorem z_setL {ad : Nat → Nat} {σ : zSt} {k ci j y : Nat} {z : Int64} (hj : (zfk ci)[j]? = some (1, y)) : ((zfk ci).mapIdx (fun j q => zcf ad σ k j q)).set j (.long z) = (zfk ci).mapIdx (fun b q => zcf ad (uL σ k j z) k b q) := by
  apply List.ext_getElem?
  intro b
  by_cases hb : b = j
  · subst hb
    rw [List.getElem?_set_self (by rw [List.length_mapIdx]; exact (List.getElem?_eq_some_iff.mp hj).1), List.getElem?_mapIdx, hj]
    show some (Value.long z) = some (zcf ad (uL σ k b z) k b (1, y))
    simp [zcf, uL]
  · rw [List.getElem?_set_ne (Ne.symm hb), List.getElem?_mapIdx, List.getElem?_mapIdx]
    cases (zfk ci)[b]? with
    | none => rfl
    | some q =>
      show some (zcf ad σ k b q) = some (zcf ad (uL σ k j z) k b q)
      have e : (uL σ k j z).2 k b = σ.2 k b := if_neg (fun w => hb (by have := w.2; omega))
      congr 1
      unfold zcf
      split
      · rfl
      · rw [e]
      · rfl
theorem z_updI {σ : zSt} {k : Nat} {i z : Int} (h : 0 ≤ i) : upd (fun j : Nat => Int32.ofInt (σ.1 k j)) i.toNat (Int32.ofInt z) = fun j : Nat => Int32.ofInt ((uI σ k i z).1 k j) := by
  funext j
  unfold upd uI
  by_cases hj : j = i.toNat
  · rw [if_pos hj]
    show _ = Int32.ofInt (if k = k ∧ (j : Int) = i then z else σ.1 k j)
    rw [if_pos ⟨rfl, by omega⟩]
  · rw [if_neg hj]
    show _ = Int32.ofInt (if k = k ∧ (j : Int) = i then z else σ.1 k j)
    rw [if_neg (fun w => hj (by have := w.2; omega))]
theorem z_updL {σ : zSt} {k : Nat} {i : Int} {z : Int64} (h : 0 ≤ i) : vp_updL (fun j : Nat => σ.2 k j) i.toNat z = fun j : Nat => (uL σ k i z).2 k j := by
  funext j
  unfold vp_updL uL
  by_cases hj : j = i.toNat
  · rw [if_pos hj]
    show _ = (if k = k ∧ (j : Int) = i then z else σ.2 k j)
    rw [if_pos ⟨rfl, by omega⟩]
  · rw [if_neg hj]
    show _ = (if k = k ∧ (j : Int) = i then z else σ.2 k j)
    rw [if_neg (fun w => hj (by have := w.2; omega))]
section SND
variable {d : Nat} {Y : MI} {l : Launch} {p : Program} {e : Env} {R : Room} {s : State} {m : MethodId} {args : Array Value} {below : List Frame} {meth : Method} {c : Code} {G : zFD} {A : Nat → Prop} {post : Option VV → zSt → Prop} {t : Nat} {ds : List Nat} {pc : Nat} {L : List (Option VV)} {st : List VV} {σ : zSt} {K : zK}
set_option maxHeartbeats 4000000 in
theorem st1_get (C0 : Cx d Y p R s m args meth c G A) {x : Nat} (hd : decode Y.2.1 pc = .ok (.getfield x, 3)) (h : st1 Y.2.2.2.2.1 (.getfield x) t ds pc L st σ K) (hk : ∀ ds pc L st σ, K ds pc L st σ → zV l p e R s m args below meth c G A Y post pc L st σ) : zV l p e R s m args below meth c G A Y post pc L st σ := by
  obtain ⟨hx, hb, hml, hown, hr, hlocks, hts, hR, hK, hG, hA⟩ := C0
  replace h := zpR_i h
  obtain ⟨c1, k, r, rfl, h⟩ := h
  replace h := zop_i h
  obtain ⟨⟨ci, j⟩, hzg, h⟩ := h
  replace h := zif_i h
  obtain ⟨hci0, h⟩ := h
  have hci : ci = c1 := Nat.eq_of_beq_eq_true hci0
  clear hci0
  subst hci
  replace h := zop_i h
  obtain ⟨q, hq, h⟩ := h
  obtain ⟨C, T, N, hcl, hjN, hlink⟩ := zgl_ok hzg
  obtain ⟨hc8, hws, ⟨ty0, hty0⟩, hnm, hlen, hfin⟩ := zcl_ok hcl
  intro H locs ls hP hD hS hl hn hL hT
  have hw := zw_h hT
  have hkN : k < G.2.1 := hw.1
  have hsk : shG k = ci := hw.2
  have hcell : (zwl G σ)[k]? = some (G.2.2.1 k, .inr (ci, (zfk ci).mapIdx (fun j q => zcf G.2.2.1 σ k j q))) := by rw [zwl_get hkN, hsk, zce_obj hc8]
  have hfk : ((zfk ci).mapIdx (fun j q => zcf G.2.2.1 σ k j q))[j]? = some (zcf G.2.2.1 σ k j q) := by rw [List.getElem?_mapIdx, hq]; rfl
  refine va_get (D := G.1) (cl := vwCl) (ci := ci) (C := C) (T := T) (N := N) hx hb hts hws hown hK hP k hcell hcl j hjN (hts _ hlink) (fun _ h9 => h9) hfk hd ?_
  obtain ⟨x1, y1⟩ := q
  match x1, h, hq with
  | 0, h, hq => exact hk _ _ _ _ _ h H locs ls hP hD hS hl hn hL (zw_c trivial (zw_t hT))
  | 1, h, hq => exact hk _ _ _ _ _ h H locs ls hP hD hS hl hn hL (zw_c trivial (zw_t hT))
  | n + 2, h, hq => exact hk _ _ _ _ _ h H locs ls hP hD hS hl hn hL (zw_c (z_closed hG hkN hsk hq) (zw_t hT))
set_option maxHeartbeats 4000000 in
theorem st1_put (C0 : Cx d Y p R s m args meth c G A) {x : Nat} (hd : decode Y.2.1 pc = .ok (.putfield x, 3)) (h : st1 Y.2.2.2.2.1 (.putfield x) t ds pc L st σ K) (hk : ∀ ds pc L st σ, K ds pc L st σ → zV l p e R s m args below meth c G A Y post pc L st σ) : zV l p e R s m args below meth c G A Y post pc L st σ := by
  obtain ⟨hx, hb, hml, hown, hr, hlocks, hts, hR, hK, hG, hA⟩ := C0
  replace h := zpVR_i h
  obtain ⟨v, c1, k, r, rfl, h⟩ := h
  replace h := zop_i h
  obtain ⟨⟨ci, j⟩, hzg, h⟩ := h
  replace h := zif_i h
  obtain ⟨hci0, h⟩ := h
  have hci : ci = c1 := Nat.eq_of_beq_eq_true hci0
  clear hci0
  subst hci
  replace h := zop_i h
  obtain ⟨q, hq, h⟩ := h
  obtain ⟨C, T, N, hcl, hjN, hlink⟩ := zgl_ok hzg
  obtain ⟨hc8, hws, ⟨ty0, hty0⟩, hnm, hlen, hfin⟩ := zcl_ok hcl
  intro H locs ls hP hD hS hl hn hL hT
  have hw := zw_h (zw_t hT)
  have hkN : k < G.2.1 := hw.1
  have hsk : shG k = ci := hw.2
  have hcell : (zwl G σ)[k]? = some (G.2.2.1 k, .inr (ci, (zfk ci).mapIdx (fun j q => zcf G.2.2.1 σ k j q))) := by rw [zwl_get hkN, hsk, zce_obj hc8]
  have hjl : j < ((zfk ci).mapIdx (fun j q => zcf G.2.2.1 σ k j q)).length := by rw [List.length_mapIdx, hlen]; exact hjN
  obtain ⟨x1, y1⟩ := q
  obtain ⟨ty, hty, hpty, hff⟩ := hfin j x1 y1 hq
  have keyI : ∀ z : Int, v = vZ z → x1 = 0 → y1 ≠ 2 → narrow ty (.int (Int32.ofInt z)) = .int (Int32.ofInt z) → fits ty (.int (Int32.ofInt z)) = true → K ds (pc + 3) L r (uI σ k j z) → W p l e R s m args below meth c H locs 0 0 (MQ below (zQ post G A) args s 0 0 A) (F0 m pc ls ((v :: vR ci k :: r).map (tv G.2.2.1))) := by
    intro z ev e0 e2 hna hfi hKK
    subst ev; subst e0
    refine va_put (D := G.1) (cl := vwCl) (ci := ci) (C := C) (T := T) (N := N) (v := .int (Int32.ofInt z)) (ty := ty) hx hb hts hws ty0 hty0 hnm hown hK hP hD hS k hcell hcl j hjN (hts _ hlink) (fun _ h9 => h9) (hff (Or.inl ⟨rfl, e2⟩)) hty hna hfi hjl hd (fun H1 locs1 hP1 hD1 hS1 => ?_)
    have e1 : (zwl G σ).set k (G.2.2.1 k, .inr (ci, ((zfk ci).mapIdx (fun j q => zcf G.2.2.1 σ k j q)).set j (.int (Int32.ofInt z)))) = zwl G (uI σ k j z) := by
      refine zwl_set ?_ (fun q hq => zce_uI hq)
      rw [hsk, zce_obj hc8, z_setI hq]
    rw [e1] at hP1 hD1
    exact hk _ _ _ _ _ hKK H1 locs1 ls hP1 hD1 hS1 hl hn hL (zw_t (zw_t hT))
  unfold zput at h
  split at h
  · rename_i q0 he
    cases he
    replace h := zvI_i h
    obtain ⟨z, rfl, h⟩ := h
    have hint : ty = .int := by cases ty <;> simp [zpty] at hpty <;> rfl
    subst hint
    exact keyI z rfl rfl (by decide) rfl rfl h
  · rename_i q0 he
    cases he
    replace h := zvI_i h
    obtain ⟨z, rfl, h⟩ := h
    have hint : ty = .boolean := by cases ty <;> simp [zpty] at hpty <;> rfl
    subst hint
    obtain ⟨hz, h⟩ := h
    rcases hz with rfl | rfl
    · exact keyI 0 rfl rfl (by decide) (by decide) (by decide) h
    · exact keyI 1 rfl rfl (by decide) (by decide) (by decide) h
  · rename_i q0 y he
    cases he
    replace h := zvL_i h
    obtain ⟨z, rfl, h⟩ := h
    have hint : ty = .long := by cases ty <;> simp [zpty] at hpty <;> rfl
    subst hint
    refine va_put (D := G.1) (cl := vwCl) (ci := ci) (C := C) (T := T) (N := N) (v := .long z) (ty := .long) hx hb hts hws ty0 hty0 hnm hown hK hP hD hS k hcell hcl j hjN (hts _ hlink) (fun _ h9 => h9) (hff (Or.inr rfl)) hty rfl rfl hjl hd (fun H1 locs1 hP1 hD1 hS1 => ?_)
    have e1 : (zwl G σ).set k (G.2.2.1 k, .inr (ci, ((zfk ci).mapIdx (fun j q => zcf G.2.2.1 σ k j q)).set j (.long z))) = zwl G (uL σ k j z) := by
      refine zwl_set ?_ (fun q hq => zce_uL hq)
      rw [hsk, zce_obj hc8, z_setL hq]
    rw [e1] at hP1 hD1
    exact hk _ _ _ _ _ h H1 locs1 ls hP1 hD1 hS1 hl hn hL (zw_t (zw_t hT))
  · exact h.elim
end SND
end
section
section SND2
variable {d : Nat} {Y : MI} {l : Launch} {p : Program} {e : Env} {R : Room} {s : State} {m : MethodId} {args : Array Value} {below : List Frame} {meth : Method} {c : Code} {G : zFD} {A : Nat → Prop} {post : Option VV → zSt → Prop} {t : Nat} {ds : List Nat} {pc : Nat} {L : List (Option VV)} {st : List VV} {σ : zSt} {K : zK}
theorem z_ld1 {i : Nat} {v : VV} (hv : L[i]? = some (some v)) (hL : zwtl G L) : zwt G v := hL v (List.mem_of_getElem? hv)
theorem z_llen {n i : Nat} {v : VV} (hn : L.length = n) : (zlput L i v).length = n := by
  unfold zlput; rw [List.length_set, zlclr_len, hn]
theorem z_llen2 {n i : Nat} {v : VV} (hn : L.length = n) : (zlput2 L i v).length = n := by
  unfold zlput2; rw [List.length_set, List.length_set, zlclr_len, hn]
set_option maxHeartbeats 4000000 in
/-- rows: loads -/
theorem st1_ald (C0 : Cx d Y p R s m args meth c G A) {i : Instr} (hi : i = .iaload ∨ i = .laload ∨ i = .baload ∨ i = .aaload) (hd : decode Y.2.1 pc = .ok (i, 1)) (h : st1 Y.2.2.2.2.1 i t ds pc L st σ K) (hk : ∀ ds pc L st σ, K ds pc L st σ → zV l p e R s m args below meth c G A Y post pc L st σ) : zV l p e R s m args below meth c G A Y post pc L st σ := by
  obtain ⟨hx, hb, hml, hown, hr, hlocks, hts, hR, hK, hG, hA⟩ := C0
  rcases hi with rfl | rfl | rfl | rfl
  · replace h := zpIR_i h
    obtain ⟨i, c1, k, r, rfl, h⟩ := h
    replace h := zif_i h
    obtain ⟨hc, hin, h⟩ := h
    have hc := Nat.eq_of_beq_eq_true hc
    subst hc
    intro H locs ls hP hD hS hl hn hL hT
    have hw : k < G.2.1 ∧ shG k = 8 := zw_h (zw_t hT)
    obtain ⟨h1, h2⟩ := z_ix hG hw.1 hin
    have hcell : (zwl G σ)[k]? = some (G.2.2.1 k, .inl (G.2.2.2 0, (zlen k).toNat, .inl (fun j : Nat => Int32.ofInt (σ.1 k j)))) := by rw [zwl_get hw.1, hw.2]; rfl
    refine va_iald (D := G.1) (cl := vwCl) hx hb hK hP k 0 hcell rfl h1 hd ?_
    have e1 : ((i.toNat : Nat) : Int) = i := Int.toNat_of_nonneg hin.1
    rw [h2]
    show W p l e R s m args below meth c H locs 0 0 _ (F0 m (pc + 1) ls (.int (Int32.ofInt (σ.1 k ((i.toNat : Nat) : Int))) :: _))
    rw [e1]
    exact hk _ _ _ _ _ h H locs ls hP hD hS hl hn hL (zw_c trivial (zw_t (zw_t hT)))
  · replace h := zpIR_i h
    obtain ⟨i, c1, k, r, rfl, h⟩ := h
    replace h := zif_i h
    obtain ⟨hc, hin, h⟩ := h
    have hc := Nat.eq_of_beq_eq_true hc
    subst hc
    intro H locs ls hP hD hS hl hn hL hT
    have hw : k < G.2.1 ∧ shG k = 9 := zw_h (zw_t hT)
    obtain ⟨h1, h2⟩ := z_ix hG hw.1 hin
    have hcell : (zwl G σ)[k]? = some (G.2.2.1 k, .inl (G.2.2.2 1, (zlen k).toNat, .inr (.inl (fun j : Nat => σ.2 k j)))) := by rw [zwl_get hw.1, hw.2]; rfl
    refine va_lald (D := G.1) (cl := vwCl) hx hb hK hP k 1 hcell rfl h1 hd ?_
    have e1 : ((i.toNat : Nat) : Int) = i := Int.toNat_of_nonneg hin.1
    rw [h2]
    show W p l e R s m args below meth c H locs 0 0 _ (F0 m (pc + 1) ls (.long (σ.2 k ((i.toNat : Nat) : Int)) :: _))
    rw [e1]
    exact hk _ _ _ _ _ h H locs ls hP hD hS hl hn hL (zw_c trivial (zw_t (zw_t hT)))
  · replace h := zpIR_i h
    obtain ⟨i, c1, k, r, rfl, h⟩ := h
    replace h := zif_i h
    obtain ⟨hc, hin, h⟩ := h
    have hc := Nat.eq_of_beq_eq_true hc
    subst hc
    intro H locs ls hP hD hS hl hn hL hT
    have hw : k < G.2.1 ∧ shG k = 10 := zw_h (zw_t hT)
    obtain ⟨h1, h2⟩ := z_ix hG hw.1 hin
    have hcell : (zwl G σ)[k]? = some (G.2.2.1 k, .inl (G.2.2.2 2, (zlen k).toNat, .inl (fun j : Nat => Int32.ofInt (σ.1 k j)))) := by rw [zwl_get hw.1, hw.2]; rfl
    refine va_zald (D := G.1) (cl := vwCl) hx hb hK hP k 2 hcell rfl h1 hd ?_
    have e1 : ((i.toNat : Nat) : Int) = i := Int.toNat_of_nonneg hin.1
    rw [h2]
    show W p l e R s m args below meth c H locs 0 0 _ (F0 m (pc + 1) ls (.int (Int32.ofInt (σ.1 k ((i.toNat : Nat) : Int))) :: _))
    rw [e1]
    exact hk _ _ _ _ _ h H locs ls hP hD hS hl hn hL (zw_c trivial (zw_t (zw_t hT)))
  · replace h := zpIR_i h
    obtain ⟨i, c1, k, r, rfl, h⟩ := h
    replace h := zif_i h
    obtain ⟨hc, hin, h⟩ := h
    have hc := Nat.eq_of_beq_eq_true hc
    subst hc
    intro H locs ls hP hD hS hl hn hL hT
    have hw : k < G.2.1 ∧ shG k = 11 := zw_h (zw_t hT)
    obtain ⟨h1, h2⟩ := z_ix hG hw.1 hin
    have hcell : (zwl G σ)[k]? = some (G.2.2.1 k, .inl (G.2.2.2 3, (zlen k).toNat, .inr (.inr (.inr (.inr (fun j : Nat => some (G.2.2.1 (k + 1 + 2 * j)))))))) := by rw [zwl_get hw.1, hw.2]; rfl
    refine va_aldq (D := G.1) (cl := vwCl) hx hb hK hP k 3 hcell rfl h1 hd ?_
    rw [h2]
    refine hk _ _ _ _ _ h H locs ls hP hD hS hl hn hL (zw_c ?_ (zw_t (zw_t hT)))
    have hk33 := z_k11 hG hw.1 hw.2
    subst hk33
    have hz : zlen 33 = 4 := by decide
    rw [hz] at hin
    have hj : i.toNat < 4 := by omega
    show 33 + 1 + 2 * i.toNat < G.2.1 ∧ shG (33 + 1 + 2 * i.toNat) = 2
    refine ⟨by omega, ?_⟩
    match i.toNat, hj with
    | 0, _ => decide
    | 1, _ => decide
    | 2, _ => decide
    | 3, _ => decide
set_option maxHeartbeats 4000000 in
theorem st1_ast (C0 : Cx d Y p R s m args meth c G A) {i : Instr} (hi : i = .iastore ∨ i = .lastore ∨ i = .bastore) (hd : decode Y.2.1 pc = .ok (i, 1)) (h : st1 Y.2.2.2.2.1 i t ds pc L st σ K) (hk : ∀ ds pc L st σ, K ds pc L st σ → zV l p e R s m args below meth c G A Y post pc L st σ) : zV l p e R s m args below meth c G A Y post pc L st σ := by
  obtain ⟨hx, hb, hml, hown, hr, hlocks, hts, hR, hK, hG, hA⟩ := C0
  rcases hi with rfl | rfl | rfl
  · replace h := zpVIR_i h
    obtain ⟨v, i, c1, k, r, rfl, h⟩ := h
    replace h := zif_i h
    obtain ⟨hc, h⟩ := h
    have hc := Nat.eq_of_beq_eq_true hc
    subst hc
    replace h := zvI_i h
    obtain ⟨z, rfl, hin, h⟩ := h
    intro H locs ls hP hD hS hl hn hL hT
    have hw : k < G.2.1 ∧ shG k = 8 := zw_h (zw_t (zw_t hT))
    obtain ⟨h1, h2⟩ := z_ix hG hw.1 hin
    have hcell : (zwl G σ)[k]? = some (G.2.2.1 k, .inl (G.2.2.2 0, (zlen k).toNat, .inl (fun j : Nat => Int32.ofInt (σ.1 k j)))) := by rw [zwl_get hw.1, hw.2]; rfl
    refine va_iast (D := G.1) (cl := vwCl) hx hb hK hP hD hS k 0 hcell rfl h1 hd (fun H1 locs1 hP1 hD1 hS1 => ?_)
    have e1 : (zwl G σ).set k (G.2.2.1 k, .inl (G.2.2.2 0, (zlen k).toNat, .inl (upd (fun j : Nat => Int32.ofInt (σ.1 k j)) (Int32.ofInt i).toNatClampNeg (Int32.ofInt z)))) = zwl G (uI σ k i z) := by
      refine zwl_set ?_ (fun q hq => zce_uI hq)
      rw [hw.2, h2, z_updI hin.1]
      rfl
    rw [e1] at hP1 hD1
    exact hk _ _ _ _ _ h H1 locs1 ls hP1 hD1 hS1 hl hn hL (zw_t (zw_t (zw_t hT)))
  · replace h := zpVIR_i h
    obtain ⟨v, i, c1, k, r, rfl, h⟩ := h
    replace h := zif_i h
    obtain ⟨hc, h⟩ := h
    have hc := Nat.eq_of_beq_eq_true hc
    subst hc
    replace h := zvL_i h
    obtain ⟨z, rfl, hin, h⟩ := h
    intro H locs ls hP hD hS hl hn hL hT
    have hw : k < G.2.1 ∧ shG k = 9 := zw_h (zw_t (zw_t hT))
    obtain ⟨h1, h2⟩ := z_ix hG hw.1 hin
    have hcell : (zwl G σ)[k]? = some (G.2.2.1 k, .inl (G.2.2.2 1, (zlen k).toNat, .inr (.inl (fun j : Nat => σ.2 k j)))) := by rw [zwl_get hw.1, hw.2]; rfl
    refine va_last (D := G.1) (cl := vwCl) hx hb hK hP hD hS k 1 hcell rfl h1 hd (fun H1 locs1 hP1 hD1 hS1 => ?_)
    have e1 : (zwl G σ).set k (G.2.2.1 k, .inl (G.2.2.2 1, (zlen k).toNat, .inr (.inl (vp_updL (fun j : Nat => σ.2 k j) (Int32.ofInt i).toNatClampNeg z)))) = zwl G (uL σ k i z) := by
      refine zwl_set ?_ (fun q hq => zce_uL hq)
      rw [hw.2, h2, z_updL hin.1]
      rfl
    rw [e1] at hP1 hD1
    exact hk _ _ _ _ _ h H1 locs1 ls hP1 hD1 hS1 hl hn hL (zw_t (zw_t (zw_t hT)))
  · replace h := zpVIR_i h
    obtain ⟨v, i, c1, k, r, rfl, h⟩ := h
    replace h := zif_i h
    obtain ⟨hc, h⟩ := h
    have hc := Nat.eq_of_beq_eq_true hc
    subst hc
    replace h := zvI_i h
    obtain ⟨z, rfl, hin0, h⟩ := h
    have hin : 0 ≤ i ∧ i < zlen k := ⟨hin0.1, hin0.2.1⟩
    intro H locs ls hP hD hS hl hn hL hT
    have hw : k < G.2.1 ∧ shG k = 10 := zw_h (zw_t (zw_t hT))
    obtain ⟨h1, h2⟩ := z_ix hG hw.1 hin
    have hcell : (zwl G σ)[k]? = some (G.2.2.1 k, .inl (G.2.2.2 2, (zlen k).toNat, .inl (fun j : Nat => Int32.ofInt (σ.1 k j)))) := by rw [zwl_get hw.1, hw.2]; rfl
    have hnar : vp_nar .boolean (Int32.ofInt z) = Int32.ofInt z := by rcases hin0.2.2 with rfl | rfl <;> decide
    refine va_zast (D := G.1) (cl := vwCl) hx hb hK hP hD hS k 2 hcell rfl h1 hd (fun H1 locs1 hP1 hD1 hS1 => ?_)
    rw [hnar] at hP1 hD1
    have e1 : (zwl G σ).set k (G.2.2.1 k, .inl (G.2.2.2 2, (zlen k).toNat, .inl (upd (fun j : Nat => Int32.ofInt (σ.1 k j)) (Int32.ofInt i).toNatClampNeg (Int32.ofInt z)))) = zwl G (uI σ k i z) := by
      refine zwl_set ?_ (fun q hq => zce_uI hq)
      rw [hw.2, h2, z_updI hin.1]
      rfl
    rw [e1] at hP1 hD1
    exact hk _ _ _ _ _ h H1 locs1 ls hP1 hD1 hS1 hl hn hL (zw_t (zw_t (zw_t hT)))
set_option maxHeartbeats 4000000 in
theorem st1_br (C0 : Cx d Y p R s m args meth c G A) {i : Instr} {cc : Jvm.ClassFile.Cond} {o : Int} (hi : i = .ifCond cc o ∨ i = .if_icmp cc o) (ht : (pc : Int) + o = (t : Int)) (hd : decode Y.2.1 pc = .ok (i, 3)) (h : st1 Y.2.2.2.2.1 i t ds pc L st σ K) (hk : ∀ ds pc L st σ, K ds pc L st σ → zV l p e R s m args below meth c G A Y post pc L st σ) : zV l p e R s m args below meth c G A Y post pc L st σ := by
  obtain ⟨hx, hb, hml, hown, hr, hlocks, hts, hR, hK, hG, hA⟩ := C0
  rcases hi with rfl | rfl
  · replace h := zp1_i h
    obtain ⟨a, r, rfl, h⟩ := h
    intro H locs ls hP hD hS hl hn hL hT
    have z0 : zr 0 := ⟨by omega, by omega⟩
    rcases zbr_i h with ⟨⟨za, hc⟩, ds2, h⟩ | ⟨⟨za, hc⟩, ds2, h⟩
    · have hgo := hk _ _ _ _ _ h H locs ls hP hD hS hl hn hL (zw_t hT)
      cases cc with
      | eq => exact lv_if_eq hx hb hd ht (fun _ => hgo) (fun q => absurd ((zi_eq za z0).mpr hc) q)
      | ne => exact lv_if_ne hx hb hd ht (fun _ => hgo) (fun q => absurd ((zi_eq za z0).mp q) hc)
      | lt => exact lv_if_lt hx hb hd ht (fun _ => hgo) (fun q => absurd ((zi_lt za z0).mpr hc) q)
      | ge => exact lv_if_ge hx hb hd ht (fun _ => hgo) (fun q => absurd ((zi_le z0 za).mpr hc) q)
      | gt => exact lv_if_gt hx hb hd ht (fun _ => hgo) (fun q => absurd ((zi_lt z0 za).mpr hc) q)
      | le => exact lv_if_le hx hb hd ht (fun _ => hgo) (fun q => absurd ((zi_le za z0).mpr hc) q)
    · have hgo := hk _ _ _ _ _ h H locs ls hP hD hS hl hn hL (zw_t hT)
      cases cc with
      | eq => exact lv_if_eq hx hb hd ht (fun q => absurd ((zi_eq za z0).mp q) hc) (fun _ => hgo)
      | ne => exact lv_if_ne hx hb hd ht (fun q => absurd ((zi_eq za z0).mpr hc) q) (fun _ => hgo)
      | lt => exact lv_if_lt hx hb hd ht (fun q => absurd ((zi_lt za z0).mp q) (Int.not_lt.mpr hc)) (fun _ => hgo)
      | ge => exact lv_if_ge hx hb hd ht (fun q => absurd ((zi_le z0 za).mp q) (Int.not_le.mpr hc)) (fun _ => hgo)
      | gt => exact lv_if_gt hx hb hd ht (fun q => absurd ((zi_lt z0 za).mp q) (Int.not_lt.mpr hc)) (fun _ => hgo)
      | le => exact lv_if_le hx hb hd ht (fun q => absurd ((zi_le za z0).mp q) (Int.not_le.mpr hc)) (fun _ => hgo)
  · replace h := zp2_i h
    obtain ⟨a, b, r, rfl, h⟩ := h
    intro H locs ls hP hD hS hl hn hL hT
    rcases zbr_i h with ⟨⟨za, zb, hc⟩, ds2, h⟩ | ⟨⟨za, zb, hc⟩, ds2, h⟩
    · have hgo := hk _ _ _ _ _ h H locs ls hP hD hS hl hn hL (zw_t (zw_t hT))
      cases cc with
      | eq => exact lv_icmp_eq hx hb hd ht (fun _ => hgo) (fun q => absurd ((zi_eq za zb).mpr hc) q)
      | ne => exact lv_icmp_ne hx hb hd ht (fun _ => hgo) (fun q => absurd ((zi_eq za zb).mp q) hc)
      | lt => exact lv_icmp_lt hx hb hd ht (fun _ => hgo) (fun q => absurd ((zi_lt za zb).mpr hc) q)
      | ge => exact lv_icmp_ge hx hb hd ht (fun _ => hgo) (fun q => absurd ((zi_le zb za).mpr hc) q)
      | gt => exact lv_icmp_gt hx hb hd ht (fun _ => hgo) (fun q => absurd ((zi_lt zb za).mpr hc) q)
      | le => exact lv_icmp_le hx hb hd ht (fun _ => hgo) (fun q => absurd ((zi_le za zb).mpr hc) q)
    · have hgo := hk _ _ _ _ _ h H locs ls hP hD hS hl hn hL (zw_t (zw_t hT))
      cases cc with
      | eq => exact lv_icmp_eq hx hb hd ht (fun q => absurd ((zi_eq za zb).mp q) hc) (fun _ => hgo)
      | ne => exact lv_icmp_ne hx hb hd ht (fun q => absurd ((zi_eq za zb).mpr hc) q) (fun _ => hgo)
      | lt => exact lv_icmp_lt hx hb hd ht (fun q => absurd ((zi_lt za zb).mp q) (Int.not_lt.mpr hc)) (fun _ => hgo)
      | ge => exact lv_icmp_ge hx hb hd ht (fun q => absurd ((zi_le zb za).mp q) (Int.not_le.mpr hc)) (fun _ => hgo)
      | gt => exact lv_icmp_gt hx hb hd ht (fun q => absurd ((zi_lt zb za).mp q) (Int.not_lt.mpr hc)) (fun _ => hgo)
      | le => exact lv_icmp_le hx hb hd ht (fun q => absurd ((zi_le za zb).mp q) (Int.not_le.mpr hc)) (fun _ => hgo)
end SND2
end
section
section SND3
variable {d : Nat} {Y : MI} {l : Launch} {p : Program} {e : Env} {R : Room} {s : State} {m : MethodId} {args : Array Value} {below : List Frame} {meth : Method} {c : Code} {G : zFD} {A : Nat → Prop} {post : Option VV → zSt → Prop} {t : Nat} {ds : List Nat} {pc : Nat} {L : List (Option VV)} {st : List VV} {σ : zSt} {K : zK}
set_option maxHeartbeats 8000000 in
theorem st1_ok (C0 : Cx d Y p R s m args meth c G A) {i : Instr} (hd : decode Y.2.1 pc = .ok (i, zsz i t)) (ht : zto pc i t = true) (h : st1 Y.2.2.2.2.1 i t ds pc L st σ K) (hk : ∀ ds pc L st σ, K ds pc L st σ → zV l p e R s m args below meth c G A Y post pc L st σ) : zV l p e R s m args below meth c G A Y post pc L st σ := by
  obtain ⟨hx, hb, hml, hown, hr, hlocks, hts, hR, hK, hG, hA⟩ := id C0
  cases i
  case aconst_null =>
    intro H locs ls hP hD hS hl hn hL hT
    exact lv_null hx hb hd (hk _ _ _ _ _ h H locs ls hP hD hS hl hn hL (zw_c trivial hT))
  case iconst z =>
    intro H locs ls hP hD hS hl hn hL hT
    exact lv_iconst hx hb hd rfl (hk _ _ _ _ _ h H locs ls hP hD hS hl hn hL (zw_c trivial hT))
  case bipush z =>
    replace h := zif_i h
    obtain ⟨h1, h⟩ := h
    intro H locs ls hP hD hS hl hn hL hT
    exact lv_bipush hx hb hd (z_b8 h1) (hk _ _ _ _ _ h H locs ls hP hD hS hl hn hL (zw_c trivial hT))
  case sipush z =>
    replace h := zif_i h
    obtain ⟨h1, h⟩ := h
    intro H locs ls hP hD hS hl hn hL hT
    exact lv_sipush hx hb hd (z_b16 h1) (hk _ _ _ _ _ h H locs ls hP hD hS hl hn hL (zw_c trivial hT))
  case lconst z =>
    intro H locs ls hP hD hS hl hn hL hT
    exact lv_lconst hx hb hd rfl (hk _ _ _ _ _ h H locs ls hP hD hS hl hn hL (zw_c trivial hT))
  case ldc x =>
    replace h := zop_i h
    obtain ⟨v, hv, h⟩ := h
    intro H locs ls hP hD hS hl hn hL hT
    exact lv_ldc hx hb hown (hts _ (zil_ok hv)) hd (hk _ _ _ _ _ h H locs ls hP hD hS hl hn hL (zw_c trivial hT))
  case ldc_w x =>
    replace h := zop_i h
    obtain ⟨v, hv, h⟩ := h
    intro H locs ls hP hD hS hl hn hL hT
    exact lv_ldcw hx hb hown (hts _ (zil_ok hv)) hd (hk _ _ _ _ _ h H locs ls hP hD hS hl hn hL (zw_c trivial hT))
  case ldc2_w x =>
    replace h := zop_i h
    obtain ⟨v, hv, h⟩ := h
    intro H locs ls hP hD hS hl hn hL hT
    exact lv_ldc2 hx hb hown (hts _ (zll_ok hv)) hd (hk _ _ _ _ _ h H locs ls hP hD hS hl hn hL (zw_c trivial hT))
  case iload_n k =>
    replace h := zld_i h
    obtain ⟨v, hv, h⟩ := h
    replace h := zvI_i h
    obtain ⟨z, rfl, h⟩ := h
    intro H locs ls hP hD hS hl hn hL hT
    exact lv_iload_n hx hb hd rfl (zl_at hl hv) (hk _ _ _ _ _ h H locs ls hP hD hS hl hn hL (zw_c trivial hT))
  case iload k =>
    replace h := zld_i h
    obtain ⟨v, hv, h⟩ := h
    replace h := zvI_i h
    obtain ⟨z, rfl, h⟩ := h
    intro H locs ls hP hD hS hl hn hL hT
    exact lv_iload hx hb hd (zl_at hl hv) (hk _ _ _ _ _ h H locs ls hP hD hS hl hn hL (zw_c trivial hT))
  case lload_n k =>
    replace h := zld_i h
    obtain ⟨v, hv, h⟩ := h
    replace h := zvL_i h
    obtain ⟨z, rfl, h⟩ := h
    intro H locs ls hP hD hS hl hn hL hT
    exact lv_lload_n hx hb hd rfl (zl_at hl hv) (hk _ _ _ _ _ h H locs ls hP hD hS hl hn hL (zw_c trivial hT))
  case lload k =>
    replace h := zld_i h
    obtain ⟨v, hv, h⟩ := h
    replace h := zvL_i h
    obtain ⟨z, rfl, h⟩ := h
    intro H locs ls hP hD hS hl hn hL hT
    exact lv_lload hx hb hd (zl_at hl hv) (hk _ _ _ _ _ h H locs ls hP hD hS hl hn hL (zw_c trivial hT))
  case aload_n k =>
    replace h := zld_i h
    obtain ⟨v, hv, h⟩ := h
    replace h := zvQ_i h
    obtain ⟨z, rfl, h⟩ := h
    intro H locs ls hP hD hS hl hn hL hT
    have hw := z_ld1 hv hL
    cases z with
    | none => exact lv_aload_nN hx hb hd rfl (zl_at hl hv) (hk _ _ _ _ _ h H locs ls hP hD hS hl hn hL (zw_c hw hT))
    | some z => exact lv_aload_n hx hb hd rfl (zl_at hl hv) (hk _ _ _ _ _ h H locs ls hP hD hS hl hn hL (zw_c hw hT))
  case aload k =>
    replace h := zld_i h
    obtain ⟨v, hv, h⟩ := h
    replace h := zvQ_i h
    obtain ⟨z, rfl, h⟩ := h
    intro H locs ls hP hD hS hl hn hL hT
    have hw := z_ld1 hv hL
    cases z with
    | none => exact lv_aloadN hx hb hd (zl_at hl hv) (hk _ _ _ _ _ h H locs ls hP hD hS hl hn hL (zw_c hw hT))
    | some z => exact lv_aload hx hb hd (zl_at hl hv) (hk _ _ _ _ _ h H locs ls hP hD hS hl hn hL (zw_c hw hT))
  case istore_n k =>
    replace h := zif_i h
    obtain ⟨hlt, h⟩ := h
    have hlt := Nat.blt_eq.mp hlt
    replace h := zp1_i h
    obtain ⟨z, r, rfl, h⟩ := h
    intro H locs ls hP hD hS hl hn hL hT
    rw [hn] at hlt
    have hw := zw_h hT
    exact lv_istore_n hx hb hd rfl hl hlt rfl (fun ls2 hl2 => hk _ _ _ _ _ h H locs _ hP hD hS (zl_put hl2) (z_llen hn) (zwtl_put hL _ (by assumption)) (zw_t hT))
  case istore k =>
    replace h := zif_i h
    obtain ⟨hlt, h⟩ := h
    have hlt := Nat.blt_eq.mp hlt
    replace h := zp1_i h
    obtain ⟨z, r, rfl, h⟩ := h
    intro H locs ls hP hD hS hl hn hL hT
    rw [hn] at hlt
    have hw := zw_h hT
    exact lv_istore hx hb hd hl hlt rfl (fun ls2 hl2 => hk _ _ _ _ _ h H locs _ hP hD hS (zl_put hl2) (z_llen hn) (zwtl_put hL _ (by assumption)) (zw_t hT))
  case lstore_n k =>
    replace h := zif_i h
    obtain ⟨hlt, h⟩ := h
    have hlt := Nat.blt_eq.mp hlt
    replace h := zpL1_i h
    obtain ⟨z, r, rfl, h⟩ := h
    intro H locs ls hP hD hS hl hn hL hT
    rw [hn] at hlt
    have hw := zw_h hT
    exact lv_lstore_n hx hb hd rfl hl hlt rfl (fun ls2 hl2 => hk _ _ _ _ _ h H locs _ hP hD hS (zl_put2 hl2) (z_llen2 hn) (zwtl_put2 hL _ (by assumption)) (zw_t hT))
  case lstore k =>
    replace h := zif_i h
    obtain ⟨hlt, h⟩ := h
    have hlt := Nat.blt_eq.mp hlt
    replace h := zpL1_i h
    obtain ⟨z, r, rfl, h⟩ := h
    intro H locs ls hP hD hS hl hn hL hT
    rw [hn] at hlt
    have hw := zw_h hT
    exact lv_lstore hx hb hd hl hlt rfl (fun ls2 hl2 => hk _ _ _ _ _ h H locs _ hP hD hS (zl_put2 hl2) (z_llen2 hn) (zwtl_put2 hL _ (by assumption)) (zw_t hT))
  case astore_n k =>
    replace h := zif_i h
    obtain ⟨hlt, h⟩ := h
    have hlt := Nat.blt_eq.mp hlt
    replace h := zpQ_i h
    obtain ⟨z, r, rfl, h⟩ := h
    intro H locs ls hP hD hS hl hn hL hT
    rw [hn] at hlt
    have hw := zw_h hT
    cases z with
    | none => exact lv_astore_nN hx hb hd rfl hl hlt rfl (fun ls2 hl2 => hk _ _ _ _ _ h H locs _ hP hD hS (zl_put hl2) (z_llen hn) (zwtl_put hL _ (by assumption)) (zw_t hT))
    | some z => exact lv_astore_n hx hb hd rfl hl hlt rfl (fun ls2 hl2 => hk _ _ _ _ _ h H locs _ hP hD hS (zl_put hl2) (z_llen hn) (zwtl_put hL _ (by assumption)) (zw_t hT))
  case astore k =>
    replace h := zif_i h
    obtain ⟨hlt, h⟩ := h
    have hlt := Nat.blt_eq.mp hlt
    replace h := zpQ_i h
    obtain ⟨z, r, rfl, h⟩ := h
    intro H locs ls hP hD hS hl hn hL hT
    rw [hn] at hlt
    have hw := zw_h hT
    cases z with
    | none => exact lv_astoreN hx hb hd hl hlt rfl (fun ls2 hl2 => hk _ _ _ _ _ h H locs _ hP hD hS (zl_put hl2) (z_llen hn) (zwtl_put hL _ (by assumption)) (zw_t hT))
    | some z => exact lv_astore hx hb hd hl hlt rfl (fun ls2 hl2 => hk _ _ _ _ _ h H locs _ hP hD hS (zl_put hl2) (z_llen hn) (zwtl_put hL _ (by assumption)) (zw_t hT))
  case iinc k n =>
    replace h := zif_i h
    obtain ⟨hlt, h⟩ := h
    have hlt := Nat.blt_eq.mp hlt
    replace h := zld_i h
    obtain ⟨v, hv, h⟩ := h
    replace h := zvI_i h
    obtain ⟨z, rfl, h⟩ := h
    intro H locs ls hP hD hS hl hn hL hT
    rw [hn] at hlt
    have hm : (k, Value.int (Int32.ofInt z)) ∈ zlm G.2.2.1 0 L := zlm_mem.mpr ⟨k, vZ z, hv, by rw [Nat.zero_add]; rfl⟩
    obtain ⟨q, hq⟩ := List.getElem?_of_mem hm
    have hw : zwt G (vZ (z + n)) := trivial
    refine lv_iinc (v := Int32.ofInt (z + n)) hx hb hd hl hq (Int32.ofInt_add z n).symm hlt rfl (fun ls2 hl2 => hk _ _ _ _ _ h H locs _ hP hD hS (zl_put hl2) (z_llen hn) (zwtl_put hL _ (by assumption)) hT)
  case dup =>
    replace h := zpQ_i h
    obtain ⟨q, r, rfl, h⟩ := h
    intro H locs ls hP hD hS hl hn hL hT
    have hw := zw_h hT
    exact lv_dup hx hb hd (by cases q <;> rfl) (hk _ _ _ _ _ h H locs ls hP hD hS hl hn hL (zw_c hw (zw_c hw (zw_t hT))))
  case dup2 =>
    replace h := zpIR_i h
    obtain ⟨i, c1, k, r, rfl, h⟩ := h
    intro H locs ls hP hD hS hl hn hL hT
    have hw := zw_h (zw_t hT)
    exact lv_dup2_11 hx hb hd rfl rfl (hk _ _ _ _ _ h H locs ls hP hD hS hl hn hL (zw_c trivial (zw_c hw (zw_c trivial (zw_c hw (zw_t (zw_t hT)))))))
  case pop =>
    replace h := zp1_i h
    obtain ⟨a, r, rfl, h⟩ := h
    intro H locs ls hP hD hS hl hn hL hT
    exact lv_pop hx hb hd rfl (hk _ _ _ _ _ h H locs ls hP hD hS hl hn hL (zw_t hT))
  case iadd =>
    replace h := zp2_i h
    obtain ⟨a, b, r, rfl, h⟩ := h
    intro H locs ls hP hD hS hl hn hL hT
    refine lv_iadd hx hb hd ?_
    rw [← Int32.ofInt_add]
    exact hk _ _ _ _ _ h H locs ls hP hD hS hl hn hL (zw_c trivial (zw_t (zw_t hT)))
  case isub =>
    replace h := zp2_i h
    obtain ⟨a, b, r, rfl, h⟩ := h
    intro H locs ls hP hD hS hl hn hL hT
    refine lv_isub hx hb hd ?_
    rw [← Int32.ofInt_sub]
    exact hk _ _ _ _ _ h H locs ls hP hD hS hl hn hL (zw_c trivial (zw_t (zw_t hT)))
  case imul =>
    replace h := zp2_i h
    obtain ⟨a, b, r, rfl, h⟩ := h
    intro H locs ls hP hD hS hl hn hL hT
    refine lv_imul hx hb hd ?_
    rw [← Int32.ofInt_mul]
    exact hk _ _ _ _ _ h H locs ls hP hD hS hl hn hL (zw_c trivial (zw_t (zw_t hT)))
  case idiv =>
    replace h := zp2_i h
    obtain ⟨a, b, r, rfl, ⟨h1, h2, h3, h4⟩, h⟩ := h
    intro H locs ls hP hD hS hl hn hL hT
    have hne : ¬ Int32.ofInt b = 0 := fun q => by have := (zi_eq ⟨by omega, by omega⟩ ⟨by omega, by omega⟩).mp (q.trans zi_0); omega
    refine lv_idiv hx hb hd hne ?_
    rw [zi_div h1 h2 h3 h4]
    exact hk _ _ _ _ _ h H locs ls hP hD hS hl hn hL (zw_c trivial (zw_t (zw_t hT)))
  case irem =>
    replace h := zp2_i h
    obtain ⟨a, b, r, rfl, ⟨h1, h2, h3, h4⟩, h⟩ := h
    intro H locs ls hP hD hS hl hn hL hT
    have hne : ¬ Int32.ofInt b = 0 := fun q => by have := (zi_eq ⟨by omega, by omega⟩ ⟨by omega, by omega⟩).mp (q.trans zi_0); omega
    refine lv_irem hx hb hd hne ?_
    rw [zi_rem h1 h2 h3 h4]
    exact hk _ _ _ _ _ h H locs ls hP hD hS hl hn hL (zw_c trivial (zw_t (zw_t hT)))
  case iand =>
    replace h := zp2_i h
    obtain ⟨a, b, r, rfl, h⟩ := h
    intro H locs ls hP hD hS hl hn hL hT
    refine lv_iand hx hb hd ?_
    rw [show (Int32.ofInt a &&& Int32.ofInt b) = Int32.ofInt (zand a b) from (Int32.ofInt_toInt _).symm]
    exact hk _ _ _ _ _ h H locs ls hP hD hS hl hn hL (zw_c trivial (zw_t (zw_t hT)))
  case ior =>
    replace h := zp2_i h
    obtain ⟨a, b, r, rfl, h⟩ := h
    intro H locs ls hP hD hS hl hn hL hT
    refine lv_ior hx hb hd ?_
    rw [show (Int32.ofInt a ||| Int32.ofInt b) = Int32.ofInt (zor a b) from (Int32.ofInt_toInt _).symm]
    exact hk _ _ _ _ _ h H locs ls hP hD hS hl hn hL (zw_c trivial (zw_t (zw_t hT)))
  case ixor =>
    replace h := zp2_i h
    obtain ⟨a, b, r, rfl, h⟩ := h
    intro H locs ls hP hD hS hl hn hL hT
    refine lv_ixor hx hb hd ?_
    rw [show (Int32.ofInt a ^^^ Int32.ofInt b) = Int32.ofInt (zxor a b) from (Int32.ofInt_toInt _).symm]
    exact hk _ _ _ _ _ h H locs ls hP hD hS hl hn hL (zw_c trivial (zw_t (zw_t hT)))
  case ishl =>
    replace h := zp2_i h
    obtain ⟨a, b, r, rfl, h⟩ := h
    intro H locs ls hP hD hS hl hn hL hT
    refine lv_ishl hx hb hd ?_
    rw [show (Int32.ofInt a <<< (Int32.ofInt b &&& 31)) = Int32.ofInt (zshl a b) from (Int32.ofInt_toInt _).symm]
    exact hk _ _ _ _ _ h H locs ls hP hD hS hl hn hL (zw_c trivial (zw_t (zw_t hT)))
  case ishr =>
    replace h := zp2_i h
    obtain ⟨a, b, r, rfl, h⟩ := h
    intro H locs ls hP hD hS hl hn hL hT
    refine lv_ishr hx hb hd ?_
    rw [show (Int32.ofInt a >>> (Int32.ofInt b &&& 31)) = Int32.ofInt (zshr a b) from (Int32.ofInt_toInt _).symm]
    exact hk _ _ _ _ _ h H locs ls hP hD hS hl hn hL (zw_c trivial (zw_t (zw_t hT)))
  case iushr =>
    replace h := zp2_i h
    obtain ⟨a, b, r, rfl, h⟩ := h
    intro H locs ls hP hD hS hl hn hL hT
    exact lv_iushr (v := Int32.ofInt (zushr a b)) hx hb hd (Int32.ofInt_toInt _).symm (hk _ _ _ _ _ h H locs ls hP hD hS hl hn hL (zw_c trivial (zw_t (zw_t hT))))
  case i2l =>
    replace h := zp1_i h
    obtain ⟨a, r, rfl, h⟩ := h
    intro H locs ls hP hD hS hl hn hL hT
    exact lv_i2l hx hb hd rfl (hk _ _ _ _ _ h H locs ls hP hD hS hl hn hL (zw_c trivial (zw_t hT)))
  case l2i =>
    replace h := zpL1_i h
    obtain ⟨a, r, rfl, h⟩ := h
    intro H locs ls hP hD hS hl hn hL hT
    exact lv_l2i (v := Int32.ofInt (zl2i a)) hx hb hd (Int32.ofInt_toInt _).symm (hk _ _ _ _ _ h H locs ls hP hD hS hl hn hL (zw_c trivial (zw_t hT)))
  case i2b =>
    replace h := zp1_i h
    obtain ⟨a, r, rfl, h⟩ := h
    intro H locs ls hP hD hS hl hn hL hT
    exact lv_i2b (v := Int32.ofInt (zi2b a)) hx hb hd (Int32.ofInt_toInt _).symm (hk _ _ _ _ _ h H locs ls hP hD hS hl hn hL (zw_c trivial (zw_t hT)))
  case i2s =>
    replace h := zp1_i h
    obtain ⟨a, r, rfl, h⟩ := h
    intro H locs ls hP hD hS hl hn hL hT
    exact lv_i2s (v := Int32.ofInt (zi2s a)) hx hb hd (Int32.ofInt_toInt _).symm (hk _ _ _ _ _ h H locs ls hP hD hS hl hn hL (zw_c trivial (zw_t hT)))
  case ladd =>
    replace h := zpL2_i h
    obtain ⟨a, b, r, rfl, h⟩ := h
    intro H locs ls hP hD hS hl hn hL hT
    exact lv_ladd hx hb hd (hk _ _ _ _ _ h H locs ls hP hD hS hl hn hL (zw_c trivial (zw_t (zw_t hT))))
  case lsub =>
    replace h := zpL2_i h
    obtain ⟨a, b, r, rfl, h⟩ := h
    intro H locs ls hP hD hS hl hn hL hT
    exact lv_lsub hx hb hd (hk _ _ _ _ _ h H locs ls hP hD hS hl hn hL (zw_c trivial (zw_t (zw_t hT))))
  case lmul =>
    replace h := zpL2_i h
    obtain ⟨a, b, r, rfl, h⟩ := h
    intro H locs ls hP hD hS hl hn hL hT
    exact lv_lmul hx hb hd (hk _ _ _ _ _ h H locs ls hP hD hS hl hn hL (zw_c trivial (zw_t (zw_t hT))))
  case land =>
    replace h := zpL2_i h
    obtain ⟨a, b, r, rfl, h⟩ := h
    intro H locs ls hP hD hS hl hn hL hT
    exact lv_land hx hb hd (hk _ _ _ _ _ h H locs ls hP hD hS hl hn hL (zw_c trivial (zw_t (zw_t hT))))
  case lor =>
    replace h := zpL2_i h
    obtain ⟨a, b, r, rfl, h⟩ := h
    intro H locs ls hP hD hS hl hn hL hT
    exact lv_lor hx hb hd (hk _ _ _ _ _ h H locs ls hP hD hS hl hn hL (zw_c trivial (zw_t (zw_t hT))))
  case lxor =>
    replace h := zpL2_i h
    obtain ⟨a, b, r, rfl, h⟩ := h
    intro H locs ls hP hD hS hl hn hL hT
    exact lv_lxor hx hb hd (hk _ _ _ _ _ h H locs ls hP hD hS hl hn hL (zw_c trivial (zw_t (zw_t hT))))
  case ldiv =>
    replace h := zpL2_i h
    obtain ⟨a, b, r, rfl, hne, h⟩ := h
    intro H locs ls hP hD hS hl hn hL hT
    exact lv_ldiv hx hb hd hne (hk _ _ _ _ _ h H locs ls hP hD hS hl hn hL (zw_c trivial (zw_t (zw_t hT))))
  case lrem =>
    replace h := zpL2_i h
    obtain ⟨a, b, r, rfl, hne, h⟩ := h
    intro H locs ls hP hD hS hl hn hL hT
    exact lv_lrem hx hb hd hne (hk _ _ _ _ _ h H locs ls hP hD hS hl hn hL (zw_c trivial (zw_t (zw_t hT))))
  case lshl =>
    replace h := zpLI_i h
    obtain ⟨a, b, r, rfl, h⟩ := h
    intro H locs ls hP hD hS hl hn hL hT
    exact lv_lshl hx hb hd rfl (hk _ _ _ _ _ h H locs ls hP hD hS hl hn hL (zw_c trivial (zw_t (zw_t hT))))
  case lushr =>
    replace h := zpLI_i h
    obtain ⟨a, b, r, rfl, h⟩ := h
    intro H locs ls hP hD hS hl hn hL hT
    exact lv_lushr hx hb hd rfl (hk _ _ _ _ _ h H locs ls hP hD hS hl hn hL (zw_c trivial (zw_t (zw_t hT))))
  case lcmp =>
    replace h := zpL2_i h
    obtain ⟨a, b, r, rfl, h⟩ := h
    intro H locs ls hP hD hS hl hn hL hT
    refine W.lcmp hx hb hd ?_
    rw [show lg_cmp a b = Int32.ofInt (zlcmp a b) from (Int32.ofInt_toInt _).symm]
    exact hk _ _ _ _ _ h H locs ls hP hD hS hl hn hL (zw_c trivial (zw_t (zw_t hT)))
  case goto o =>
    intro H locs ls hP hD hS hl hn hL hT
    exact lv_goto hx hb hd (of_decide_eq_true ht) (hk _ _ _ _ _ h H locs ls hP hD hS hl hn hL hT)
  case ifCond cc o =>
    exact st1_br C0 (Or.inl rfl) (of_decide_eq_true ht) hd h hk
  case if_icmp cc o =>
    exact st1_br C0 (Or.inr rfl) (of_decide_eq_true ht) hd h hk
  case ifnull o =>
    replace h := zpQ_i h
    obtain ⟨q, r, rfl, h⟩ := h
    intro H locs ls hP hD hS hl hn hL hT
    cases q with
    | none => exact lv_ifnullN hx hb hd (of_decide_eq_true ht) (hk _ _ _ _ _ h H locs ls hP hD hS hl hn hL (zw_t hT))
    | some q => exact lv_ifnull hx hb hd (hk _ _ _ _ _ h H locs ls hP hD hS hl hn hL (zw_t hT))
  case ifnonnull o =>
    replace h := zpQ_i h
    obtain ⟨q, r, rfl, h⟩ := h
    intro H locs ls hP hD hS hl hn hL hT
    cases q with
    | none => exact lv_ifnonnullN hx hb hd (hk _ _ _ _ _ h H locs ls hP hD hS hl hn hL (zw_t hT))
    | some q => exact lv_ifnonnull hx hb hd (of_decide_eq_true ht) (hk _ _ _ _ _ h H locs ls hP hD hS hl hn hL (zw_t hT))
  case getfield x =>
    exact st1_get C0 hd h hk
  case putfield x =>
    exact st1_put C0 hd h hk
  case arraylength =>
    replace h := zpR_i h
    obtain ⟨c1, k, r, rfl, h⟩ := h
    replace h := zif_i h
    obtain ⟨hc, h⟩ := h
    rw [Bool.and_eq_true] at hc
    have h8 := Nat.le_of_ble_eq_true hc.1
    have h11 := Nat.le_of_ble_eq_true hc.2
    intro H locs ls hP hD hS hl hn hL hT
    have hw : k < G.2.1 ∧ shG k = c1 := zw_h hT
    have hlen := z_len hG hw.1
    have hv : Int32.ofNat (zlen k).toNat = Int32.ofInt (zlen k) := by have e1 := zi_nI (zlen k).toNat; rw [Int.toNat_of_nonneg hlen.1] at e1; exact e1.symm
    have hgo := hk _ _ _ _ _ h H locs ls hP hD hS hl hn hL (zw_c trivial (zw_t hT))
    have hcell := zwl_get (σ := σ) hw.1
    rw [hw.2] at hcell
    match c1, h8, h11, hcell with
    | 8, _, _, hcell => exact va_alen (D := G.1) (cl := vwCl) hx hb hK hP k 0 hcell (ty := .int) rfl hv hd hgo
    | 9, _, _, hcell => exact va_alen (D := G.1) (cl := vwCl) hx hb hK hP k 1 hcell (ty := .long) rfl hv hd hgo
    | 10, _, _, hcell => exact va_alen (D := G.1) (cl := vwCl) hx hb hK hP k 2 hcell (ty := .boolean) rfl hv hd hgo
    | 11, _, _, hcell => exact va_alen (D := G.1) (cl := vwCl) hx hb hK hP k 3 hcell (ty := .object "MiddleQueue$Sheet") rfl hv hd hgo
  case iaload =>
    exact st1_ald C0 (Or.inl rfl) hd h hk
  case laload =>
    exact st1_ald C0 (Or.inr (Or.inl rfl)) hd h hk
  case baload =>
    exact st1_ald C0 (Or.inr (Or.inr (Or.inl rfl))) hd h hk
  case aaload =>
    exact st1_ald C0 (Or.inr (Or.inr (Or.inr rfl))) hd h hk
  case iastore =>
    exact st1_ast C0 (Or.inl rfl) hd h hk
  case lastore =>
    exact st1_ast C0 (Or.inr (Or.inl rfl)) hd h hk
  case bastore =>
    exact st1_ast C0 (Or.inr (Or.inr rfl)) hd h hk
  all_goals exact False.elim h
end SND3
end
section
/-! the rules of V: many steps at once, answers, calls -/
def wpN (Y : MI) : Nat → List Nat → Nat → List (Option VV) → List VV → zSt → (Nat → List (Option VV) → List VV → zSt → Prop) → Prop
  | 0, _, pc, L, st, σ, K => K pc L st σ
  | n + 1, ds, pc, L, st, σ, K => zop (Y.2.2.2.2.2 pc) fun q => st1 Y.2.2.2.2.1 q.1 q.2 ds pc L st σ (fun ds pc L st σ => wpN Y n ds pc L st σ K)
def zTok (Y : MI) : Prop := ∀ (pc : Nat) (q : Instr × Nat), Y.2.2.2.2.2 pc = some q → decode Y.2.1 pc = .ok (q.1, zsz q.1 q.2) ∧ zto pc q.1 q.2 = true
def zTab (n : Nat) (f : Nat → Option (Instr × Nat)) (pc : Nat) : Option (Instr × Nat) := bif Nat.blt pc n then f pc else none
def zchk (b : ByteArray) (f : Nat → Option (Instr × Nat)) (pc : Nat) : Bool := match f pc with
  | none => true
  | some q => decide (decode b pc = .ok (q.1, zsz q.1 q.2)) && zto pc q.1 q.2
theorem zTok_of {Y : MI} (n : Nat) (f : Nat → Option (Instr × Nat)) (h : Y.2.2.2.2.2 = zTab n f) (hc : (List.range n).all (zchk Y.2.1 f) = true) : zTok Y := by
  intro pc q hq
  rw [h] at hq
  unfold zTab at hq
  cases hb : Nat.blt pc n with
  | false => rw [hb] at hq; cases hq
  | true =>
    rw [hb] at hq
    have hq : f pc = some q := hq
    have h1 := List.all_eq_true.mp hc pc (List.mem_range.mpr (Nat.blt_eq.mp hb))
    unfold zchk at h1
    rw [hq] at h1
    simp only [Bool.and_eq_true, decide_eq_true_eq] at h1
    exact h1
theorem V_run {d : Nat} {Y : MI} {post : Option VV → zSt → Prop} (hT : zTok Y) : ∀ (n : Nat) (ds : List Nat) {pc : Nat} {L : List (Option VV)} {st : List VV} {σ : zSt}, wpN Y n ds pc L st σ (fun pc L st σ => V d Y pc L st σ post) → V d Y pc L st σ post
  | 0, _, _, _, _, _, h => h
  | n + 1, ds, pc, L, st, σ, h => by
    intro l p e R s m args below meth c G A C0
    replace h : zop (Y.2.2.2.2.2 pc) fun q => st1 Y.2.2.2.2.1 q.1 q.2 ds pc L st σ (fun ds pc L st σ => wpN Y n ds pc L st σ (fun pc L st σ => V d Y pc L st σ post)) := h
    obtain ⟨q, hq, h⟩ := zop_i h
    obtain ⟨hd, ht⟩ := hT pc q hq
    exact st1_ok C0 hd ht h (fun ds pc L st σ hk => V_run hT n ds hk l p e R s m args below meth c G A C0)
section RET
variable {d : Nat} {Y : MI} {post : Option VV → zSt → Prop} {pc t : Nat} {L : List (Option VV)} {σ : zSt}
theorem V_iret {z : Int} (hT : zTok Y) (ht : Y.2.2.2.2.2 pc = some (.ireturn, t)) (hr : Y.2.2.2.1 = some .int) (hp : post (some (vZ z)) σ) : V d Y pc L [vZ z] σ post := by
  intro l p e R s m args below meth c G A C0 H locs ls hP hD hS hl hn hL hW
  obtain ⟨hx, hb, hml, hown, hr2, hlocks, hts, hR, hK, hG, hA⟩ := C0
  exact W.iret (v := Int32.ofInt z) hx hb (hr2.trans hr) (fun t ht _ => ⟨⟨some (vZ z), σ, rfl, hp, fun w hw => by cases hw; trivial, by rw [ht]; exact hP, hD⟩, hS.F ht⟩) hS.2.2 (hT _ _ ht).1
theorem V_zret {z : Int} (hT : zTok Y) (ht : Y.2.2.2.2.2 pc = some (.ireturn, t)) (hr : Y.2.2.2.1 = some .boolean) (hz : z = 0 ∨ z = 1) (hp : post (some (vZ z)) σ) : V d Y pc L [vZ z] σ post := by
  intro l p e R s m args below meth c G A C0 H locs ls hP hD hS hl hn hL hW
  obtain ⟨hx, hb, hml, hown, hr2, hlocks, hts, hR, hK, hG, hA⟩ := C0
  exact W.zret (v := Int32.ofInt z) (ty := .boolean) hx hb (hr2.trans hr) (by rcases hz with rfl | rfl <;> decide) (fun t ht _ => ⟨⟨some (vZ z), σ, rfl, hp, fun w hw => by cases hw; trivial, by rw [ht]; exact hP, hD⟩, hS.F ht⟩) hS.2.2 (hT _ _ ht).1
theorem V_lret {x : Int64} (hT : zTok Y) (ht : Y.2.2.2.2.2 pc = some (.lreturn, t)) (hr : Y.2.2.2.1 = some .long) (hp : post (some (vL x)) σ) : V d Y pc L [vL x] σ post := by
  intro l p e R s m args below meth c G A C0 H locs ls hP hD hS hl hn hL hW
  obtain ⟨hx, hb, hml, hown, hr2, hlocks, hts, hR, hK, hG, hA⟩ := C0
  exact W.lret (v := x) hx hb (hr2.trans hr) (fun t ht _ => ⟨⟨some (vL x), σ, rfl, hp, fun w hw => by cases hw; trivial, by rw [ht]; exact hP, hD⟩, hS.F ht⟩) hS.2.2 (hT _ _ ht).1
theorem V_vret (hT : zTok Y) (ht : Y.2.2.2.2.2 pc = some (.return_, t)) (hr : Y.2.2.2.1 = none) (hp : post none σ) : V d Y pc L [] σ post := by
  intro l p e R s m args below meth c G A C0 H locs ls hP hD hS hl hn hL hW
  obtain ⟨hx, hb, hml, hown, hr2, hlocks, hts, hR, hK, hG, hA⟩ := C0
  exact W.vret hx hb (hr2.trans hr) (fun t ht _ => ⟨⟨none, σ, rfl, hp, fun w hw => (by cases hw), by rw [ht]; exact hP, hD⟩, hS.F ht⟩) hS.2.2 (hT _ _ ht).1
theorem V_aret {q : Option (Nat × Nat)} {nm : String} (hT : zTok Y) (ht : Y.2.2.2.2.2 pc = some (.areturn, t)) (hr : Y.2.2.2.1 = some (.object nm)) (hp : post (some (.inr (.inr q))) σ) : V d Y pc L [.inr (.inr q)] σ post := by
  intro l p e R s m args below meth c G A C0 H locs ls hP hD hS hl hn hL hW
  obtain ⟨hx, hb, hml, hown, hr2, hlocks, hts, hR, hK, hG, hA⟩ := C0
  exact W.aret (v := tv G.2.2.1 (.inr (.inr q))) hx hb (hr2.trans hr) (Or.inl ⟨nm, rfl⟩) (by cases q with | none => exact Or.inl rfl | some q => exact Or.inr ⟨_, rfl⟩) (fun t ht _ => ⟨⟨some (.inr (.inr q)), σ, rfl, hp, fun w hw => by cases hw; exact zw_h hW, by rw [ht]; exact hP, hD⟩, hS.F ht⟩) hS.2.2 (hT _ _ ht).1
end RET
/-! calls -/
def zla : List VV → List (Option VV)
  | [] => []
  | .inr (.inl x) :: r => some (.inr (.inl x)) :: none :: zla r
  | v :: r => some v :: zla r
def zargs (n : Nat) (a : List VV) : List (Option VV) := zla a ++ List.replicate (n - (zla a).length) none
def Mc (d : Nat) (Y : MI) (a : List VV) (σ : zSt) (post : Option VV → zSt → Prop) : Prop := V d Y 0 (zargs Y.2.2.1 a) [] σ post
theorem zlm_none (ad : Nat → Nat) : ∀ (k i : Nat), zlm ad i (List.replicate k none) = []
  | 0, _ => rfl
  | k + 1, i => zlm_none ad k (i + 1)
theorem zlm_zla (ad : Nat → Nat) (k : Nat) : ∀ (a : List VV) (i : Nat), zlm ad i (zla a ++ List.replicate k none) = lv_args i (a.map (tv ad))
  | [], i => zlm_none ad k i
  | .inl z :: r, i => by
    show (i, tv ad (.inl z)) :: zlm ad (i + 1) (zla r ++ List.replicate k none) = (i, tv ad (.inl z)) :: lv_args (i + 1) (r.map (tv ad))
    rw [zlm_zla ad k r]
  | .inr (.inl x) :: r, i => by
    show (i, tv ad (.inr (.inl x))) :: zlm ad (i + 2) (zla r ++ List.replicate k none) = (i, tv ad (.inr (.inl x))) :: lv_args (i + 2) (r.map (tv ad))
    rw [zlm_zla ad k r]
  | .inr (.inr none) :: r, i => by
    show (i, tv ad (.inr (.inr none))) :: zlm ad (i + 1) (zla r ++ List.replicate k none) = (i, tv ad (.inr (.inr none))) :: lv_args (i + 1) (r.map (tv ad))
    rw [zlm_zla ad k r]
  | .inr (.inr (some q)) :: r, i => by
    show (i, tv ad (.inr (.inr (some q)))) :: zlm ad (i + 1) (zla r ++ List.replicate k none) = (i, tv ad (.inr (.inr (some q)))) :: lv_args (i + 1) (r.map (tv ad))
    rw [zlm_zla ad k r]
theorem zla_len (ad : Nat → Nat) : ∀ a : List VV, (lg_sl (a.map (tv ad))).length = (zla a).length
  | [] => rfl
  | .inl z :: r => by
    show ([Slot.val (tv ad (.inl z))] ++ lg_sl (r.map (tv ad))).length = (some (.inl z) :: zla r).length
    rw [List.length_append, zla_len ad r, List.length_cons, Nat.add_comm]; rfl
  | .inr (.inl x) :: r => by
    show ([Slot.val (tv ad (.inr (.inl x))), Slot.second] ++ lg_sl (r.map (tv ad))).length = (some (.inr (.inl x)) :: none :: zla r).length
    rw [List.length_append, zla_len ad r, List.length_cons, List.length_cons, Nat.add_comm]; rfl
  | .inr (.inr none) :: r => by
    show ([Slot.val (tv ad (.inr (.inr none)))] ++ lg_sl (r.map (tv ad))).length = (some (.inr (.inr none)) :: zla r).length
    rw [List.length_append, zla_len ad r, List.length_cons, Nat.add_comm]; rfl
  | .inr (.inr (some q)) :: r => by
    show ([Slot.val (tv ad (.inr (.inr (some q))))] ++ lg_sl (r.map (tv ad))).length = (some (.inr (.inr (some q))) :: zla r).length
    rw [List.length_append, zla_len ad r, List.length_cons, Nat.add_comm]; rfl
theorem zla_mem {v : VV} : ∀ {a : List VV}, some v ∈ zla a → v ∈ a
  | [], h => by cases h
  | .inl z :: r, h => by
    rcases List.mem_cons.mp h with h | h
    · cases h; exact List.mem_cons_self
    · exact List.mem_cons_of_mem _ (zla_mem h)
  | .inr (.inl x) :: r, h => by
    rcases List.mem_cons.mp h with h | h
    · cases h; exact List.mem_cons_self
    · rcases List.mem_cons.mp h with h | h
      · cases h
      · exact List.mem_cons_of_mem _ (zla_mem h)
  | .inr (.inr none) :: r, h => by
    rcases List.mem_cons.mp h with h | h
    · cases h; exact List.mem_cons_self
    · exact List.mem_cons_of_mem _ (zla_mem h)
  | .inr (.inr (some q)) :: r, h => by
    rcases List.mem_cons.mp h with h | h
    · cases h; exact List.mem_cons_self
    · exact List.mem_cons_of_mem _ (zla_mem h)
abbrev zws (Y : MI) : List Cond := .code Y.1 Y.2.1 Y.2.2.1 Y.2.2.2.1 :: z_tbl
abbrev zrm (d : Nat) : Room := { frames := d, cells := 0, slots := 0, locals := 32 * d }
abbrev zPc (G : zFD) (σ : zSt) (a : List VV) (sz : Nat) : Array Value → State → Prop := va_Pc (a.map (tv G.2.2.1)) (fun U => U.heap.size = sz ∧ va_P G.1 vwCl (zwl G σ) U.heap ∧ va_K G.1 vwCl (zty G) U ∧ va_D (fun _ => True) (zwl G σ))
/-- what the tables say of a method -/
def zokM (Y : MI) (n : Nat) : Bool := decide (Cond.code Y.1 Y.2.1 Y.2.2.1 Y.2.2.2.1 ∈ z_tbl) && decide (Cond.initialized Y.1.cls ∈ z_tbl) && decide (Y.1.cls ≠ "java/lang/invoke/MethodHandle") && decide (Y.1.cls ≠ "java/lang/invoke/VarHandle") && decide ((parseMethodDescriptor Y.1.desc).map (fun d => d.parameters.length) = some n) && plainName Y.1.cls && decide (Y.1.cls = zown Y.2.2.2.2.1) && Nat.ble Y.2.2.1 13
def zokI (Y : MI) : Bool := decide (Cond.instanceMethod Y.1 ∈ z_tbl) && decide (Cond.selects Y.1.cls Y.1 Y.1 ∈ z_tbl)
def zokS (Y : MI) : Bool := decide (Cond.static Y.1 ∈ z_tbl)
theorem zokM_i {Y : MI} {n : Nat} (h : zokM Y n = true) : Cond.code Y.1 Y.2.1 Y.2.2.1 Y.2.2.2.1 ∈ z_tbl ∧ Cond.initialized Y.1.cls ∈ z_tbl ∧ Y.1.cls ≠ "java/lang/invoke/MethodHandle" ∧ Y.1.cls ≠ "java/lang/invoke/VarHandle" ∧ (parseMethodDescriptor Y.1.desc).map (fun d => d.parameters.length) = some n ∧ plainName Y.1.cls = true ∧ Y.1.cls = zown Y.2.2.2.2.1 ∧ Y.2.2.1 ≤ 13 := by
  unfold zokM at h
  simp only [Bool.and_eq_true, decide_eq_true_eq] at h
  obtain ⟨⟨⟨⟨⟨⟨⟨h1, h2⟩, h3⟩, h4⟩, h5⟩, h6⟩, h7⟩, h8⟩ := h
  exact ⟨h1, h2, h3, h4, h5, h6, h7, Nat.le_of_ble_eq_true h8⟩
theorem V_met {d n : Nat} {Y : MI} {a : List VV} {σ : zSt} {post : Option VV → zSt → Prop} (hok : zokM Y n = true) (hlen : (zla a).length ≤ Y.2.2.1) (h : Mc d Y a σ post) (l : Launch) (G : zFD) (hG : G.2.1 = 44 ∨ G.2.1 = 75) (hwt : zwts G a) (sz : Nat) :
    Met l Y.1 (zws Y) (zrm d) (zPc G σ a sz) (zQ post G (va_A (zwl G σ) sz)) 0 0 (va_A (zwl G σ) sz) := by
  obtain ⟨-, -, -, -, -, hpl, hcls, -⟩ := zokM_i hok
  refine Met.ofW (cc := Y.2.1) (maxL := Y.2.2.1) (ret := Y.2.2.2.1) hpl rfl ?_
  intro p e s m args below meth c s₁ B hml hv
  obtain ⟨rfl, hsz, hP, hK, hD0⟩ := hv
  subst hsz
  have hts := atoms_spec (ws := zws Y) B.pre
  have hown : s.vm.findClass Y.1.cls = some m.cls := findClass_of_methodNamed B.named
  rw [hcls] at hown
  have hl := lv_entry (a.map (tv G.2.2.1)) (n := Y.2.2.1) (by rw [zla_len]; exact hlen)
  rw [lg_entry_eq]
  rw [zla_len] at hl ⊢
  have hl2 : lv_has ((lg_sl (a.map (tv G.2.2.1)) ++ List.replicate (Y.2.2.1 - (zla a).length) Slot.unset).toArray) Y.2.2.1 (zlm G.2.2.1 0 (zargs Y.2.2.1 a)) := by
    rw [zargs, zlm_zla]; exact hl
  refine h l p e _ s m _ below meth c G _ ⟨B.exec, B.bytes, hml, hown, B.returns, B.notSynchronized, fun w hw => hts w (List.mem_cons_of_mem _ hw), ⟨Nat.le_refl _, Nat.le_refl _⟩, hK, hG, fun q hq => Or.inr hq⟩ s.heap [] _ hP hD0.self va_S.rf hl2 ?_ ?_ (fun v hv => absurd hv List.not_mem_nil)
  · unfold zargs
    rw [List.length_append, List.length_replicate]
    omega
  · intro v hv
    unfold zargs at hv
    rcases List.mem_append.mp hv with h1 | h1
    · exact hwt v (zla_mem h1)
    · have := List.eq_of_mem_replicate h1
      cases this
def zcat (st : List VV) : Nat := match st with
  | [] => 0
  | .inr (.inl _) :: r => 2 + zcat r
  | _ :: r => 1 + zcat r
theorem zcat_ok (ad : Nat → Nat) : ∀ st : List VV, ((st.map (tv ad)).map fun v => v.category).sum = zcat st
  | [] => rfl
  | .inl z :: r => by
    show 1 + ((r.map (tv ad)).map fun v => v.category).sum = 1 + zcat r
    rw [zcat_ok ad r]
  | .inr (.inl x) :: r => by
    show 2 + ((r.map (tv ad)).map fun v => v.category).sum = 2 + zcat r
    rw [zcat_ok ad r]
  | .inr (.inr none) :: r => by
    show 1 + ((r.map (tv ad)).map fun v => v.category).sum = 1 + zcat r
    rw [zcat_ok ad r]
  | .inr (.inr (some q)) :: r => by
    show 1 + ((r.map (tv ad)).map fun v => v.category).sum = 1 + zcat r
    rw [zcat_ok ad r]
theorem z_goodIn {Y : MI} (h : Cond.code Y.1 Y.2.1 Y.2.2.1 Y.2.2.2.1 ∈ z_tbl) : GoodIn z_tbl (zws Y) := by
  intro w hw
  rcases List.mem_cons.mp hw with rfl | hw
  · exact ⟨h, z_good h⟩
  · exact ⟨hw, z_good hw⟩
theorem zPc_blind {G : zFD} {σ : zSt} {a : List VV} {sz : Nat} : FrameBlind (zPc G σ a sz) := fun a U g mk q => by
  obtain ⟨q0, q1, qP, qK, qD⟩ := q
  exact ⟨q0, q1, qP, va_K.moved (u := U) (U := U.calling g mk a) (Vm.Alike.refl U.vm) qK, qD⟩
theorem va_A_in {G : zFD} {σ : zSt} {A : Nat → Prop} {H0 H : Heap} {locs : List Loc} (hD : va_D A (zwl G σ)) (hS : va_S A H0 H locs) (hA : ∀ q : Nat, H0.size ≤ q → A q) : ∀ q, va_A (zwl G σ) H.size q → A q := by
  intro q h
  rcases h with ⟨k, e, h⟩ | h
  · exact hD.2 k (q, e) h
  · exact hA q (Nat.le_trans hS.1 h)
theorem zmap_toList {ad : Nat → Nat} {v : Option VV} {r : List VV} : (v.map (tv ad)).toList ++ r.map (tv ad) = (v.toList ++ r).map (tv ad) := by
  cases v <;> rfl
section CALL
variable {d d' n idx t pc : Nat} {Y Y' : MI} {post post' : Option VV → zSt → Prop} {L : List (Option VV)} {st rest a : List VV} {σ : zSt}
/-- what is behind a call -/
theorem z_behind {l : Launch} {p : Program} {e : Env} {R : Room} {s : State} {m : MethodId} {args : Array Value} {below : List Frame} {meth : Method} {c : Code} {G : zFD} {A : Nat → Prop} {H : Heap} {locs : List Loc} {ls : Array Slot} {aa : Array Value}
    (C0 : Cx d Y p R s m args meth c G A) (hD : va_D A (zwl G σ)) (hS : va_S A s.heap H locs) (hl : lv_has ls Y.2.2.1 (zlm G.2.2.1 0 L)) (hn : L.length = Y.2.2.1) (hL : zwtl G L) (hW : zwts G rest)
    (hrun : va_Run p l e R s m args below meth c H locs 0 0 0 0 (F0 m pc ls (st.map (tv G.2.2.1))) (rest.map (tv G.2.2.1)) (zQ post' G (va_A (zwl G σ) H.size) aa) (va_A (zwl G σ) H.size))
    (kk : ∀ v σ', post' v σ' → V d Y (pc + 3) L (v.toList ++ rest) σ' post) :
    W p l e R s m args below meth c H locs 0 0 (MQ below (zQ post G A) args s 0 0 A) (F0 m pc ls (st.map (tv G.2.2.1))) := by
  have hAin := va_A_in hD hS C0.2.2.2.2.2.2.2.2.2.2
  intro T hT2 X
  obtain ⟨v, st₀, t1, T', L2, h0, X', hL2, e1, e2, ⟨⟨v', σ', hv, hp, hwt, hP1, hD1⟩, hz, hk1⟩, stp⟩ := hrun T hT2 X
  cases hv
  rw [h0] at hz hk1
  have hst : ∀ w ∈ v'.toList ++ rest, zwt G w := by
    intro w hw
    rcases List.mem_append.mp hw with h1 | h1
    · exact hwt w (by simpa using h1)
    · exact hW w h1
  have hk2 := kk v' σ' hp l p e R s m args below meth c G A C0 T'.heap (locs ++ L2) ls (by rw [e1]; exact hP1) (hD1.weaken (fun k q _ h => hAin q.1 h))
    ⟨Nat.le_trans hS.1 (by rw [e1]; exact hz), fun q h1 h2 => by rw [e1, hk1 q (Nat.lt_of_lt_of_le h1 hS.1) (fun z => h2 (hAin q z))]; exact hS.2.1 q h1 h2, fun q hq => by
      rcases List.mem_append.mp hq with h | h
      · exact hS.2.2 q h
      · exact hAin _ (hL2 q h)⟩ hl hn hL hst
  rw [← zmap_toList] at hk2
  obtain ⟨t2, a1, b1⟩ := hk2 T' rfl X'
  exact ⟨t2, stp t2 a1, b1⟩
theorem V_callV {c k : Nat} (hT : zTok Y) (hti : Y.2.2.2.2.2 pc = some (.invokevirtual idx, t)) (hok : zokM Y' n = true) (hoi : zokI Y' = true) (hlk : Cond.methodLink (zown Y.2.2.2.2.1) idx Y'.1 ∈ z_tbl) (hcl : (vwCl[c]?).map (fun q => q.1) = some Y'.1.cls) (han : a.length = n) (hst : st = a.reverse ++ vR c k :: rest) (hd : d' + 1 ≤ d) (hcat : zcat rest ≤ 8) (hlen : (zla (vR c k :: a)).length ≤ Y'.2.2.1)
    (hc : Mc d' Y' (vR c k :: a) σ post') (kk : ∀ v σ', post' v σ' → V d Y (pc + 3) L (v.toList ++ rest) σ' post) : V d Y pc L st σ post := by
  subst hst
  intro l p e R s m args below meth cc G A C0 H locs ls hP hD hS hl hn hL hW
  obtain ⟨hx, hb, hml, hown, hr2, hlocks, hts, hR, hK, hG, hA⟩ := id C0
  obtain ⟨ho1, ho2, ho3, ho4, ho5, ho6, ho7, ho8⟩ := zokM_i hok
  unfold zokI at hoi
  simp only [Bool.and_eq_true, decide_eq_true_eq] at hoi
  have hwa : zwts G (vR c k :: a) := by
    intro w hw
    rcases List.mem_cons.mp hw with rfl | h
    · exact hW _ (List.mem_append_right _ List.mem_cons_self)
    · exact hW _ (List.mem_append_left _ (List.mem_reverse.mpr h))
  have hwk : k < G.2.1 ∧ shG k = c := hwa _ List.mem_cons_self
  have hwr : zwts G rest := fun w hw => hW w (List.mem_append_right _ (List.mem_cons_of_mem _ hw))
  cases hvc : vwCl[c]? with
  | none => rw [hvc] at hcl; cases hcl
  | some q =>
    rw [hvc] at hcl
    have hq1 : q.1 = Y'.1.cls := Option.some.inj hcl
    obtain ⟨C, TT, N⟩ := q
    have hc8 := (zcl_ok hvc).1
    have hcell : (zwl G σ)[k]? = some (G.2.2.1 k, .inr (c, (zfk c).mapIdx (fun j q => zcf G.2.2.1 σ k j q))) := by rw [zwl_get hwk.1, hwk.2, zce_obj hc8]
    have hM := V_met hok hlen hc l G hG hwa H.size
    have hrecv := va_recv hK hP hvc hcell
    have hcb : CallB R s args (zown Y.2.2.2.2.1) idx Y'.1 Y'.2.1 Y'.2.2.1 Y'.2.2.2.1 (zws Y') (zrm d') 0 0 n := callB_of n hts (z_goodIn ho1) rfl rfl rfl (hts _ ho2) (hts _ hlk) ⟨ho3, ho4, ho5⟩ ⟨by show d' + 1 ≤ R.frames; omega, by show 8 + (Y'.2.2.1 + 11) + 32 * d' ≤ R.locals; omega⟩
    have hrun := va_runV (C := C) (As := a.map (tv G.2.2.1)) (rest := rest.map (tv G.2.2.1)) (g := F0 m pc ls ((a.reverse ++ vR c k :: rest).map (tv G.2.2.1))) (cells := 0) (slots := 0) (l := l) (e := e) (below := below) (meth := meth) (locs := locs) ⟨hx, hb, hml, hown, hts⟩ hM ⟨hcb, hts _ hoi.1, by have h9 := hts _ hoi.2; rw [← hq1] at h9; exact h9⟩
      ⟨zPc_blind, hrecv, fun U hU hWW => ⟨rfl, by rw [hU], by rw [hU]; exact hP, va_K.moved hWW.alike hK, hD.weaken (fun _ _ _ _ => trivial)⟩⟩ rfl (by rw [List.length_map]; exact han) hl.1 (by simp [tv, List.map_reverse]) (lv_room (by rw [zcat_ok]; exact hcat)) (hT _ _ hti).1 ⟨Nat.zero_le _, Nat.zero_le _⟩
    exact z_behind C0 hD hS hl hn hL hwr hrun kk
theorem V_callS (hT : zTok Y) (hti : Y.2.2.2.2.2 pc = some (.invokestatic idx, t)) (hok : zokM Y' n = true) (hoi : zokS Y' = true) (hlk : Cond.methodLink (zown Y.2.2.2.2.1) idx Y'.1 ∈ z_tbl) (han : a.length = n) (hst : st = a.reverse ++ rest) (hd : d' + 1 ≤ d) (hcat : zcat rest ≤ 8) (hlen : (zla a).length ≤ Y'.2.2.1)
    (hc : Mc d' Y' a σ post') (kk : ∀ v σ', post' v σ' → V d Y (pc + 3) L (v.toList ++ rest) σ' post) : V d Y pc L st σ post := by
  subst hst
  intro l p e R s m args below meth cc G A C0 H locs ls hP hD hS hl hn hL hW
  obtain ⟨hx, hb, hml, hown, hr2, hlocks, hts, hR, hK, hG, hA⟩ := id C0
  obtain ⟨ho1, ho2, ho3, ho4, ho5, ho6, ho7, ho8⟩ := zokM_i hok
  unfold zokS at hoi
  simp only [decide_eq_true_eq] at hoi
  have hwa : zwts G a := fun w h => hW _ (List.mem_append_left _ (List.mem_reverse.mpr h))
  have hwr : zwts G rest := fun w hw => hW w (List.mem_append_right _ hw)
  have hM := V_met hok hlen hc l G hG hwa H.size
  have hcb : CallB R s args (zown Y.2.2.2.2.1) idx Y'.1 Y'.2.1 Y'.2.2.1 Y'.2.2.2.1 (zws Y') (zrm d') 0 0 n := callB_of n hts (z_goodIn ho1) rfl rfl rfl (hts _ ho2) (hts _ hlk) ⟨ho3, ho4, ho5⟩ ⟨by show d' + 1 ≤ R.frames; omega, by show 8 + (Y'.2.2.1 + 11) + 32 * d' ≤ R.locals; omega⟩
  have hrun := va_runS (As := a.map (tv G.2.2.1)) (rest := rest.map (tv G.2.2.1)) (g := F0 m pc ls ((a.reverse ++ rest).map (tv G.2.2.1))) (cells := 0) (slots := 0) (l := l) (e := e) (below := below) (meth := meth) (locs := locs) ⟨hx, hb, hml, hown, hts⟩ hM ⟨hcb, hts _ hoi⟩
    ⟨zPc_blind, fun U hU hWW => ⟨rfl, by rw [hU], by rw [hU]; exact hP, va_K.moved hWW.alike hK, hD.weaken (fun _ _ _ _ => trivial)⟩⟩ rfl (by rw [List.length_map]; exact han) hl.1 (by simp [tv, List.map_reverse]) (lv_room (by rw [zcat_ok]; exact hcat)) (hT _ _ hti).1 ⟨Nat.zero_le _, Nat.zero_le _⟩
  exact z_behind C0 hD hS hl hn hL hwr hrun kk
end CALL
end
section
/-! the rules of V: switches, Math, rows copied -/
def cpI (σ : zSt) (k0 : Nat) (sp : Int) (k1 : Nat) (dp n : Int) : zSt := (fun a b => if a = k1 ∧ dp ≤ b ∧ b < dp + n then σ.1 k0 (sp + (b - dp)) else σ.1 a b, σ.2)
section R2
variable {d n idx t pc : Nat} {Y : MI} {post : Option VV → zSt → Prop} {L : List (Option VV)} {rest : List VV} {σ : zSt}
theorem V_tsIn {z dflt lo hi off : Int} {offs : Array Int} {tgt : Nat} (hT : zTok Y) (hti : Y.2.2.2.2.2 pc = some (.tableswitch dflt lo hi offs, t)) (hz : zr z) (h1 : lo ≤ z) (h2 : z ≤ hi) (ho : offs[(z - lo).toNat]? = some off) (ht : (pc : Int) + off = (tgt : Int)) (kk : V d Y tgt L rest σ post) : V d Y pc L (vZ z :: rest) σ post := by
  intro l p e R s m args below meth cc G A C0 H locs ls hP hD hS hl hn hL hW
  have hgo := kk l p e R s m args below meth cc G A C0 H locs ls hP hD hS hl hn hL (zw_t hW)
  have ez := zi_to hz
  exact lv_tableIn C0.1 C0.2.1 (hT _ _ hti).1 (by rw [ez]; omega) (by rw [ez]; omega) (by rw [ez]; exact ho) ht hgo
theorem V_tsOut {z dflt lo hi : Int} {offs : Array Int} {tgt : Nat} (hT : zTok Y) (hti : Y.2.2.2.2.2 pc = some (.tableswitch dflt lo hi offs, t)) (hz : zr z) (h1 : z < lo ∨ hi < z) (ht : (pc : Int) + dflt = (tgt : Int)) (kk : V d Y tgt L rest σ post) : V d Y pc L (vZ z :: rest) σ post := by
  intro l p e R s m args below meth cc G A C0 H locs ls hP hD hS hl hn hL hW
  have hgo := kk l p e R s m args below meth cc G A C0 H locs ls hP hD hS hl hn hL (zw_t hW)
  have ez := zi_to hz
  exact lv_tableOut C0.1 C0.2.1 (hT _ _ hti).1 (by rw [ez]; exact h1) ht hgo
theorem V_ls {z dflt off : Int} {ps : Array (Int × Int)} {tgt : Nat} (hT : zTok Y) (hti : Y.2.2.2.2.2 pc = some (.lookupswitch dflt ps, t)) (hz : zr z) (hps : (ps.toList.zip (ps.toList.drop 1)).all (fun (a, next) => a.1 < next.1) = true) (ho : Op.lookupswitch.offset ps.toList dflt z = off) (ht : (pc : Int) + off = (tgt : Int)) (kk : V d Y tgt L rest σ post) : V d Y pc L (vZ z :: rest) σ post := by
  intro l p e R s m args below meth cc G A C0 H locs ls hP hD hS hl hn hL hW
  have hgo := kk l p e R s m args below meth cc G A C0 H locs ls hP hD hS hl hn hL (zw_t hW)
  exact lv_lookup C0.1 C0.2.1 (hT _ _ hti).1 hps (by rw [zi_to hz]; exact ho) ht hgo
theorem z_math {w : Cond} (h : decide (w ∈ z_tbl) = true) : w ∈ z_tbl := of_decide_eq_true h
theorem z_mini : Cond.initialized "java/lang/Math" ∈ z_tbl := by decide +kernel
theorem z_mmin : Cond.static Lib.Math.min.name ∈ z_tbl ∧ Cond.code Lib.Math.min.name Lib.Math.min.code 2 (some .int) ∈ z_tbl := by decide +kernel
theorem z_mmax : Cond.static Lib.Math.max.name ∈ z_tbl ∧ Cond.code Lib.Math.max.name Lib.Math.max.code 2 (some .int) ∈ z_tbl := by decide +kernel
theorem z_mabs : Cond.static Lib.Math.abs.name ∈ z_tbl ∧ Cond.code Lib.Math.abs.name Lib.Math.abs.code 1 (some .int) ∈ z_tbl := by decide +kernel
theorem z_acp : Cond.static arraycopyName ∈ z_tbl ∧ Cond.native arraycopyName ∈ z_tbl ∧ Cond.initialized "java/lang/System" ∈ z_tbl := by decide +kernel
theorem V_min {x y : Int} (hT : zTok Y) (hti : Y.2.2.2.2.2 pc = some (.invokestatic idx, t)) (hlk : Cond.methodLink (zown Y.2.2.2.2.1) idx Lib.Math.min.name ∈ z_tbl) (hd : 1 ≤ d) (hcat : zcat rest ≤ 8) (hzx : zr x) (hzy : zr y) (kk : V d Y (pc + 3) L (vZ (if y < x then y else x) :: rest) σ post) : V d Y pc L (vZ y :: vZ x :: rest) σ post := by
  intro l p e R s m args below meth cc G A C0 H locs ls hP hD hS hl hn hL hW
  obtain ⟨hx, hb, hml, hown, hr2, hlocks, hts, hR, hK, hG, hA⟩ := id C0
  have hgo := kk l p e R s m args below meth cc G A C0 H locs ls hP hD hS hl hn hL (zw_c trivial (zw_t (zw_t hW)))
  refine va_mmin hx hb (hml.trans hl.1.symm) hown (hts _ hlk) (hts _ z_mmin.1) (hts _ z_mini) (hts _ z_mmin.2) (by omega) (by rw [zcat_ok]; omega) (Nat.zero_le _) (Nat.zero_le _) (hT _ _ hti).1 ?_
  have e1 : (if Int32.ofInt y < Int32.ofInt x then Int32.ofInt y else Int32.ofInt x) = Int32.ofInt (if y < x then y else x) := by
    by_cases h : y < x
    · rw [if_pos h, if_pos ((zi_lt hzy hzx).mpr h)]
    · rw [if_neg h, if_neg (fun q => h ((zi_lt hzy hzx).mp q))]
  rw [e1]
  exact hgo
theorem V_max {x y : Int} (hT : zTok Y) (hti : Y.2.2.2.2.2 pc = some (.invokestatic idx, t)) (hlk : Cond.methodLink (zown Y.2.2.2.2.1) idx Lib.Math.max.name ∈ z_tbl) (hd : 1 ≤ d) (hcat : zcat rest ≤ 8) (hzx : zr x) (hzy : zr y) (kk : V d Y (pc + 3) L (vZ (if x < y then y else x) :: rest) σ post) : V d Y pc L (vZ y :: vZ x :: rest) σ post := by
  intro l p e R s m args below meth cc G A C0 H locs ls hP hD hS hl hn hL hW
  obtain ⟨hx, hb, hml, hown, hr2, hlocks, hts, hR, hK, hG, hA⟩ := id C0
  have hgo := kk l p e R s m args below meth cc G A C0 H locs ls hP hD hS hl hn hL (zw_c trivial (zw_t (zw_t hW)))
  refine va_mmax hx hb (hml.trans hl.1.symm) hown (hts _ hlk) (hts _ z_mmax.1) (hts _ z_mini) (hts _ z_mmax.2) (by omega) (by rw [zcat_ok]; omega) (Nat.zero_le _) (Nat.zero_le _) (hT _ _ hti).1 ?_
  have e1 : (if Int32.ofInt x < Int32.ofInt y then Int32.ofInt y else Int32.ofInt x) = Int32.ofInt (if x < y then y else x) := by
    by_cases h : x < y
    · rw [if_pos h, if_pos ((zi_lt hzx hzy).mpr h)]
    · rw [if_neg h, if_neg (fun q => h ((zi_lt hzx hzy).mp q))]
  rw [e1]
  exact hgo
theorem V_abs {x : Int} (hT : zTok Y) (hti : Y.2.2.2.2.2 pc = some (.invokestatic idx, t)) (hlk : Cond.methodLink (zown Y.2.2.2.2.1) idx Lib.Math.abs.name ∈ z_tbl) (hd : 1 ≤ d) (hcat : zcat rest ≤ 8) (hzx : zr x) (kk : V d Y (pc + 3) L (vZ (if 0 ≤ x then x else 0 - x) :: rest) σ post) : V d Y pc L (vZ x :: rest) σ post := by
  intro l p e R s m args below meth cc G A C0 H locs ls hP hD hS hl hn hL hW
  obtain ⟨hx, hb, hml, hown, hr2, hlocks, hts, hR, hK, hG, hA⟩ := id C0
  have hgo := kk l p e R s m args below meth cc G A C0 H locs ls hP hD hS hl hn hL (zw_c trivial (zw_t hW))
  refine va_mabs hx hb (hml.trans hl.1.symm) hown (hts _ hlk) (hts _ z_mabs.1) (hts _ z_mini) (hts _ z_mabs.2) (by omega) (by rw [zcat_ok]; omega) (Nat.zero_le _) (Nat.zero_le _) (hT _ _ hti).1 ?_
  have z0 : zr 0 := ⟨by omega, by omega⟩
  have e1 : (if 0 ≤ Int32.ofInt x then Int32.ofInt x else 0 - Int32.ofInt x) = Int32.ofInt (if 0 ≤ x then x else 0 - x) := by
    by_cases h : 0 ≤ x
    · have h9 : (0 : Int32) ≤ Int32.ofInt x := (zi_le z0 hzx).mpr h
      rw [if_pos h, if_pos h9]
    · have h9 : ¬ (0 : Int32) ≤ Int32.ofInt x := fun q => h ((zi_le z0 hzx).mp q)
      rw [if_neg h, if_neg h9, Int32.ofInt_sub]; rfl
  rw [e1]
  exact hgo
theorem V_copy {k0 k1 : Nat} {sp dp nn : Int} (hT : zTok Y) (hti : Y.2.2.2.2.2 pc = some (.invokestatic idx, t)) (hlk : Cond.methodLink (zown Y.2.2.2.2.1) idx arraycopyName ∈ z_tbl) (hd : 1 ≤ d) (hcat : zcat rest = 0) (h1 : 0 ≤ sp) (h2 : 0 ≤ dp) (h3 : 0 ≤ nn) (h4 : sp + nn ≤ zlen k0) (h5 : dp + nn ≤ zlen k1)
    (kk : V d Y (pc + 3) L rest (cpI σ k0 sp k1 dp nn) post) : V d Y pc L (vZ nn :: vZ dp :: vR 8 k1 :: vZ sp :: vR 8 k0 :: rest) σ post := by
  intro l p e R s m args below meth cc G A C0 H locs ls hP hD hS hl hn hL hW
  obtain ⟨hx, hb, hml, hown, hr2, hlocks, hts, hR, hK, hG, hA⟩ := id C0
  have hw1 : k1 < G.2.1 ∧ shG k1 = 8 := zw_h (zw_t (zw_t hW))
  have hw0 : k0 < G.2.1 ∧ shG k0 = 8 := zw_h (zw_t (zw_t (zw_t (zw_t hW))))
  have l0 := z_len hG hw0.1
  have l1 := z_len hG hw1.1
  have hc0 : (zwl G σ)[k0]? = some (G.2.2.1 k0, .inl (G.2.2.2 0, (zlen k0).toNat, .inl (fun j : Nat => Int32.ofInt (σ.1 k0 j)))) := by rw [zwl_get hw0.1, hw0.2]; rfl
  have hc1 : (zwl G σ)[k1]? = some (G.2.2.1 k1, .inl (G.2.2.2 0, (zlen k1).toNat, .inl (fun j : Nat => Int32.ofInt (σ.1 k1 j)))) := by rw [zwl_get hw1.1, hw1.2]; rfl
  have zs : zr sp := ⟨by omega, by omega⟩
  have zd : zr dp := ⟨by omega, by omega⟩
  have zn : zr nn := ⟨by omega, by omega⟩
  have z0 : zr 0 := ⟨by omega, by omega⟩
  have es : (Int32.ofInt sp).toNatClampNeg = sp.toNat := Int32.toNatClampNeg_ofInt_of_le (by omega) (by omega)
  have ed : (Int32.ofInt dp).toNatClampNeg = dp.toNat := Int32.toNatClampNeg_ofInt_of_le (by omega) (by omega)
  have en : (Int32.ofInt nn).toNatClampNeg = nn.toNat := Int32.toNatClampNeg_ofInt_of_le (by omega) (by omega)
  have hnf : nativeFrameWords "java/lang/System" "arraycopy" 5 ≤ 21 := by decide
  refine va_copyi (D := G.1) (cl := vwCl) (ty := .int) hx hb (hml.trans hl.1.symm) hown (hts _ hlk) (hts _ z_acp.2.1) (hts _ z_acp.1) (hts _ z_acp.2.2) hK hP hD hS k0 k1 0 0 hc0 hc1 rfl rfl rfl
    (fun q => by have := (zi_lt zs z0).mp q; omega) (fun q => by have := (zi_lt zd z0).mp q; omega) (fun q => by have := (zi_lt zn z0).mp q; omega) (by rw [es, en]; omega) (by rw [ed, en]; omega) (fun _ _ => rfl) (by omega) (by rw [zcat_ok]; omega) (hT _ _ hti).1 (fun H1 locs1 hP1 hD1 hS1 => ?_)
  have e1 : (zwl G σ).set k1 (G.2.2.1 k1, .inl (G.2.2.2 0, (zlen k1).toNat, .inl (va_cpy (fun j : Nat => Int32.ofInt (σ.1 k0 j)) (fun j : Nat => Int32.ofInt (σ.1 k1 j)) (Int32.ofInt sp).toNatClampNeg (Int32.ofInt dp).toNatClampNeg (Int32.ofInt nn).toNatClampNeg))) = zwl G (cpI σ k0 sp k1 dp nn) := by
    refine zwl_set ?_ (fun q hq => zce_eq (fun _ => if_neg (fun z => hq z.1)) (fun _ => rfl))
    rw [hw1.2, es, ed, en]
    have ef : (fun j : Nat => Int32.ofInt ((cpI σ k0 sp k1 dp nn).1 k1 j)) = va_cpy (fun j : Nat => Int32.ofInt (σ.1 k0 j)) (fun j : Nat => Int32.ofInt (σ.1 k1 j)) sp.toNat dp.toNat nn.toNat := by
      funext j
      unfold va_cpy cpI
      by_cases h : dp.toNat ≤ j ∧ j < dp.toNat + nn.toNat
      · rw [if_pos h]
        show Int32.ofInt (if k1 = k1 ∧ dp ≤ (j : Int) ∧ (j : Int) < dp + nn then σ.1 k0 (sp + ((j : Int) - dp)) else σ.1 k1 j) = Int32.ofInt (σ.1 k0 ((sp.toNat + (j - dp.toNat) : Nat) : Int))
        have e9 : sp + ((j : Int) - dp) = ((sp.toNat + (j - dp.toNat) : Nat) : Int) := by omega
        rw [if_pos ⟨rfl, by omega, by omega⟩, e9]
      · rw [if_neg h]
        show Int32.ofInt (if k1 = k1 ∧ dp ≤ (j : Int) ∧ (j : Int) < dp + nn then σ.1 k0 (sp + ((j : Int) - dp)) else σ.1 k1 j) = Int32.ofInt (σ.1 k1 j)
        rw [if_neg (fun z => h ⟨by omega, by omega⟩)]
    rw [← ef]
    rfl
  rw [e1] at hP1 hD1
  exact kk l p e R s m args below meth cc G A C0 H1 locs1 ls hP1 hD1 hS1 hl hn hL (zw_t (zw_t (zw_t (zw_t (zw_t hW)))))
/-- what stands on the top of the stack, put another way -/
theorem V_top {x y : Int} (h : x = y) (kk : V d Y pc L (vZ y :: rest) σ post) : V d Y pc L (vZ x :: rest) σ post := h ▸ kk
end R2
theorem V_mono {d d' pc : Nat} {Y : MI} {L : List (Option VV)} {st : List VV} {σ : zSt} {post : Option VV → zSt → Prop} (h : d ≤ d') (hv : V d Y pc L st σ post) : V d' Y pc L st σ post := by
  intro l p e R s m args below meth cc G A C0
  obtain ⟨hx, hb, hml, hown, hr2, hlocks, hts, hR, hK, hG, hA⟩ := C0
  exact hv l p e R s m args below meth cc G A ⟨hx, hb, hml, hown, hr2, hlocks, hts, ⟨by omega, by omega⟩, hK, hG, hA⟩
theorem V_post {d pc : Nat} {Y : MI} {L : List (Option VV)} {st : List VV} {σ : zSt} {post post' : Option VV → zSt → Prop} (h : ∀ v σ', post v σ' → post' v σ') (hv : V d Y pc L st σ post) : V d Y pc L st σ post' := by
  intro l p e R s m args below meth cc G A C0 H locs ls hP hD hS hl hn hL hW T hT X
  obtain ⟨t, hst, o, h1, h2, ⟨⟨v, σ', h3, h4, h5⟩, h6⟩, h7⟩ := hv l p e R s m args below meth cc G A C0 H locs ls hP hD hS hl hn hL hW T hT X
  exact ⟨t, hst, o, h1, h2, ⟨⟨v, σ', h3, h _ _ h4, h5⟩, h6⟩, h7⟩
theorem zokM_mk {Y : MI} {n : Nat} (h1 : Cond.code Y.1 Y.2.1 Y.2.2.1 Y.2.2.2.1 ∈ z_tbl) (h2 : Cond.initialized Y.1.cls ∈ z_tbl) (h3 : (decide (Y.1.cls ≠ "java/lang/invoke/MethodHandle") && decide (Y.1.cls ≠ "java/lang/invoke/VarHandle") && decide ((parseMethodDescriptor Y.1.desc).map (fun d => d.parameters.length) = some n) && plainName Y.1.cls && decide (Y.1.cls = zown Y.2.2.2.2.1) && Nat.ble Y.2.2.1 13) = true) : zokM Y n = true := by
  unfold zokM
  simp only [Bool.and_eq_true, decide_eq_true_eq] at h3 ⊢
  exact ⟨⟨⟨⟨⟨⟨⟨h1, h2⟩, h3.1.1.1.1.1⟩, h3.1.1.1.1.2⟩, h3.1.1.1.2⟩, h3.1.1.2⟩, h3.1.2⟩, h3.2⟩
theorem zokI_mk {Y : MI} (h1 : Cond.instanceMethod Y.1 ∈ z_tbl) (h2 : Cond.selects Y.1.cls Y.1 Y.1 ∈ z_tbl) : zokI Y = true := by
  unfold zokI
  rw [Bool.and_eq_true]
  exact ⟨decide_eq_true h1, decide_eq_true h2⟩
theorem zokS_mk {Y : MI} (h1 : Cond.static Y.1 ∈ z_tbl) : zokS Y = true := decide_eq_true h1
end
section
theorem z_ini8 : Cond.initialized (zown 8) ∈ z_tbl := (z_in (List.mem_of_getElem? (i := 86) (by decide +kernel)) rfl)
theorem z_ini5 : Cond.initialized (zown 5) ∈ z_tbl := (z_in (List.mem_of_getElem? (i := 77) (by decide +kernel)) rfl)
theorem z_ini4 : Cond.initialized (zown 4) ∈ z_tbl := (z_in (List.mem_of_getElem? (i := 81) (by decide +kernel)) rfl)
theorem z_ini3 : Cond.initialized (zown 3) ∈ z_tbl := (z_in (List.mem_of_getElem? (i := 82) (by decide +kernel)) rfl)
theorem z_ini2 : Cond.initialized (zown 2) ∈ z_tbl := (z_in (List.mem_of_getElem? (i := 79) (by decide +kernel)) rfl)
theorem z_ini1 : Cond.initialized (zown 1) ∈ z_tbl := (z_in (List.mem_of_getElem? (i := 83) (by decide +kernel)) rfl)
theorem z_ini0 : Cond.initialized (zown 0) ∈ z_tbl := (z_in (List.mem_of_getElem? (i := 80) (by decide +kernel)) rfl)
def tX0_run : Nat → Option (Instr × Nat) := fun pc => bif Nat.blt pc 33 then (bif Nat.blt pc 18 then (bif Nat.blt pc 9 then (bif Nat.blt pc 2 then (bif Nat.blt pc 1 then (bif Nat.beq pc 0 then some (.aload_n 0, 0) else none) else (bif Nat.beq pc 1 then some (.aload_n 1, 0) else none)) else (bif Nat.blt pc 5 then (bif Nat.beq pc 2 then some (.invokevirtual 18, 0) else none) else (bif Nat.blt pc 8 then (bif Nat.beq pc 5 then some (.putfield 24, 0) else none) else (bif Nat.beq pc 8 then some (.aload_n 0, 0) else none)))) else (bif Nat.blt pc 13 then (bif Nat.blt pc 10 then (bif Nat.beq pc 9 then some (.lconst 0, 0) else none) else (bif Nat.beq pc 10 then some (.putfield 27, 0) else none)) else (bif Nat.blt pc 14 then (bif Nat.beq pc 13 then some (.aload_n 0, 0) else none) else (bif Nat.blt pc 15 then (bif Nat.beq pc 14 then some (.aload_n 1, 0) else none) else (bif Nat.beq pc 15 then some (.invokevirtual 31, 0) else none))))) else (bif Nat.blt pc 26 then (bif Nat.blt pc 22 then (bif Nat.blt pc 21 then (bif Nat.beq pc 18 then some (.putfield 35, 0) else none) else (bif Nat.beq pc 21 then some (.iconst 0, 0) else none)) else (bif Nat.blt pc 23 then (bif Nat.beq pc 22 then some (.istore_n 3, 0) else none) else (bif Nat.blt pc 24 then (bif Nat.beq pc 23 then some (.iload_n 3, 0) else none) else (bif Nat.beq pc 24 then some (.bipush 24, 0) else none)))) else (bif Nat.blt pc 30 then (bif Nat.blt pc 29 then (bif Nat.beq pc 26 then some (.if_icmp .ge 45, 71) else none) else (bif Nat.beq pc 29 then some (.aload_n 0, 0) else none)) else (bif Nat.blt pc 31 then (bif Nat.beq pc 30 then some (.aload_n 1, 0) else none) else (bif Nat.blt pc 32 then (bif Nat.beq pc 31 then some (.aload_n 1, 0) else none) else (bif Nat.beq pc 32 then some (.iload_n 3, 0) else none)))))) else (bif Nat.blt pc 51 then (bif Nat.blt pc 42 then (bif Nat.blt pc 37 then (bif Nat.blt pc 36 then (bif Nat.beq pc 33 then some (.invokevirtual 38, 0) else none) else (bif Nat.beq pc 36 then some (.iload_n 2, 0) else none)) else (bif Nat.blt pc 38 then (bif Nat.beq pc 37 then some (.iand, 0) else none) else (bif Nat.blt pc 41 then (bif Nat.beq pc 38 then some (.invokevirtual 42, 0) else none) else (bif Nat.beq pc 41 then some (.aload_n 0, 0) else none)))) else (bif Nat.blt pc 44 then (bif Nat.blt pc 43 then (bif Nat.beq pc 42 then some (.aload_n 1, 0) else none) else (bif Nat.beq pc 43 then some (.aload_n 1, 0) else none)) else (bif Nat.blt pc 45 then (bif Nat.beq pc 44 then some (.iload_n 3, 0) else none) else (bif Nat.blt pc 48 then (bif Nat.beq pc 45 then some (.invokevirtual 46, 0) else none) else (bif Nat.beq pc 48 then some (.invokevirtual 49, 0) else none))))) else (bif Nat.blt pc 60 then (bif Nat.blt pc 53 then (bif Nat.blt pc 52 then (bif Nat.beq pc 51 then some (.aload_n 0, 0) else none) else (bif Nat.beq pc 52 then some (.aload_n 1, 0) else none)) else (bif Nat.blt pc 54 then (bif Nat.beq pc 53 then some (.iload_n 3, 0) else none) else (bif Nat.blt pc 57 then (bif Nat.beq pc 54 then some (.invokevirtual 52, 0) else none) else (bif Nat.beq pc 57 then some (.invokevirtual 55, 0) else none)))) else (bif Nat.blt pc 65 then (bif Nat.blt pc 61 then (bif Nat.beq pc 60 then some (.aload_n 0, 0) else none) else (bif Nat.blt pc 62 then (bif Nat.beq pc 61 then some (.iload_n 3, 0) else none) else (bif Nat.beq pc 62 then some (.invokevirtual 59, 0) else none))) else (bif Nat.blt pc 68 then (bif Nat.beq pc 65 then some (.iinc 3 1, 0) else none) else (bif Nat.blt pc 71 then (bif Nat.beq pc 68 then some (.goto (-45), 23) else none) else (bif Nat.beq pc 71 then some (.return_, 0) else none))))))
def MX0_run : MI := (yX0_run, cX0_run, 4, none, 0, zTab 72 tX0_run)
theorem kX0_run : zTok MX0_run := zTok_of 72 tX0_run rfl (by decide +kernel)
theorem oX0_run : zokM MX0_run 2 = true := zokM_mk (z_in (List.mem_of_getElem? (i := 282) (by decide +kernel)) rfl) z_ini0 (by decide +kernel)
theorem iX0_run : zokI MX0_run = true := zokI_mk (z_in (List.mem_of_getElem? (i := 280) (by decide +kernel)) rfl) (z_in (List.mem_of_getElem? (i := 281) (by decide +kernel)) rfl)
def tX0_doEvents : Nat → Option (Instr × Nat) := fun pc => bif Nat.blt pc 57 then (bif Nat.blt pc 25 then (bif Nat.blt pc 12 then (bif Nat.blt pc 6 then (bif Nat.blt pc 4 then (bif Nat.blt pc 1 then (bif Nat.beq pc 0 then some (.iload_n 2, 0) else none) else (bif Nat.beq pc 1 then some (.ifCond .ne 4, 5) else none)) else (bif Nat.blt pc 5 then (bif Nat.beq pc 4 then some (.return_, 0) else none) else (bif Nat.beq pc 5 then some (.iconst 0, 0) else none))) else (bif Nat.blt pc 8 then (bif Nat.blt pc 7 then (bif Nat.beq pc 6 then some (.istore_n 3, 0) else none) else (bif Nat.beq pc 7 then some (.iload_n 3, 0) else none)) else (bif Nat.blt pc 9 then (bif Nat.beq pc 8 then some (.aload_n 1, 0) else none) else (bif Nat.beq pc 9 then some (.invokevirtual 62, 0) else none)))) else (bif Nat.blt pc 20 then (bif Nat.blt pc 16 then (bif Nat.blt pc 15 then (bif Nat.beq pc 12 then some (.if_icmp .ge 114, 126) else none) else (bif Nat.beq pc 15 then some (.aload_n 1, 0) else none)) else (bif Nat.blt pc 17 then (bif Nat.beq pc 16 then some (.iload_n 3, 0) else none) else (bif Nat.beq pc 17 then some (.invokevirtual 65, 0) else none))) else (bif Nat.blt pc 22 then (bif Nat.blt pc 21 then (bif Nat.beq pc 20 then some (.iconst 1, 0) else none) else (bif Nat.beq pc 21 then some (.iadd, 0) else none)) else (bif Nat.blt pc 24 then (bif Nat.beq pc 22 then some (.istore 4, 0) else none) else (bif Nat.beq pc 24 then some (.aload_n 0, 0) else none))))) else (bif Nat.blt pc 39 then (bif Nat.blt pc 35 then (bif Nat.blt pc 30 then (bif Nat.blt pc 28 then (bif Nat.beq pc 25 then some (.getfield 27, 0) else none) else (bif Nat.beq pc 28 then some (.iload 4, 0) else none)) else (bif Nat.blt pc 33 then (bif Nat.beq pc 30 then some (.invokestatic 68, 0) else none) else (bif Nat.beq pc 33 then some (.istore 5, 0) else none))) else (bif Nat.blt pc 37 then (bif Nat.blt pc 36 then (bif Nat.beq pc 35 then some (.iload_n 2, 0) else none) else (bif Nat.beq pc 36 then some (.iload_n 3, 0) else none)) else (bif Nat.blt pc 38 then (bif Nat.beq pc 37 then some (.ishr, 0) else none) else (bif Nat.beq pc 38 then some (.iconst 1, 0) else none)))) else (bif Nat.blt pc 46 then (bif Nat.blt pc 43 then (bif Nat.blt pc 40 then (bif Nat.beq pc 39 then some (.iand, 0) else none) else (bif Nat.beq pc 40 then some (.ifCond .eq 80, 120) else none)) else (bif Nat.blt pc 45 then (bif Nat.beq pc 43 then some (.iload 5, 0) else none) else (bif Nat.beq pc 45 then some (.iconst (-1), 0) else none))) else (bif Nat.blt pc 52 then (bif Nat.blt pc 49 then (bif Nat.beq pc 46 then some (.if_icmp .ne 6, 52) else none) else (bif Nat.beq pc 49 then some (.goto 71, 120) else none)) else (bif Nat.blt pc 53 then (bif Nat.beq pc 52 then some (.aload_n 0, 0) else none) else (bif Nat.blt pc 54 then (bif Nat.beq pc 53 then some (.aload_n 0, 0) else none) else (bif Nat.beq pc 54 then some (.getfield 27, 0) else none))))))) else (bif Nat.blt pc 91 then (bif Nat.blt pc 74 then (bif Nat.blt pc 66 then (bif Nat.blt pc 62 then (bif Nat.blt pc 59 then (bif Nat.beq pc 57 then some (.iload 5, 0) else none) else (bif Nat.beq pc 59 then some (.invokestatic 74, 0) else none)) else (bif Nat.blt pc 65 then (bif Nat.beq pc 62 then some (.putfield 27, 0) else none) else (bif Nat.beq pc 65 then some (.aload_n 1, 0) else none))) else (bif Nat.blt pc 70 then (bif Nat.blt pc 67 then (bif Nat.beq pc 66 then some (.iload_n 3, 0) else none) else (bif Nat.beq pc 67 then some (.invokevirtual 78, 0) else none)) else (bif Nat.blt pc 71 then (bif Nat.beq pc 70 then some (.iconst 1, 0) else none) else (bif Nat.beq pc 71 then some (.if_icmp .ne 20, 91) else none)))) else (bif Nat.blt pc 80 then (bif Nat.blt pc 76 then (bif Nat.blt pc 75 then (bif Nat.beq pc 74 then some (.aload_n 0, 0) else none) else (bif Nat.beq pc 75 then some (.aload_n 0, 0) else none)) else (bif Nat.blt pc 79 then (bif Nat.beq pc 76 then some (.getfield 27, 0) else none) else (bif Nat.beq pc 79 then some (.iconst 0, 0) else none))) else (bif Nat.blt pc 85 then (bif Nat.blt pc 82 then (bif Nat.beq pc 80 then some (.iload 4, 0) else none) else (bif Nat.beq pc 82 then some (.invokestatic 81, 0) else none)) else (bif Nat.blt pc 88 then (bif Nat.beq pc 85 then some (.putfield 27, 0) else none) else (bif Nat.beq pc 88 then some (.goto 32, 120) else none))))) else (bif Nat.blt pc 105 then (bif Nat.blt pc 97 then (bif Nat.blt pc 93 then (bif Nat.blt pc 92 then (bif Nat.beq pc 91 then some (.aload_n 1, 0) else none) else (bif Nat.beq pc 92 then some (.iload_n 3, 0) else none)) else (bif Nat.blt pc 96 then (bif Nat.beq pc 93 then some (.invokevirtual 78, 0) else none) else (bif Nat.beq pc 96 then some (.iconst 2, 0) else none))) else (bif Nat.blt pc 101 then (bif Nat.blt pc 100 then (bif Nat.beq pc 97 then some (.if_icmp .ne 23, 120) else none) else (bif Nat.beq pc 100 then some (.aload_n 0, 0) else none)) else (bif Nat.blt pc 102 then (bif Nat.beq pc 101 then some (.aload_n 0, 0) else none) else (bif Nat.beq pc 102 then some (.getfield 27, 0) else none)))) else (bif Nat.blt pc 114 then (bif Nat.blt pc 109 then (bif Nat.blt pc 106 then (bif Nat.beq pc 105 then some (.aload_n 0, 0) else none) else (bif Nat.beq pc 106 then some (.getfield 27, 0) else none)) else (bif Nat.blt pc 112 then (bif Nat.beq pc 109 then some (.invokestatic 85, 0) else none) else (bif Nat.beq pc 112 then some (.iload 4, 0) else none))) else (bif Nat.blt pc 120 then (bif Nat.blt pc 117 then (bif Nat.beq pc 114 then some (.invokestatic 81, 0) else none) else (bif Nat.beq pc 117 then some (.putfield 27, 0) else none)) else (bif Nat.blt pc 123 then (bif Nat.beq pc 120 then some (.iinc 3 1, 0) else none) else (bif Nat.blt pc 126 then (bif Nat.beq pc 123 then some (.goto (-116), 7) else none) else (bif Nat.beq pc 126 then some (.return_, 0) else none)))))))
def MX0_doEvents : MI := (yX0_doEvents, cX0_doEvents, 6, none, 0, zTab 127 tX0_doEvents)
theorem kX0_doEvents : zTok MX0_doEvents := zTok_of 127 tX0_doEvents rfl (by decide +kernel)
theorem oX0_doEvents : zokM MX0_doEvents 2 = true := zokM_mk (z_in (List.mem_of_getElem? (i := 298) (by decide +kernel)) rfl) z_ini0 (by decide +kernel)
theorem iX0_doEvents : zokI MX0_doEvents = true := zokI_mk (z_in (List.mem_of_getElem? (i := 297) (by decide +kernel)) rfl) (z_in (List.mem_of_getElem? (i := 4) (by decide +kernel)) rfl)
def tX0_letIn : Nat → Option (Instr × Nat) := fun pc => bif Nat.blt pc 26 then (bif Nat.blt pc 15 then (bif Nat.blt pc 6 then (bif Nat.blt pc 4 then (bif Nat.blt pc 1 then (bif Nat.beq pc 0 then some (.iload_n 2, 0) else none) else (bif Nat.beq pc 1 then some (.ifCond .ne 4, 5) else none)) else (bif Nat.blt pc 5 then (bif Nat.beq pc 4 then some (.return_, 0) else none) else (bif Nat.beq pc 5 then some (.iconst 0, 0) else none))) else (bif Nat.blt pc 8 then (bif Nat.blt pc 7 then (bif Nat.beq pc 6 then some (.istore_n 3, 0) else none) else (bif Nat.beq pc 7 then some (.iload_n 3, 0) else none)) else (bif Nat.blt pc 9 then (bif Nat.beq pc 8 then some (.aload_n 0, 0) else none) else (bif Nat.blt pc 12 then (bif Nat.beq pc 9 then some (.getfield 24, 0) else none) else (bif Nat.beq pc 12 then some (.if_icmp .ge 51, 63) else none))))) else (bif Nat.blt pc 19 then (bif Nat.blt pc 17 then (bif Nat.blt pc 16 then (bif Nat.beq pc 15 then some (.iload_n 2, 0) else none) else (bif Nat.beq pc 16 then some (.iload_n 3, 0) else none)) else (bif Nat.blt pc 18 then (bif Nat.beq pc 17 then some (.ishr, 0) else none) else (bif Nat.beq pc 18 then some (.iconst 1, 0) else none))) else (bif Nat.blt pc 21 then (bif Nat.blt pc 20 then (bif Nat.beq pc 19 then some (.iand, 0) else none) else (bif Nat.beq pc 20 then some (.iconst 1, 0) else none)) else (bif Nat.blt pc 24 then (bif Nat.beq pc 21 then some (.if_icmp .ne 36, 57) else none) else (bif Nat.blt pc 25 then (bif Nat.beq pc 24 then some (.aload_n 1, 0) else none) else (bif Nat.beq pc 25 then some (.iload_n 3, 0) else none)))))) else (bif Nat.blt pc 46 then (bif Nat.blt pc 36 then (bif Nat.blt pc 30 then (bif Nat.blt pc 29 then (bif Nat.beq pc 26 then some (.invokevirtual 89, 0) else none) else (bif Nat.beq pc 29 then some (.aload_n 0, 0) else none)) else (bif Nat.blt pc 33 then (bif Nat.beq pc 30 then some (.getfield 27, 0) else none) else (bif Nat.beq pc 33 then some (.invokestatic 85, 0) else none))) else (bif Nat.blt pc 41 then (bif Nat.blt pc 39 then (bif Nat.beq pc 36 then some (.invokestatic 92, 0) else none) else (bif Nat.beq pc 39 then some (.istore 4, 0) else none)) else (bif Nat.blt pc 42 then (bif Nat.beq pc 41 then some (.aload_n 0, 0) else none) else (bif Nat.blt pc 43 then (bif Nat.beq pc 42 then some (.aload_n 0, 0) else none) else (bif Nat.beq pc 43 then some (.getfield 27, 0) else none))))) else (bif Nat.blt pc 51 then (bif Nat.blt pc 49 then (bif Nat.blt pc 48 then (bif Nat.beq pc 46 then some (.iload 4, 0) else none) else (bif Nat.beq pc 48 then some (.iload_n 3, 0) else none)) else (bif Nat.blt pc 50 then (bif Nat.beq pc 49 then some (.iconst 1, 0) else none) else (bif Nat.beq pc 50 then some (.iadd, 0) else none))) else (bif Nat.blt pc 57 then (bif Nat.blt pc 54 then (bif Nat.beq pc 51 then some (.invokestatic 81, 0) else none) else (bif Nat.beq pc 54 then some (.putfield 27, 0) else none)) else (bif Nat.blt pc 60 then (bif Nat.beq pc 57 then some (.iinc 3 1, 0) else none) else (bif Nat.blt pc 63 then (bif Nat.beq pc 60 then some (.goto (-53), 7) else none) else (bif Nat.beq pc 63 then some (.return_, 0) else none))))))
def MX0_letIn : MI := (yX0_letIn, cX0_letIn, 5, none, 0, zTab 64 tX0_letIn)
theorem kX0_letIn : zTok MX0_letIn := zTok_of 64 tX0_letIn rfl (by decide +kernel)
theorem oX0_letIn : zokM MX0_letIn 2 = true := zokM_mk (z_in (List.mem_of_getElem? (i := 330) (by decide +kernel)) rfl) z_ini0 (by decide +kernel)
theorem iX0_letIn : zokI MX0_letIn = true := zokI_mk (z_in (List.mem_of_getElem? (i := 329) (by decide +kernel)) rfl) (z_in (List.mem_of_getElem? (i := 5) (by decide +kernel)) rfl)
def tX0_placeToJoin : Nat → Option (Instr × Nat) := fun pc => bif Nat.blt pc 12 then (bif Nat.blt pc 6 then (bif Nat.blt pc 2 then (bif Nat.blt pc 1 then (bif Nat.beq pc 0 then some (.iload_n 0, 0) else none) else (bif Nat.beq pc 1 then some (.iconst 2, 0) else none)) else (bif Nat.blt pc 5 then (bif Nat.beq pc 2 then some (.if_icmp .ne 5, 7) else none) else (bif Nat.beq pc 5 then some (.iload_n 1, 0) else none))) else (bif Nat.blt pc 8 then (bif Nat.blt pc 7 then (bif Nat.beq pc 6 then some (.ireturn, 0) else none) else (bif Nat.beq pc 7 then some (.iload_n 0, 0) else none)) else (bif Nat.blt pc 9 then (bif Nat.beq pc 8 then some (.iconst 1, 0) else none) else (bif Nat.beq pc 9 then some (.if_icmp .ne 9, 18) else none)))) else (bif Nat.blt pc 18 then (bif Nat.blt pc 14 then (bif Nat.blt pc 13 then (bif Nat.beq pc 12 then some (.iload_n 1, 0) else none) else (bif Nat.beq pc 13 then some (.iconst 3, 0) else none)) else (bif Nat.blt pc 15 then (bif Nat.beq pc 14 then some (.idiv, 0) else none) else (bif Nat.beq pc 15 then some (.goto 6, 21) else none))) else (bif Nat.blt pc 20 then (bif Nat.blt pc 19 then (bif Nat.beq pc 18 then some (.iload_n 1, 0) else none) else (bif Nat.beq pc 19 then some (.iconst 2, 0) else none)) else (bif Nat.blt pc 21 then (bif Nat.beq pc 20 then some (.idiv, 0) else none) else (bif Nat.beq pc 21 then some (.ireturn, 0) else none))))
def MX0_placeToJoin : MI := (yX0_placeToJoin, cX0_placeToJoin, 2, (some .int), 0, zTab 22 tX0_placeToJoin)
theorem kX0_placeToJoin : zTok MX0_placeToJoin := zTok_of 22 tX0_placeToJoin rfl (by decide +kernel)
theorem oX0_placeToJoin : zokM MX0_placeToJoin 2 = true := zokM_mk (z_in (List.mem_of_getElem? (i := 337) (by decide +kernel)) rfl) z_ini0 (by decide +kernel)
theorem iX0_placeToJoin : zokS MX0_placeToJoin = true := zokS_mk (z_in (List.mem_of_getElem? (i := 336) (by decide +kernel)) rfl)
def tX0_serve : Nat → Option (Instr × Nat) := fun pc => bif Nat.blt pc 78 then (bif Nat.blt pc 37 then (bif Nat.blt pc 19 then (bif Nat.blt pc 9 then (bif Nat.blt pc 4 then (bif Nat.blt pc 1 then (bif Nat.beq pc 0 then some (.aload_n 0, 0) else none) else (bif Nat.beq pc 1 then some (.getfield 27, 0) else none)) else (bif Nat.blt pc 7 then (bif Nat.beq pc 4 then some (.invokestatic 85, 0) else none) else (bif Nat.blt pc 8 then (bif Nat.beq pc 7 then some (.istore_n 2, 0) else none) else (bif Nat.beq pc 8 then some (.iload_n 2, 0) else none)))) else (bif Nat.blt pc 14 then (bif Nat.blt pc 12 then (bif Nat.beq pc 9 then some (.ifCond .ne 4, 13) else none) else (bif Nat.blt pc 13 then (bif Nat.beq pc 12 then some (.return_, 0) else none) else (bif Nat.beq pc 13 then some (.iload_n 1, 0) else none))) else (bif Nat.blt pc 15 then (bif Nat.beq pc 14 then some (.iconst 1, 0) else none) else (bif Nat.blt pc 16 then (bif Nat.beq pc 15 then some (.iand, 0) else none) else (bif Nat.beq pc 16 then some (.ifCond .eq 7, 23) else none))))) else (bif Nat.blt pc 27 then (bif Nat.blt pc 24 then (bif Nat.blt pc 20 then (bif Nat.beq pc 19 then some (.iconst 1, 0) else none) else (bif Nat.blt pc 23 then (bif Nat.beq pc 20 then some (.goto 4, 24) else none) else (bif Nat.beq pc 23 then some (.iconst 0, 0) else none))) else (bif Nat.blt pc 25 then (bif Nat.beq pc 24 then some (.istore_n 3, 0) else none) else (bif Nat.blt pc 26 then (bif Nat.beq pc 25 then some (.iload_n 1, 0) else none) else (bif Nat.beq pc 26 then some (.iconst 2, 0) else none)))) else (bif Nat.blt pc 32 then (bif Nat.blt pc 28 then (bif Nat.beq pc 27 then some (.iand, 0) else none) else (bif Nat.blt pc 31 then (bif Nat.beq pc 28 then some (.ifCond .eq 16, 44) else none) else (bif Nat.beq pc 31 then some (.iload_n 3, 0) else none))) else (bif Nat.blt pc 35 then (bif Nat.beq pc 32 then some (.ifCond .eq 8, 40) else none) else (bif Nat.blt pc 36 then (bif Nat.beq pc 35 then some (.iload_n 2, 0) else none) else (bif Nat.beq pc 36 then some (.iconst 1, 0) else none)))))) else (bif Nat.blt pc 59 then (bif Nat.blt pc 48 then (bif Nat.blt pc 44 then (bif Nat.blt pc 40 then (bif Nat.beq pc 37 then some (.if_icmp .eq 7, 44) else none) else (bif Nat.blt pc 41 then (bif Nat.beq pc 40 then some (.iconst 1, 0) else none) else (bif Nat.beq pc 41 then some (.goto 4, 45) else none))) else (bif Nat.blt pc 45 then (bif Nat.beq pc 44 then some (.iconst 0, 0) else none) else (bif Nat.blt pc 47 then (bif Nat.beq pc 45 then some (.istore 4, 0) else none) else (bif Nat.beq pc 47 then some (.aload_n 0, 0) else none)))) else (bif Nat.blt pc 55 then (bif Nat.blt pc 51 then (bif Nat.beq pc 48 then some (.getfield 27, 0) else none) else (bif Nat.blt pc 52 then (bif Nat.beq pc 51 then some (.iconst 0, 0) else none) else (bif Nat.beq pc 52 then some (.invokestatic 96, 0) else none))) else (bif Nat.blt pc 56 then (bif Nat.beq pc 55 then some (.iconst 1, 0) else none) else (bif Nat.blt pc 57 then (bif Nat.beq pc 56 then some (.isub, 0) else none) else (bif Nat.beq pc 57 then some (.istore 5, 0) else none))))) else (bif Nat.blt pc 69 then (bif Nat.blt pc 64 then (bif Nat.blt pc 60 then (bif Nat.beq pc 59 then some (.aload_n 0, 0) else none) else (bif Nat.blt pc 63 then (bif Nat.beq pc 60 then some (.getfield 27, 0) else none) else (bif Nat.beq pc 63 then some (.iload_n 2, 0) else none))) else (bif Nat.blt pc 65 then (bif Nat.beq pc 64 then some (.iconst 1, 0) else none) else (bif Nat.blt pc 66 then (bif Nat.beq pc 65 then some (.isub, 0) else none) else (bif Nat.beq pc 66 then some (.invokestatic 96, 0) else none)))) else (bif Nat.blt pc 73 then (bif Nat.blt pc 70 then (bif Nat.beq pc 69 then some (.iconst 1, 0) else none) else (bif Nat.blt pc 71 then (bif Nat.beq pc 70 then some (.isub, 0) else none) else (bif Nat.beq pc 71 then some (.istore 6, 0) else none))) else (bif Nat.blt pc 74 then (bif Nat.beq pc 73 then some (.aload_n 0, 0) else none) else (bif Nat.blt pc 75 then (bif Nat.beq pc 74 then some (.iload_n 3, 0) else none) else (bif Nat.beq pc 75 then some (.ifCond .eq 15, 90) else none))))))) else (bif Nat.blt pc 133 then (bif Nat.blt pc 104 then (bif Nat.blt pc 91 then (bif Nat.blt pc 84 then (bif Nat.blt pc 79 then (bif Nat.beq pc 78 then some (.aload_n 0, 0) else none) else (bif Nat.blt pc 82 then (bif Nat.beq pc 79 then some (.getfield 35, 0) else none) else (bif Nat.beq pc 82 then some (.iload 5, 0) else none))) else (bif Nat.blt pc 87 then (bif Nat.beq pc 84 then some (.invokestatic 99, 0) else none) else (bif Nat.blt pc 90 then (bif Nat.beq pc 87 then some (.goto 7, 94) else none) else (bif Nat.beq pc 90 then some (.aload_n 0, 0) else none)))) else (bif Nat.blt pc 98 then (bif Nat.blt pc 94 then (bif Nat.beq pc 91 then some (.getfield 35, 0) else none) else (bif Nat.blt pc 97 then (bif Nat.beq pc 94 then some (.putfield 35, 0) else none) else (bif Nat.beq pc 97 then some (.aload_n 0, 0) else none))) else (bif Nat.blt pc 100 then (bif Nat.beq pc 98 then some (.iload 4, 0) else none) else (bif Nat.blt pc 103 then (bif Nat.beq pc 100 then some (.ifCond .eq 15, 115) else none) else (bif Nat.beq pc 103 then some (.aload_n 0, 0) else none))))) else (bif Nat.blt pc 119 then (bif Nat.blt pc 112 then (bif Nat.blt pc 107 then (bif Nat.beq pc 104 then some (.getfield 35, 0) else none) else (bif Nat.blt pc 109 then (bif Nat.beq pc 107 then some (.iload 6, 0) else none) else (bif Nat.beq pc 109 then some (.invokestatic 99, 0) else none))) else (bif Nat.blt pc 115 then (bif Nat.beq pc 112 then some (.goto 7, 119) else none) else (bif Nat.blt pc 116 then (bif Nat.beq pc 115 then some (.aload_n 0, 0) else none) else (bif Nat.beq pc 116 then some (.getfield 35, 0) else none)))) else (bif Nat.blt pc 127 then (bif Nat.blt pc 122 then (bif Nat.beq pc 119 then some (.putfield 35, 0) else none) else (bif Nat.blt pc 124 then (bif Nat.beq pc 122 then some (.iload 4, 0) else none) else (bif Nat.beq pc 124 then some (.ifCond .eq 29, 153) else none))) else (bif Nat.blt pc 128 then (bif Nat.beq pc 127 then some (.aload_n 0, 0) else none) else (bif Nat.blt pc 131 then (bif Nat.beq pc 128 then some (.getfield 35, 0) else none) else (bif Nat.beq pc 131 then some (.iload 6, 0) else none)))))) else (bif Nat.blt pc 157 then (bif Nat.blt pc 145 then (bif Nat.blt pc 140 then (bif Nat.blt pc 136 then (bif Nat.beq pc 133 then some (.invokestatic 96, 0) else none) else (bif Nat.blt pc 139 then (bif Nat.beq pc 136 then some (.ifCond .ne 17, 153) else none) else (bif Nat.beq pc 139 then some (.aload_n 0, 0) else none))) else (bif Nat.blt pc 141 then (bif Nat.beq pc 140 then some (.aload_n 0, 0) else none) else (bif Nat.blt pc 144 then (bif Nat.beq pc 141 then some (.getfield 27, 0) else none) else (bif Nat.beq pc 144 then some (.iload_n 2, 0) else none)))) else (bif Nat.blt pc 150 then (bif Nat.blt pc 146 then (bif Nat.beq pc 145 then some (.iconst 1, 0) else none) else (bif Nat.blt pc 147 then (bif Nat.beq pc 146 then some (.isub, 0) else none) else (bif Nat.beq pc 147 then some (.invokestatic 74, 0) else none))) else (bif Nat.blt pc 153 then (bif Nat.beq pc 150 then some (.putfield 27, 0) else none) else (bif Nat.blt pc 154 then (bif Nat.beq pc 153 then some (.iload_n 3, 0) else none) else (bif Nat.beq pc 154 then some (.ifCond .eq 27, 181) else none))))) else (bif Nat.blt pc 170 then (bif Nat.blt pc 163 then (bif Nat.blt pc 158 then (bif Nat.beq pc 157 then some (.aload_n 0, 0) else none) else (bif Nat.blt pc 161 then (bif Nat.beq pc 158 then some (.getfield 35, 0) else none) else (bif Nat.beq pc 161 then some (.iload 5, 0) else none))) else (bif Nat.blt pc 166 then (bif Nat.beq pc 163 then some (.invokestatic 96, 0) else none) else (bif Nat.blt pc 169 then (bif Nat.beq pc 166 then some (.ifCond .ne 15, 181) else none) else (bif Nat.beq pc 169 then some (.aload_n 0, 0) else none)))) else (bif Nat.blt pc 175 then (bif Nat.blt pc 171 then (bif Nat.beq pc 170 then some (.aload_n 0, 0) else none) else (bif Nat.blt pc 174 then (bif Nat.beq pc 171 then some (.getfield 27, 0) else none) else (bif Nat.beq pc 174 then some (.iconst 0, 0) else none))) else (bif Nat.blt pc 178 then (bif Nat.beq pc 175 then some (.invokestatic 74, 0) else none) else (bif Nat.blt pc 181 then (bif Nat.beq pc 178 then some (.putfield 27, 0) else none) else (bif Nat.beq pc 181 then some (.return_, 0) else none)))))))
def MX0_serve : MI := (yX0_serve, cX0_serve, 7, none, 0, zTab 182 tX0_serve)
theorem kX0_serve : zTok MX0_serve := zTok_of 182 tX0_serve rfl (by decide +kernel)
theorem oX0_serve : zokM MX0_serve 1 = true := zokM_mk (z_in (List.mem_of_getElem? (i := 345) (by decide +kernel)) rfl) z_ini0 (by decide +kernel)
theorem iX0_serve : zokI MX0_serve = true := zokI_mk (z_in (List.mem_of_getElem? (i := 344) (by decide +kernel)) rfl) (z_in (List.mem_of_getElem? (i := 6) (by decide +kernel)) rfl)
def tX0_keep : Nat → Option (Instr × Nat) := fun pc => bif Nat.blt pc 22 then (bif Nat.blt pc 10 then (bif Nat.blt pc 5 then (bif Nat.blt pc 1 then (bif Nat.beq pc 0 then some (.iload_n 1, 0) else none) else (bif Nat.blt pc 4 then (bif Nat.beq pc 1 then some (.ifCond .lt 41, 42) else none) else (bif Nat.beq pc 4 then some (.iload_n 1, 0) else none))) else (bif Nat.blt pc 6 then (bif Nat.beq pc 5 then some (.aload_n 0, 0) else none) else (bif Nat.blt pc 9 then (bif Nat.beq pc 6 then some (.getfield 9, 0) else none) else (bif Nat.beq pc 9 then some (.arraylength, 0) else none)))) else (bif Nat.blt pc 15 then (bif Nat.blt pc 13 then (bif Nat.beq pc 10 then some (.if_icmp .ge 32, 42) else none) else (bif Nat.blt pc 14 then (bif Nat.beq pc 13 then some (.iload_n 1, 0) else none) else (bif Nat.beq pc 14 then some (.aload_n 0, 0) else none))) else (bif Nat.blt pc 18 then (bif Nat.beq pc 15 then some (.getfield 15, 0) else none) else (bif Nat.blt pc 19 then (bif Nat.beq pc 18 then some (.arraylength, 0) else none) else (bif Nat.beq pc 19 then some (.if_icmp .ge 23, 42) else none))))) else (bif Nat.blt pc 32 then (bif Nat.blt pc 27 then (bif Nat.blt pc 23 then (bif Nat.beq pc 22 then some (.aload_n 0, 0) else none) else (bif Nat.blt pc 26 then (bif Nat.beq pc 23 then some (.getfield 9, 0) else none) else (bif Nat.beq pc 26 then some (.iload_n 1, 0) else none))) else (bif Nat.blt pc 28 then (bif Nat.beq pc 27 then some (.aload_n 0, 0) else none) else (bif Nat.blt pc 31 then (bif Nat.beq pc 28 then some (.getfield 27, 0) else none) else (bif Nat.beq pc 31 then some (.lastore, 0) else none)))) else (bif Nat.blt pc 37 then (bif Nat.blt pc 33 then (bif Nat.beq pc 32 then some (.aload_n 0, 0) else none) else (bif Nat.blt pc 36 then (bif Nat.beq pc 33 then some (.getfield 15, 0) else none) else (bif Nat.beq pc 36 then some (.iload_n 1, 0) else none))) else (bif Nat.blt pc 41 then (bif Nat.blt pc 38 then (bif Nat.beq pc 37 then some (.aload_n 0, 0) else none) else (bif Nat.beq pc 38 then some (.getfield 35, 0) else none)) else (bif Nat.blt pc 42 then (bif Nat.beq pc 41 then some (.lastore, 0) else none) else (bif Nat.beq pc 42 then some (.return_, 0) else none)))))
def MX0_keep : MI := (yX0_keep, cX0_keep, 2, none, 0, zTab 43 tX0_keep)
theorem kX0_keep : zTok MX0_keep := zTok_of 43 tX0_keep rfl (by decide +kernel)
theorem oX0_keep : zokM MX0_keep 1 = true := zokM_mk (z_in (List.mem_of_getElem? (i := 355) (by decide +kernel)) rfl) z_ini0 (by decide +kernel)
theorem iX0_keep : zokI MX0_keep = true := zokI_mk (z_in (List.mem_of_getElem? (i := 354) (by decide +kernel)) rfl) (z_in (List.mem_of_getElem? (i := 7) (by decide +kernel)) rfl)
def tX0_queueBehind : Nat → Option (Instr × Nat) := fun pc => bif Nat.blt pc 13 then (bif Nat.blt pc 5 then (bif Nat.blt pc 1 then (bif Nat.beq pc 0 then some (.iload_n 1, 0) else none) else (bif Nat.blt pc 4 then (bif Nat.beq pc 1 then some (.ifCond .lt 21, 22) else none) else (bif Nat.beq pc 4 then some (.iload_n 1, 0) else none))) else (bif Nat.blt pc 9 then (bif Nat.blt pc 6 then (bif Nat.beq pc 5 then some (.aload_n 0, 0) else none) else (bif Nat.beq pc 6 then some (.getfield 9, 0) else none)) else (bif Nat.blt pc 10 then (bif Nat.beq pc 9 then some (.arraylength, 0) else none) else (bif Nat.beq pc 10 then some (.if_icmp .ge 12, 22) else none)))) else (bif Nat.blt pc 18 then (bif Nat.blt pc 14 then (bif Nat.beq pc 13 then some (.aload_n 0, 0) else none) else (bif Nat.blt pc 17 then (bif Nat.beq pc 14 then some (.getfield 9, 0) else none) else (bif Nat.beq pc 17 then some (.iload_n 1, 0) else none))) else (bif Nat.blt pc 22 then (bif Nat.blt pc 19 then (bif Nat.beq pc 18 then some (.laload, 0) else none) else (bif Nat.beq pc 19 then some (.goto 4, 23) else none)) else (bif Nat.blt pc 23 then (bif Nat.beq pc 22 then some (.lconst 0, 0) else none) else (bif Nat.beq pc 23 then some (.lreturn, 0) else none))))
def MX0_queueBehind : MI := (yX0_queueBehind, cX0_queueBehind, 2, (some .long), 0, zTab 24 tX0_queueBehind)
theorem kX0_queueBehind : zTok MX0_queueBehind := zTok_of 24 tX0_queueBehind rfl (by decide +kernel)
theorem oX0_queueBehind : zokM MX0_queueBehind 1 = true := zokM_mk (z_in (List.mem_of_getElem? (i := 516) (by decide +kernel)) rfl) z_ini0 (by decide +kernel)
theorem iX0_queueBehind : zokI MX0_queueBehind = true := zokI_mk (z_in (List.mem_of_getElem? (i := 514) (by decide +kernel)) rfl) (z_in (List.mem_of_getElem? (i := 515) (by decide +kernel)) rfl)
def tX0_whoAt : Nat → Option (Instr × Nat) := fun pc => bif Nat.blt pc 6 then (bif Nat.blt pc 2 then (bif Nat.blt pc 1 then (bif Nat.beq pc 0 then some (.aload_n 0, 0) else none) else (bif Nat.beq pc 1 then some (.iload_n 1, 0) else none)) else (bif Nat.blt pc 5 then (bif Nat.beq pc 2 then some (.invokevirtual 102, 0) else none) else (bif Nat.beq pc 5 then some (.iload_n 2, 0) else none))) else (bif Nat.blt pc 10 then (bif Nat.blt pc 9 then (bif Nat.beq pc 6 then some (.invokestatic 96, 0) else none) else (bif Nat.beq pc 9 then some (.iconst 1, 0) else none)) else (bif Nat.blt pc 11 then (bif Nat.beq pc 10 then some (.isub, 0) else none) else (bif Nat.beq pc 11 then some (.ireturn, 0) else none)))
def MX0_whoAt : MI := (yX0_whoAt, cX0_whoAt, 3, (some .int), 0, zTab 12 tX0_whoAt)
theorem kX0_whoAt : zTok MX0_whoAt := zTok_of 12 tX0_whoAt rfl (by decide +kernel)
theorem oX0_whoAt : zokM MX0_whoAt 2 = true := zokM_mk (z_in (List.mem_of_getElem? (i := 512) (by decide +kernel)) rfl) z_ini0 (by decide +kernel)
theorem iX0_whoAt : zokI MX0_whoAt = true := zokI_mk (z_in (List.mem_of_getElem? (i := 510) (by decide +kernel)) rfl) (z_in (List.mem_of_getElem? (i := 511) (by decide +kernel)) rfl)
def tX0_howMany : Nat → Option (Instr × Nat) := fun pc => bif Nat.blt pc 2 then (bif Nat.blt pc 1 then (bif Nat.beq pc 0 then some (.aload_n 0, 0) else none) else (bif Nat.beq pc 1 then some (.iload_n 1, 0) else none)) else (bif Nat.blt pc 5 then (bif Nat.beq pc 2 then some (.invokevirtual 102, 0) else none) else (bif Nat.blt pc 8 then (bif Nat.beq pc 5 then some (.invokestatic 85, 0) else none) else (bif Nat.beq pc 8 then some (.ireturn, 0) else none)))
def MX0_howMany : MI := (yX0_howMany, cX0_howMany, 2, (some .int), 0, zTab 9 tX0_howMany)
theorem kX0_howMany : zTok MX0_howMany := zTok_of 9 tX0_howMany rfl (by decide +kernel)
theorem oX0_howMany : zokM MX0_howMany 1 = true := zokM_mk (z_in (List.mem_of_getElem? (i := 524) (by decide +kernel)) rfl) z_ini0 (by decide +kernel)
theorem iX0_howMany : zokI MX0_howMany = true := zokI_mk (z_in (List.mem_of_getElem? (i := 522) (by decide +kernel)) rfl) (z_in (List.mem_of_getElem? (i := 523) (by decide +kernel)) rfl)
def tX0_placeOf : Nat → Option (Instr × Nat) := fun pc => bif Nat.blt pc 6 then (bif Nat.blt pc 2 then (bif Nat.blt pc 1 then (bif Nat.beq pc 0 then some (.aload_n 0, 0) else none) else (bif Nat.beq pc 1 then some (.iload_n 1, 0) else none)) else (bif Nat.blt pc 5 then (bif Nat.beq pc 2 then some (.invokevirtual 102, 0) else none) else (bif Nat.beq pc 5 then some (.iload_n 2, 0) else none))) else (bif Nat.blt pc 8 then (bif Nat.blt pc 7 then (bif Nat.beq pc 6 then some (.iconst 1, 0) else none) else (bif Nat.beq pc 7 then some (.iadd, 0) else none)) else (bif Nat.blt pc 11 then (bif Nat.beq pc 8 then some (.invokestatic 68, 0) else none) else (bif Nat.beq pc 11 then some (.ireturn, 0) else none)))
def MX0_placeOf : MI := (yX0_placeOf, cX0_placeOf, 3, (some .int), 0, zTab 12 tX0_placeOf)
theorem kX0_placeOf : zTok MX0_placeOf := zTok_of 12 tX0_placeOf rfl (by decide +kernel)
theorem oX0_placeOf : zokM MX0_placeOf 2 = true := zokM_mk (z_in (List.mem_of_getElem? (i := 532) (by decide +kernel)) rfl) z_ini0 (by decide +kernel)
theorem iX0_placeOf : zokI MX0_placeOf = true := zokI_mk (z_in (List.mem_of_getElem? (i := 530) (by decide +kernel)) rfl) (z_in (List.mem_of_getElem? (i := 531) (by decide +kernel)) rfl)
def tX0_leftOf : Nat → Option (Instr × Nat) := fun pc => bif Nat.blt pc 14 then (bif Nat.blt pc 6 then (bif Nat.blt pc 4 then (bif Nat.blt pc 1 then (bif Nat.beq pc 0 then some (.iload_n 1, 0) else none) else (bif Nat.beq pc 1 then some (.ifCond .lt 25, 26) else none)) else (bif Nat.blt pc 5 then (bif Nat.beq pc 4 then some (.iload_n 1, 0) else none) else (bif Nat.beq pc 5 then some (.aload_n 0, 0) else none))) else (bif Nat.blt pc 10 then (bif Nat.blt pc 9 then (bif Nat.beq pc 6 then some (.getfield 15, 0) else none) else (bif Nat.beq pc 9 then some (.arraylength, 0) else none)) else (bif Nat.blt pc 13 then (bif Nat.beq pc 10 then some (.if_icmp .ge 16, 26) else none) else (bif Nat.beq pc 13 then some (.aload_n 0, 0) else none)))) else (bif Nat.blt pc 20 then (bif Nat.blt pc 18 then (bif Nat.blt pc 17 then (bif Nat.beq pc 14 then some (.getfield 15, 0) else none) else (bif Nat.beq pc 17 then some (.iload_n 1, 0) else none)) else (bif Nat.blt pc 19 then (bif Nat.beq pc 18 then some (.laload, 0) else none) else (bif Nat.beq pc 19 then some (.iload_n 2, 0) else none))) else (bif Nat.blt pc 26 then (bif Nat.blt pc 23 then (bif Nat.beq pc 20 then some (.invokestatic 96, 0) else none) else (bif Nat.beq pc 23 then some (.goto 4, 27) else none)) else (bif Nat.blt pc 27 then (bif Nat.beq pc 26 then some (.iconst 0, 0) else none) else (bif Nat.beq pc 27 then some (.ireturn, 0) else none))))
def MX0_leftOf : MI := (yX0_leftOf, cX0_leftOf, 3, (some .int), 0, zTab 28 tX0_leftOf)
theorem kX0_leftOf : zTok MX0_leftOf := zTok_of 28 tX0_leftOf rfl (by decide +kernel)
theorem oX0_leftOf : zokM MX0_leftOf 2 = true := zokM_mk (z_in (List.mem_of_getElem? (i := 536) (by decide +kernel)) rfl) z_ini0 (by decide +kernel)
theorem iX0_leftOf : zokI MX0_leftOf = true := zokI_mk (z_in (List.mem_of_getElem? (i := 534) (by decide +kernel)) rfl) (z_in (List.mem_of_getElem? (i := 535) (by decide +kernel)) rfl)
def tX0_isServed : Nat → Option (Instr × Nat) := fun pc => bif Nat.blt pc 7 then (bif Nat.blt pc 3 then (bif Nat.blt pc 1 then (bif Nat.beq pc 0 then some (.aload_n 0, 0) else none) else (bif Nat.beq pc 1 then some (.bipush 23, 0) else none)) else (bif Nat.blt pc 4 then (bif Nat.beq pc 3 then some (.iload_n 1, 0) else none) else (bif Nat.beq pc 4 then some (.invokevirtual 106, 0) else none))) else (bif Nat.blt pc 11 then (bif Nat.blt pc 10 then (bif Nat.beq pc 7 then some (.ifCond .ne 7, 14) else none) else (bif Nat.beq pc 10 then some (.iconst 1, 0) else none)) else (bif Nat.blt pc 14 then (bif Nat.beq pc 11 then some (.goto 4, 15) else none) else (bif Nat.blt pc 15 then (bif Nat.beq pc 14 then some (.iconst 0, 0) else none) else (bif Nat.beq pc 15 then some (.ireturn, 0) else none))))
def MX0_isServed : MI := (yX0_isServed, cX0_isServed, 2, (some .boolean), 0, zTab 16 tX0_isServed)
theorem kX0_isServed : zTok MX0_isServed := zTok_of 16 tX0_isServed rfl (by decide +kernel)
theorem oX0_isServed : zokM MX0_isServed 1 = true := zokM_mk (z_in (List.mem_of_getElem? (i := 594) (by decide +kernel)) rfl) z_ini0 (by decide +kernel)
theorem iX0_isServed : zokI MX0_isServed = true := zokI_mk (z_in (List.mem_of_getElem? (i := 592) (by decide +kernel)) rfl) (z_in (List.mem_of_getElem? (i := 593) (by decide +kernel)) rfl)
def tX0_servedIn : Nat → Option (Instr × Nat) := fun pc => bif Nat.blt pc 11 then (bif Nat.blt pc 5 then (bif Nat.blt pc 2 then (bif Nat.blt pc 1 then (bif Nat.beq pc 0 then some (.iconst 0, 0) else none) else (bif Nat.beq pc 1 then some (.istore_n 2, 0) else none)) else (bif Nat.blt pc 3 then (bif Nat.beq pc 2 then some (.iload_n 2, 0) else none) else (bif Nat.beq pc 3 then some (.bipush 24, 0) else none))) else (bif Nat.blt pc 9 then (bif Nat.blt pc 8 then (bif Nat.beq pc 5 then some (.if_icmp .ge 20, 25) else none) else (bif Nat.beq pc 8 then some (.aload_n 0, 0) else none)) else (bif Nat.blt pc 10 then (bif Nat.beq pc 9 then some (.iload_n 2, 0) else none) else (bif Nat.beq pc 10 then some (.iload_n 1, 0) else none)))) else (bif Nat.blt pc 19 then (bif Nat.blt pc 17 then (bif Nat.blt pc 14 then (bif Nat.beq pc 11 then some (.invokevirtual 106, 0) else none) else (bif Nat.beq pc 14 then some (.ifCond .ne 5, 19) else none)) else (bif Nat.blt pc 18 then (bif Nat.beq pc 17 then some (.iload_n 2, 0) else none) else (bif Nat.beq pc 18 then some (.ireturn, 0) else none))) else (bif Nat.blt pc 25 then (bif Nat.blt pc 22 then (bif Nat.beq pc 19 then some (.iinc 2 1, 0) else none) else (bif Nat.beq pc 22 then some (.goto (-20), 2) else none)) else (bif Nat.blt pc 26 then (bif Nat.beq pc 25 then some (.iconst (-1), 0) else none) else (bif Nat.beq pc 26 then some (.ireturn, 0) else none))))
def MX0_servedIn : MI := (yX0_servedIn, cX0_servedIn, 3, (some .int), 0, zTab 27 tX0_servedIn)
theorem kX0_servedIn : zTok MX0_servedIn := zTok_of 27 tX0_servedIn rfl (by decide +kernel)
theorem oX0_servedIn : zokM MX0_servedIn 1 = true := zokM_mk (z_in (List.mem_of_getElem? (i := 555) (by decide +kernel)) rfl) z_ini0 (by decide +kernel)
theorem iX0_servedIn : zokI MX0_servedIn = true := zokI_mk (z_in (List.mem_of_getElem? (i := 553) (by decide +kernel)) rfl) (z_in (List.mem_of_getElem? (i := 554) (by decide +kernel)) rfl)
def tX0_servedBits : Nat → Option (Instr × Nat) := fun pc => bif Nat.blt pc 17 then (bif Nat.blt pc 5 then (bif Nat.blt pc 2 then (bif Nat.blt pc 1 then (bif Nat.beq pc 0 then some (.iconst 0, 0) else none) else (bif Nat.beq pc 1 then some (.istore_n 1, 0) else none)) else (bif Nat.blt pc 3 then (bif Nat.beq pc 2 then some (.iconst 0, 0) else none) else (bif Nat.blt pc 4 then (bif Nat.beq pc 3 then some (.istore_n 2, 0) else none) else (bif Nat.beq pc 4 then some (.iload_n 2, 0) else none)))) else (bif Nat.blt pc 12 then (bif Nat.blt pc 6 then (bif Nat.beq pc 5 then some (.aload_n 0, 0) else none) else (bif Nat.blt pc 9 then (bif Nat.beq pc 6 then some (.getfield 24, 0) else none) else (bif Nat.beq pc 9 then some (.if_icmp .ge 23, 32) else none))) else (bif Nat.blt pc 13 then (bif Nat.beq pc 12 then some (.aload_n 0, 0) else none) else (bif Nat.blt pc 14 then (bif Nat.beq pc 13 then some (.iload_n 2, 0) else none) else (bif Nat.beq pc 14 then some (.invokevirtual 109, 0) else none))))) else (bif Nat.blt pc 24 then (bif Nat.blt pc 21 then (bif Nat.blt pc 20 then (bif Nat.beq pc 17 then some (.ifCond .eq 9, 26) else none) else (bif Nat.beq pc 20 then some (.iload_n 1, 0) else none)) else (bif Nat.blt pc 22 then (bif Nat.beq pc 21 then some (.iconst 1, 0) else none) else (bif Nat.blt pc 23 then (bif Nat.beq pc 22 then some (.iload_n 2, 0) else none) else (bif Nat.beq pc 23 then some (.ishl, 0) else none)))) else (bif Nat.blt pc 29 then (bif Nat.blt pc 25 then (bif Nat.beq pc 24 then some (.ior, 0) else none) else (bif Nat.blt pc 26 then (bif Nat.beq pc 25 then some (.istore_n 1, 0) else none) else (bif Nat.beq pc 26 then some (.iinc 2 1, 0) else none))) else (bif Nat.blt pc 32 then (bif Nat.beq pc 29 then some (.goto (-25), 4) else none) else (bif Nat.blt pc 33 then (bif Nat.beq pc 32 then some (.iload_n 1, 0) else none) else (bif Nat.beq pc 33 then some (.ireturn, 0) else none)))))
def MX0_servedBits : MI := (yX0_servedBits, cX0_servedBits, 3, (some .int), 0, zTab 34 tX0_servedBits)
theorem kX0_servedBits : zTok MX0_servedBits := zTok_of 34 tX0_servedBits rfl (by decide +kernel)
theorem oX0_servedBits : zokM MX0_servedBits 0 = true := zokM_mk (z_in (List.mem_of_getElem? (i := 610) (by decide +kernel)) rfl) z_ini0 (by decide +kernel)
theorem iX0_servedBits : zokI MX0_servedBits = true := zokI_mk (z_in (List.mem_of_getElem? (i := 608) (by decide +kernel)) rfl) (z_in (List.mem_of_getElem? (i := 609) (by decide +kernel)) rfl)
def tX0_howManyServed : Nat → Option (Instr × Nat) := fun pc => bif Nat.blt pc 4 then (bif Nat.blt pc 1 then (bif Nat.beq pc 0 then some (.aload_n 0, 0) else none) else (bif Nat.beq pc 1 then some (.invokevirtual 113, 0) else none)) else (bif Nat.blt pc 7 then (bif Nat.beq pc 4 then some (.invokestatic 116, 0) else none) else (bif Nat.beq pc 7 then some (.ireturn, 0) else none))
def MX0_howManyServed : MI := (yX0_howManyServed, cX0_howManyServed, 1, (some .int), 0, zTab 8 tX0_howManyServed)
theorem kX0_howManyServed : zTok MX0_howManyServed := zTok_of 8 tX0_howManyServed rfl (by decide +kernel)
theorem oX0_howManyServed : zokM MX0_howManyServed 0 = true := zokM_mk (z_in (List.mem_of_getElem? (i := 606) (by decide +kernel)) rfl) z_ini0 (by decide +kernel)
theorem iX0_howManyServed : zokI MX0_howManyServed = true := zokI_mk (z_in (List.mem_of_getElem? (i := 604) (by decide +kernel)) rfl) (z_in (List.mem_of_getElem? (i := 605) (by decide +kernel)) rfl)
def tX0_stood : Nat → Option (Instr × Nat) := fun pc => bif Nat.blt pc 12 then (bif Nat.blt pc 4 then (bif Nat.blt pc 2 then (bif Nat.blt pc 1 then (bif Nat.beq pc 0 then some (.iconst 0, 0) else none) else (bif Nat.beq pc 1 then some (.istore_n 2, 0) else none)) else (bif Nat.blt pc 3 then (bif Nat.beq pc 2 then some (.iconst 0, 0) else none) else (bif Nat.beq pc 3 then some (.istore_n 3, 0) else none))) else (bif Nat.blt pc 7 then (bif Nat.blt pc 5 then (bif Nat.beq pc 4 then some (.iload_n 3, 0) else none) else (bif Nat.beq pc 5 then some (.bipush 24, 0) else none)) else (bif Nat.blt pc 10 then (bif Nat.beq pc 7 then some (.if_icmp .ge 22, 29) else none) else (bif Nat.blt pc 11 then (bif Nat.beq pc 10 then some (.aload_n 0, 0) else none) else (bif Nat.beq pc 11 then some (.iload_n 3, 0) else none))))) else (bif Nat.blt pc 20 then (bif Nat.blt pc 16 then (bif Nat.blt pc 13 then (bif Nat.beq pc 12 then some (.iload_n 1, 0) else none) else (bif Nat.beq pc 13 then some (.invokevirtual 121, 0) else none)) else (bif Nat.blt pc 17 then (bif Nat.beq pc 16 then some (.iconst (-1), 0) else none) else (bif Nat.beq pc 17 then some (.if_icmp .eq 6, 23) else none))) else (bif Nat.blt pc 26 then (bif Nat.blt pc 23 then (bif Nat.beq pc 20 then some (.iinc 2 1, 0) else none) else (bif Nat.beq pc 23 then some (.iinc 3 1, 0) else none)) else (bif Nat.blt pc 29 then (bif Nat.beq pc 26 then some (.goto (-22), 4) else none) else (bif Nat.blt pc 30 then (bif Nat.beq pc 29 then some (.iload_n 2, 0) else none) else (bif Nat.beq pc 30 then some (.ireturn, 0) else none)))))
def MX0_stood : MI := (yX0_stood, cX0_stood, 4, (some .int), 0, zTab 31 tX0_stood)
theorem kX0_stood : zTok MX0_stood := zTok_of 31 tX0_stood rfl (by decide +kernel)
theorem oX0_stood : zokM MX0_stood 1 = true := zokM_mk (z_in (List.mem_of_getElem? (i := 560) (by decide +kernel)) rfl) z_ini0 (by decide +kernel)
theorem iX0_stood : zokI MX0_stood = true := zokI_mk (z_in (List.mem_of_getElem? (i := 558) (by decide +kernel)) rfl) (z_in (List.mem_of_getElem? (i := 559) (by decide +kernel)) rfl)
def tX0_moves : Nat → Option (Instr × Nat) := fun pc => bif Nat.blt pc 24 then (bif Nat.blt pc 9 then (bif Nat.blt pc 3 then (bif Nat.blt pc 1 then (bif Nat.beq pc 0 then some (.iconst 0, 0) else none) else (bif Nat.blt pc 2 then (bif Nat.beq pc 1 then some (.istore_n 2, 0) else none) else (bif Nat.beq pc 2 then some (.iconst (-1), 0) else none))) else (bif Nat.blt pc 5 then (bif Nat.blt pc 4 then (bif Nat.beq pc 3 then some (.istore_n 3, 0) else none) else (bif Nat.beq pc 4 then some (.iconst 0, 0) else none)) else (bif Nat.blt pc 7 then (bif Nat.beq pc 5 then some (.istore 4, 0) else none) else (bif Nat.beq pc 7 then some (.iload 4, 0) else none)))) else (bif Nat.blt pc 17 then (bif Nat.blt pc 14 then (bif Nat.blt pc 11 then (bif Nat.beq pc 9 then some (.bipush 24, 0) else none) else (bif Nat.beq pc 11 then some (.if_icmp .ge 41, 52) else none)) else (bif Nat.blt pc 15 then (bif Nat.beq pc 14 then some (.aload_n 0, 0) else none) else (bif Nat.beq pc 15 then some (.iload 4, 0) else none))) else (bif Nat.blt pc 21 then (bif Nat.blt pc 18 then (bif Nat.beq pc 17 then some (.iload_n 1, 0) else none) else (bif Nat.beq pc 18 then some (.invokevirtual 121, 0) else none)) else (bif Nat.blt pc 23 then (bif Nat.beq pc 21 then some (.istore 5, 0) else none) else (bif Nat.beq pc 23 then some (.iload_n 3, 0) else none))))) else (bif Nat.blt pc 37 then (bif Nat.blt pc 30 then (bif Nat.blt pc 25 then (bif Nat.beq pc 24 then some (.iconst (-1), 0) else none) else (bif Nat.blt pc 28 then (bif Nat.beq pc 25 then some (.if_icmp .eq 18, 43) else none) else (bif Nat.beq pc 28 then some (.iload 5, 0) else none))) else (bif Nat.blt pc 34 then (bif Nat.blt pc 31 then (bif Nat.beq pc 30 then some (.iconst (-1), 0) else none) else (bif Nat.beq pc 31 then some (.if_icmp .eq 12, 43) else none)) else (bif Nat.blt pc 36 then (bif Nat.beq pc 34 then some (.iload 5, 0) else none) else (bif Nat.beq pc 36 then some (.iload_n 3, 0) else none)))) else (bif Nat.blt pc 46 then (bif Nat.blt pc 43 then (bif Nat.blt pc 40 then (bif Nat.beq pc 37 then some (.if_icmp .eq 6, 43) else none) else (bif Nat.beq pc 40 then some (.iinc 2 1, 0) else none)) else (bif Nat.blt pc 45 then (bif Nat.beq pc 43 then some (.iload 5, 0) else none) else (bif Nat.beq pc 45 then some (.istore_n 3, 0) else none))) else (bif Nat.blt pc 52 then (bif Nat.blt pc 49 then (bif Nat.beq pc 46 then some (.iinc 4 1, 0) else none) else (bif Nat.beq pc 49 then some (.goto (-42), 7) else none)) else (bif Nat.blt pc 53 then (bif Nat.beq pc 52 then some (.iload_n 2, 0) else none) else (bif Nat.beq pc 53 then some (.ireturn, 0) else none)))))
def MX0_moves : MI := (yX0_moves, cX0_moves, 6, (some .int), 0, zTab 54 tX0_moves)
theorem kX0_moves : zTok MX0_moves := zTok_of 54 tX0_moves rfl (by decide +kernel)
theorem oX0_moves : zokM MX0_moves 1 = true := zokM_mk (z_in (List.mem_of_getElem? (i := 565) (by decide +kernel)) rfl) z_ini0 (by decide +kernel)
theorem iX0_moves : zokI MX0_moves = true := zokI_mk (z_in (List.mem_of_getElem? (i := 563) (by decide +kernel)) rfl) (z_in (List.mem_of_getElem? (i := 564) (by decide +kernel)) rfl)
def tX0_minutesFirst : Nat → Option (Instr × Nat) := fun pc => bif Nat.blt pc 12 then (bif Nat.blt pc 4 then (bif Nat.blt pc 2 then (bif Nat.blt pc 1 then (bif Nat.beq pc 0 then some (.iconst 0, 0) else none) else (bif Nat.beq pc 1 then some (.istore_n 2, 0) else none)) else (bif Nat.blt pc 3 then (bif Nat.beq pc 2 then some (.iconst 0, 0) else none) else (bif Nat.beq pc 3 then some (.istore_n 3, 0) else none))) else (bif Nat.blt pc 7 then (bif Nat.blt pc 5 then (bif Nat.beq pc 4 then some (.iload_n 3, 0) else none) else (bif Nat.beq pc 5 then some (.bipush 24, 0) else none)) else (bif Nat.blt pc 10 then (bif Nat.beq pc 7 then some (.if_icmp .ge 22, 29) else none) else (bif Nat.blt pc 11 then (bif Nat.beq pc 10 then some (.aload_n 0, 0) else none) else (bif Nat.beq pc 11 then some (.iload_n 3, 0) else none))))) else (bif Nat.blt pc 20 then (bif Nat.blt pc 16 then (bif Nat.blt pc 13 then (bif Nat.beq pc 12 then some (.iconst 0, 0) else none) else (bif Nat.beq pc 13 then some (.invokevirtual 124, 0) else none)) else (bif Nat.blt pc 17 then (bif Nat.beq pc 16 then some (.iload_n 1, 0) else none) else (bif Nat.beq pc 17 then some (.if_icmp .ne 6, 23) else none))) else (bif Nat.blt pc 26 then (bif Nat.blt pc 23 then (bif Nat.beq pc 20 then some (.iinc 2 1, 0) else none) else (bif Nat.beq pc 23 then some (.iinc 3 1, 0) else none)) else (bif Nat.blt pc 29 then (bif Nat.beq pc 26 then some (.goto (-22), 4) else none) else (bif Nat.blt pc 30 then (bif Nat.beq pc 29 then some (.iload_n 2, 0) else none) else (bif Nat.beq pc 30 then some (.ireturn, 0) else none)))))
def MX0_minutesFirst : MI := (yX0_minutesFirst, cX0_minutesFirst, 4, (some .int), 0, zTab 31 tX0_minutesFirst)
theorem kX0_minutesFirst : zTok MX0_minutesFirst := zTok_of 31 tX0_minutesFirst rfl (by decide +kernel)
theorem oX0_minutesFirst : zokM MX0_minutesFirst 1 = true := zokM_mk (z_in (List.mem_of_getElem? (i := 573) (by decide +kernel)) rfl) z_ini0 (by decide +kernel)
theorem iX0_minutesFirst : zokI MX0_minutesFirst = true := zokI_mk (z_in (List.mem_of_getElem? (i := 571) (by decide +kernel)) rfl) (z_in (List.mem_of_getElem? (i := 572) (by decide +kernel)) rfl)
def tX1_digit : Nat → Option (Instr × Nat) := fun pc => bif Nat.blt pc 13 then (bif Nat.blt pc 7 then (bif Nat.blt pc 4 then (bif Nat.blt pc 1 then (bif Nat.beq pc 0 then some (.iload_n 2, 0) else none) else (bif Nat.beq pc 1 then some (.ifCond .lt 21, 22) else none)) else (bif Nat.blt pc 5 then (bif Nat.beq pc 4 then some (.iload_n 2, 0) else none) else (bif Nat.beq pc 5 then some (.bipush 12, 0) else none))) else (bif Nat.blt pc 11 then (bif Nat.blt pc 10 then (bif Nat.beq pc 7 then some (.if_icmp .ge 15, 22) else none) else (bif Nat.beq pc 10 then some (.lload_n 0, 0) else none)) else (bif Nat.blt pc 12 then (bif Nat.beq pc 11 then some (.iconst 4, 0) else none) else (bif Nat.beq pc 12 then some (.iload_n 2, 0) else none)))) else (bif Nat.blt pc 18 then (bif Nat.blt pc 15 then (bif Nat.blt pc 14 then (bif Nat.beq pc 13 then some (.imul, 0) else none) else (bif Nat.beq pc 14 then some (.lushr, 0) else none)) else (bif Nat.blt pc 16 then (bif Nat.beq pc 15 then some (.l2i, 0) else none) else (bif Nat.beq pc 16 then some (.bipush 15, 0) else none))) else (bif Nat.blt pc 22 then (bif Nat.blt pc 19 then (bif Nat.beq pc 18 then some (.iand, 0) else none) else (bif Nat.beq pc 19 then some (.goto 4, 23) else none)) else (bif Nat.blt pc 23 then (bif Nat.beq pc 22 then some (.iconst 0, 0) else none) else (bif Nat.beq pc 23 then some (.ireturn, 0) else none))))
def MX1_digit : MI := (yX1_digit, cX1_digit, 3, (some .int), 1, zTab 24 tX1_digit)
theorem kX1_digit : zTok MX1_digit := zTok_of 24 tX1_digit rfl (by decide +kernel)
theorem oX1_digit : zokM MX1_digit 2 = true := zokM_mk (z_in (List.mem_of_getElem? (i := 348) (by decide +kernel)) rfl) z_ini1 (by decide +kernel)
theorem iX1_digit : zokS MX1_digit = true := zokS_mk (z_in (List.mem_of_getElem? (i := 347) (by decide +kernel)) rfl)
def tX1_replaced : Nat → Option (Instr × Nat) := fun pc => bif Nat.blt pc 20 then (bif Nat.blt pc 11 then (bif Nat.blt pc 5 then (bif Nat.blt pc 1 then (bif Nat.beq pc 0 then some (.iload_n 2, 0) else none) else (bif Nat.blt pc 4 then (bif Nat.beq pc 1 then some (.ifCond .lt 9, 10) else none) else (bif Nat.beq pc 4 then some (.iload_n 2, 0) else none))) else (bif Nat.blt pc 7 then (bif Nat.beq pc 5 then some (.bipush 12, 0) else none) else (bif Nat.blt pc 10 then (bif Nat.beq pc 7 then some (.if_icmp .lt 5, 12) else none) else (bif Nat.beq pc 10 then some (.lload_n 0, 0) else none)))) else (bif Nat.blt pc 16 then (bif Nat.blt pc 12 then (bif Nat.beq pc 11 then some (.lreturn, 0) else none) else (bif Nat.blt pc 13 then (bif Nat.beq pc 12 then some (.lload_n 0, 0) else none) else (bif Nat.beq pc 13 then some (.ldc2_w 9, 0) else none))) else (bif Nat.blt pc 18 then (bif Nat.blt pc 17 then (bif Nat.beq pc 16 then some (.iconst 4, 0) else none) else (bif Nat.beq pc 17 then some (.iload_n 2, 0) else none)) else (bif Nat.blt pc 19 then (bif Nat.beq pc 18 then some (.imul, 0) else none) else (bif Nat.beq pc 19 then some (.lshl, 0) else none))))) else (bif Nat.blt pc 29 then (bif Nat.blt pc 25 then (bif Nat.blt pc 23 then (bif Nat.beq pc 20 then some (.ldc2_w 11, 0) else none) else (bif Nat.blt pc 24 then (bif Nat.beq pc 23 then some (.lxor, 0) else none) else (bif Nat.beq pc 24 then some (.land, 0) else none))) else (bif Nat.blt pc 26 then (bif Nat.beq pc 25 then some (.iload_n 3, 0) else none) else (bif Nat.blt pc 28 then (bif Nat.beq pc 26 then some (.bipush 15, 0) else none) else (bif Nat.beq pc 28 then some (.iand, 0) else none)))) else (bif Nat.blt pc 32 then (bif Nat.blt pc 30 then (bif Nat.beq pc 29 then some (.i2l, 0) else none) else (bif Nat.blt pc 31 then (bif Nat.beq pc 30 then some (.iconst 4, 0) else none) else (bif Nat.beq pc 31 then some (.iload_n 2, 0) else none))) else (bif Nat.blt pc 34 then (bif Nat.blt pc 33 then (bif Nat.beq pc 32 then some (.imul, 0) else none) else (bif Nat.beq pc 33 then some (.lshl, 0) else none)) else (bif Nat.blt pc 35 then (bif Nat.beq pc 34 then some (.lor, 0) else none) else (bif Nat.beq pc 35 then some (.lreturn, 0) else none)))))
def MX1_replaced : MI := (yX1_replaced, cX1_replaced, 4, (some .long), 1, zTab 36 tX1_replaced)
theorem kX1_replaced : zTok MX1_replaced := zTok_of 36 tX1_replaced rfl (by decide +kernel)
theorem oX1_replaced : zokM MX1_replaced 3 = true := zokM_mk (z_in (List.mem_of_getElem? (i := 267) (by decide +kernel)) rfl) z_ini1 (by decide +kernel)
theorem iX1_replaced : zokS MX1_replaced = true := zokS_mk (z_in (List.mem_of_getElem? (i := 266) (by decide +kernel)) rfl)
def tX1_lowered : Nat → Option (Instr × Nat) := fun pc => bif Nat.blt pc 19 then (bif Nat.blt pc 11 then (bif Nat.blt pc 5 then (bif Nat.blt pc 1 then (bif Nat.beq pc 0 then some (.iload_n 2, 0) else none) else (bif Nat.blt pc 4 then (bif Nat.beq pc 1 then some (.ifCond .lt 23, 24) else none) else (bif Nat.beq pc 4 then some (.iload_n 2, 0) else none))) else (bif Nat.blt pc 7 then (bif Nat.beq pc 5 then some (.bipush 12, 0) else none) else (bif Nat.blt pc 10 then (bif Nat.beq pc 7 then some (.if_icmp .ge 17, 24) else none) else (bif Nat.beq pc 10 then some (.lload_n 0, 0) else none)))) else (bif Nat.blt pc 14 then (bif Nat.blt pc 12 then (bif Nat.beq pc 11 then some (.iconst 4, 0) else none) else (bif Nat.blt pc 13 then (bif Nat.beq pc 12 then some (.iload_n 2, 0) else none) else (bif Nat.beq pc 13 then some (.imul, 0) else none))) else (bif Nat.blt pc 15 then (bif Nat.beq pc 14 then some (.lushr, 0) else none) else (bif Nat.blt pc 18 then (bif Nat.beq pc 15 then some (.ldc2_w 9, 0) else none) else (bif Nat.beq pc 18 then some (.land, 0) else none))))) else (bif Nat.blt pc 27 then (bif Nat.blt pc 24 then (bif Nat.blt pc 20 then (bif Nat.beq pc 19 then some (.lconst 0, 0) else none) else (bif Nat.blt pc 21 then (bif Nat.beq pc 20 then some (.lcmp, 0) else none) else (bif Nat.beq pc 21 then some (.ifCond .ne 5, 26) else none))) else (bif Nat.blt pc 25 then (bif Nat.beq pc 24 then some (.lload_n 0, 0) else none) else (bif Nat.blt pc 26 then (bif Nat.beq pc 25 then some (.lreturn, 0) else none) else (bif Nat.beq pc 26 then some (.lload_n 0, 0) else none)))) else (bif Nat.blt pc 30 then (bif Nat.blt pc 28 then (bif Nat.beq pc 27 then some (.lconst 1, 0) else none) else (bif Nat.blt pc 29 then (bif Nat.beq pc 28 then some (.iconst 4, 0) else none) else (bif Nat.beq pc 29 then some (.iload_n 2, 0) else none))) else (bif Nat.blt pc 32 then (bif Nat.blt pc 31 then (bif Nat.beq pc 30 then some (.imul, 0) else none) else (bif Nat.beq pc 31 then some (.lshl, 0) else none)) else (bif Nat.blt pc 33 then (bif Nat.beq pc 32 then some (.lsub, 0) else none) else (bif Nat.beq pc 33 then some (.lreturn, 0) else none)))))
def MX1_lowered : MI := (yX1_lowered, cX1_lowered, 3, (some .long), 1, zTab 34 tX1_lowered)
theorem kX1_lowered : zTok MX1_lowered := zTok_of 34 tX1_lowered rfl (by decide +kernel)
theorem oX1_lowered : zokM MX1_lowered 2 = true := zokM_mk (z_in (List.mem_of_getElem? (i := 351) (by decide +kernel)) rfl) z_ini1 (by decide +kernel)
theorem iX1_lowered : zokS MX1_lowered = true := zokS_mk (z_in (List.mem_of_getElem? (i := 350) (by decide +kernel)) rfl)
def tX1_inserted : Nat → Option (Instr × Nat) := fun pc => bif Nat.blt pc 25 then (bif Nat.blt pc 14 then (bif Nat.blt pc 7 then (bif Nat.blt pc 4 then (bif Nat.blt pc 1 then (bif Nat.beq pc 0 then some (.iload_n 2, 0) else none) else (bif Nat.beq pc 1 then some (.ifCond .lt 9, 10) else none)) else (bif Nat.blt pc 5 then (bif Nat.beq pc 4 then some (.iload_n 2, 0) else none) else (bif Nat.beq pc 5 then some (.bipush 12, 0) else none))) else (bif Nat.blt pc 11 then (bif Nat.blt pc 10 then (bif Nat.beq pc 7 then some (.if_icmp .lt 5, 12) else none) else (bif Nat.beq pc 10 then some (.lload_n 0, 0) else none)) else (bif Nat.blt pc 12 then (bif Nat.beq pc 11 then some (.lreturn, 0) else none) else (bif Nat.blt pc 13 then (bif Nat.beq pc 12 then some (.lload_n 0, 0) else none) else (bif Nat.beq pc 13 then some (.lconst 1, 0) else none))))) else (bif Nat.blt pc 19 then (bif Nat.blt pc 16 then (bif Nat.blt pc 15 then (bif Nat.beq pc 14 then some (.iconst 4, 0) else none) else (bif Nat.beq pc 15 then some (.iload_n 2, 0) else none)) else (bif Nat.blt pc 17 then (bif Nat.beq pc 16 then some (.imul, 0) else none) else (bif Nat.blt pc 18 then (bif Nat.beq pc 17 then some (.lshl, 0) else none) else (bif Nat.beq pc 18 then some (.lconst 1, 0) else none)))) else (bif Nat.blt pc 21 then (bif Nat.blt pc 20 then (bif Nat.beq pc 19 then some (.lsub, 0) else none) else (bif Nat.beq pc 20 then some (.land, 0) else none)) else (bif Nat.blt pc 23 then (bif Nat.beq pc 21 then some (.lstore 4, 0) else none) else (bif Nat.blt pc 24 then (bif Nat.beq pc 23 then some (.lload_n 0, 0) else none) else (bif Nat.beq pc 24 then some (.iconst 4, 0) else none)))))) else (bif Nat.blt pc 37 then (bif Nat.blt pc 30 then (bif Nat.blt pc 27 then (bif Nat.blt pc 26 then (bif Nat.beq pc 25 then some (.iload_n 2, 0) else none) else (bif Nat.beq pc 26 then some (.imul, 0) else none)) else (bif Nat.blt pc 28 then (bif Nat.beq pc 27 then some (.lushr, 0) else none) else (bif Nat.beq pc 28 then some (.lstore 6, 0) else none))) else (bif Nat.blt pc 34 then (bif Nat.blt pc 32 then (bif Nat.beq pc 30 then some (.lload 4, 0) else none) else (bif Nat.beq pc 32 then some (.lload 6, 0) else none)) else (bif Nat.blt pc 35 then (bif Nat.beq pc 34 then some (.iconst 4, 0) else none) else (bif Nat.blt pc 36 then (bif Nat.beq pc 35 then some (.lshl, 0) else none) else (bif Nat.beq pc 36 then some (.iload_n 3, 0) else none))))) else (bif Nat.blt pc 43 then (bif Nat.blt pc 40 then (bif Nat.blt pc 39 then (bif Nat.beq pc 37 then some (.bipush 15, 0) else none) else (bif Nat.beq pc 39 then some (.iand, 0) else none)) else (bif Nat.blt pc 41 then (bif Nat.beq pc 40 then some (.i2l, 0) else none) else (bif Nat.blt pc 42 then (bif Nat.beq pc 41 then some (.lor, 0) else none) else (bif Nat.beq pc 42 then some (.iconst 4, 0) else none)))) else (bif Nat.blt pc 45 then (bif Nat.blt pc 44 then (bif Nat.beq pc 43 then some (.iload_n 2, 0) else none) else (bif Nat.beq pc 44 then some (.imul, 0) else none)) else (bif Nat.blt pc 46 then (bif Nat.beq pc 45 then some (.lshl, 0) else none) else (bif Nat.blt pc 47 then (bif Nat.beq pc 46 then some (.lor, 0) else none) else (bif Nat.beq pc 47 then some (.lreturn, 0) else none))))))
def MX1_inserted : MI := (yX1_inserted, cX1_inserted, 8, (some .long), 1, zTab 48 tX1_inserted)
theorem kX1_inserted : zTok MX1_inserted := zTok_of 48 tX1_inserted rfl (by decide +kernel)
theorem oX1_inserted : zokM MX1_inserted 3 = true := zokM_mk (z_in (List.mem_of_getElem? (i := 319) (by decide +kernel)) rfl) z_ini1 (by decide +kernel)
theorem iX1_inserted : zokS MX1_inserted = true := zokS_mk (z_in (List.mem_of_getElem? (i := 318) (by decide +kernel)) rfl)
def tX1_removed : Nat → Option (Instr × Nat) := fun pc => bif Nat.blt pc 21 then (bif Nat.blt pc 13 then (bif Nat.blt pc 7 then (bif Nat.blt pc 4 then (bif Nat.blt pc 1 then (bif Nat.beq pc 0 then some (.iload_n 2, 0) else none) else (bif Nat.beq pc 1 then some (.ifCond .lt 9, 10) else none)) else (bif Nat.blt pc 5 then (bif Nat.beq pc 4 then some (.iload_n 2, 0) else none) else (bif Nat.beq pc 5 then some (.bipush 12, 0) else none))) else (bif Nat.blt pc 11 then (bif Nat.blt pc 10 then (bif Nat.beq pc 7 then some (.if_icmp .lt 5, 12) else none) else (bif Nat.beq pc 10 then some (.lload_n 0, 0) else none)) else (bif Nat.blt pc 12 then (bif Nat.beq pc 11 then some (.lreturn, 0) else none) else (bif Nat.beq pc 12 then some (.lload_n 0, 0) else none)))) else (bif Nat.blt pc 17 then (bif Nat.blt pc 15 then (bif Nat.blt pc 14 then (bif Nat.beq pc 13 then some (.lconst 1, 0) else none) else (bif Nat.beq pc 14 then some (.iconst 4, 0) else none)) else (bif Nat.blt pc 16 then (bif Nat.beq pc 15 then some (.iload_n 2, 0) else none) else (bif Nat.beq pc 16 then some (.imul, 0) else none))) else (bif Nat.blt pc 19 then (bif Nat.blt pc 18 then (bif Nat.beq pc 17 then some (.lshl, 0) else none) else (bif Nat.beq pc 18 then some (.lconst 1, 0) else none)) else (bif Nat.blt pc 20 then (bif Nat.beq pc 19 then some (.lsub, 0) else none) else (bif Nat.beq pc 20 then some (.land, 0) else none))))) else (bif Nat.blt pc 29 then (bif Nat.blt pc 25 then (bif Nat.blt pc 23 then (bif Nat.blt pc 22 then (bif Nat.beq pc 21 then some (.lstore_n 3, 0) else none) else (bif Nat.beq pc 22 then some (.lload_n 0, 0) else none)) else (bif Nat.blt pc 24 then (bif Nat.beq pc 23 then some (.iconst 4, 0) else none) else (bif Nat.beq pc 24 then some (.iload_n 2, 0) else none))) else (bif Nat.blt pc 27 then (bif Nat.blt pc 26 then (bif Nat.beq pc 25 then some (.imul, 0) else none) else (bif Nat.beq pc 26 then some (.iconst 4, 0) else none)) else (bif Nat.blt pc 28 then (bif Nat.beq pc 27 then some (.iadd, 0) else none) else (bif Nat.beq pc 28 then some (.lushr, 0) else none)))) else (bif Nat.blt pc 35 then (bif Nat.blt pc 32 then (bif Nat.blt pc 31 then (bif Nat.beq pc 29 then some (.lstore 5, 0) else none) else (bif Nat.beq pc 31 then some (.lload_n 3, 0) else none)) else (bif Nat.blt pc 34 then (bif Nat.beq pc 32 then some (.lload 5, 0) else none) else (bif Nat.beq pc 34 then some (.iconst 4, 0) else none))) else (bif Nat.blt pc 37 then (bif Nat.blt pc 36 then (bif Nat.beq pc 35 then some (.iload_n 2, 0) else none) else (bif Nat.beq pc 36 then some (.imul, 0) else none)) else (bif Nat.blt pc 38 then (bif Nat.beq pc 37 then some (.lshl, 0) else none) else (bif Nat.blt pc 39 then (bif Nat.beq pc 38 then some (.lor, 0) else none) else (bif Nat.beq pc 39 then some (.lreturn, 0) else none))))))
def MX1_removed : MI := (yX1_removed, cX1_removed, 7, (some .long), 1, zTab 40 tX1_removed)
theorem kX1_removed : zTok MX1_removed := zTok_of 40 tX1_removed rfl (by decide +kernel)
theorem oX1_removed : zokM MX1_removed 2 = true := zokM_mk (z_in (List.mem_of_getElem? (i := 312) (by decide +kernel)) rfl) z_ini1 (by decide +kernel)
theorem iX1_removed : zokS MX1_removed = true := zokS_mk (z_in (List.mem_of_getElem? (i := 311) (by decide +kernel)) rfl)
def tX1_length : Nat → Option (Instr × Nat) := fun pc => bif Nat.blt pc 18 then (bif Nat.blt pc 7 then (bif Nat.blt pc 2 then (bif Nat.blt pc 1 then (bif Nat.beq pc 0 then some (.lload_n 0, 0) else none) else (bif Nat.beq pc 1 then some (.lstore_n 2, 0) else none)) else (bif Nat.blt pc 3 then (bif Nat.beq pc 2 then some (.iconst 0, 0) else none) else (bif Nat.blt pc 5 then (bif Nat.beq pc 3 then some (.istore 4, 0) else none) else (bif Nat.beq pc 5 then some (.iload 4, 0) else none)))) else (bif Nat.blt pc 13 then (bif Nat.blt pc 9 then (bif Nat.beq pc 7 then some (.bipush 12, 0) else none) else (bif Nat.blt pc 12 then (bif Nat.beq pc 9 then some (.if_icmp .ge 26, 35) else none) else (bif Nat.beq pc 12 then some (.lload_n 2, 0) else none))) else (bif Nat.blt pc 16 then (bif Nat.beq pc 13 then some (.ldc2_w 9, 0) else none) else (bif Nat.blt pc 17 then (bif Nat.beq pc 16 then some (.land, 0) else none) else (bif Nat.beq pc 17 then some (.lconst 0, 0) else none))))) else (bif Nat.blt pc 27 then (bif Nat.blt pc 24 then (bif Nat.blt pc 19 then (bif Nat.beq pc 18 then some (.lcmp, 0) else none) else (bif Nat.blt pc 22 then (bif Nat.beq pc 19 then some (.ifCond .ne 6, 25) else none) else (bif Nat.beq pc 22 then some (.iload 4, 0) else none))) else (bif Nat.blt pc 25 then (bif Nat.beq pc 24 then some (.ireturn, 0) else none) else (bif Nat.blt pc 26 then (bif Nat.beq pc 25 then some (.lload_n 2, 0) else none) else (bif Nat.beq pc 26 then some (.iconst 4, 0) else none)))) else (bif Nat.blt pc 32 then (bif Nat.blt pc 28 then (bif Nat.beq pc 27 then some (.lushr, 0) else none) else (bif Nat.blt pc 29 then (bif Nat.beq pc 28 then some (.lstore_n 2, 0) else none) else (bif Nat.beq pc 29 then some (.iinc 4 1, 0) else none))) else (bif Nat.blt pc 35 then (bif Nat.beq pc 32 then some (.goto (-27), 5) else none) else (bif Nat.blt pc 37 then (bif Nat.beq pc 35 then some (.bipush 12, 0) else none) else (bif Nat.beq pc 37 then some (.ireturn, 0) else none)))))
def MX1_length : MI := (yX1_length, cX1_length, 5, (some .int), 1, zTab 38 tX1_length)
theorem kX1_length : zTok MX1_length := zTok_of 38 tX1_length rfl (by decide +kernel)
theorem oX1_length : zokM MX1_length 1 = true := zokM_mk (z_in (List.mem_of_getElem? (i := 322) (by decide +kernel)) rfl) z_ini1 (by decide +kernel)
theorem iX1_length : zokS MX1_length = true := zokS_mk (z_in (List.mem_of_getElem? (i := 321) (by decide +kernel)) rfl)
def tX1_find : Nat → Option (Instr × Nat) := fun pc => bif Nat.blt pc 23 then (bif Nat.blt pc 12 then (bif Nat.blt pc 3 then (bif Nat.blt pc 1 then (bif Nat.beq pc 0 then some (.lload_n 0, 0) else none) else (bif Nat.blt pc 2 then (bif Nat.beq pc 1 then some (.lstore_n 3, 0) else none) else (bif Nat.beq pc 2 then some (.iconst 0, 0) else none))) else (bif Nat.blt pc 7 then (bif Nat.blt pc 5 then (bif Nat.beq pc 3 then some (.istore 5, 0) else none) else (bif Nat.beq pc 5 then some (.iload 5, 0) else none)) else (bif Nat.blt pc 9 then (bif Nat.beq pc 7 then some (.bipush 12, 0) else none) else (bif Nat.beq pc 9 then some (.if_icmp .ge 33, 42) else none)))) else (bif Nat.blt pc 15 then (bif Nat.blt pc 13 then (bif Nat.beq pc 12 then some (.lload_n 3, 0) else none) else (bif Nat.blt pc 14 then (bif Nat.beq pc 13 then some (.lconst 0, 0) else none) else (bif Nat.beq pc 14 then some (.lcmp, 0) else none))) else (bif Nat.blt pc 19 then (bif Nat.blt pc 18 then (bif Nat.beq pc 15 then some (.ifCond .eq 27, 42) else none) else (bif Nat.beq pc 18 then some (.lload_n 3, 0) else none)) else (bif Nat.blt pc 22 then (bif Nat.beq pc 19 then some (.ldc2_w 9, 0) else none) else (bif Nat.beq pc 22 then some (.land, 0) else none))))) else (bif Nat.blt pc 33 then (bif Nat.blt pc 26 then (bif Nat.blt pc 24 then (bif Nat.beq pc 23 then some (.iload_n 2, 0) else none) else (bif Nat.blt pc 25 then (bif Nat.beq pc 24 then some (.i2l, 0) else none) else (bif Nat.beq pc 25 then some (.lcmp, 0) else none))) else (bif Nat.blt pc 31 then (bif Nat.blt pc 29 then (bif Nat.beq pc 26 then some (.ifCond .ne 6, 32) else none) else (bif Nat.beq pc 29 then some (.iload 5, 0) else none)) else (bif Nat.blt pc 32 then (bif Nat.beq pc 31 then some (.ireturn, 0) else none) else (bif Nat.beq pc 32 then some (.lload_n 3, 0) else none)))) else (bif Nat.blt pc 36 then (bif Nat.blt pc 34 then (bif Nat.beq pc 33 then some (.iconst 4, 0) else none) else (bif Nat.blt pc 35 then (bif Nat.beq pc 34 then some (.lushr, 0) else none) else (bif Nat.beq pc 35 then some (.lstore_n 3, 0) else none))) else (bif Nat.blt pc 42 then (bif Nat.blt pc 39 then (bif Nat.beq pc 36 then some (.iinc 5 1, 0) else none) else (bif Nat.beq pc 39 then some (.goto (-34), 5) else none)) else (bif Nat.blt pc 43 then (bif Nat.beq pc 42 then some (.iconst (-1), 0) else none) else (bif Nat.beq pc 43 then some (.ireturn, 0) else none)))))
def MX1_find : MI := (yX1_find, cX1_find, 6, (some .int), 1, zTab 44 tX1_find)
theorem kX1_find : zTok MX1_find := zTok_of 44 tX1_find rfl (by decide +kernel)
theorem oX1_find : zokM MX1_find 2 = true := zokM_mk (z_in (List.mem_of_getElem? (i := 309) (by decide +kernel)) rfl) z_ini1 (by decide +kernel)
theorem iX1_find : zokS MX1_find = true := zokS_mk (z_in (List.mem_of_getElem? (i := 308) (by decide +kernel)) rfl)
def tX2_readPeople : Nat → Option (Instr × Nat) := fun pc => bif Nat.blt pc 55 then (bif Nat.blt pc 26 then (bif Nat.blt pc 12 then (bif Nat.blt pc 4 then (bif Nat.blt pc 2 then (bif Nat.blt pc 1 then (bif Nat.beq pc 0 then some (.iconst 0, 0) else none) else (bif Nat.beq pc 1 then some (.istore_n 2, 0) else none)) else (bif Nat.blt pc 3 then (bif Nat.beq pc 2 then some (.iload_n 2, 0) else none) else (bif Nat.beq pc 3 then some (.aload_n 0, 0) else none))) else (bif Nat.blt pc 8 then (bif Nat.blt pc 7 then (bif Nat.beq pc 4 then some (.getfield 30, 0) else none) else (bif Nat.beq pc 7 then some (.arraylength, 0) else none)) else (bif Nat.blt pc 11 then (bif Nat.beq pc 8 then some (.if_icmp .ge 16, 24) else none) else (bif Nat.beq pc 11 then some (.aload_n 0, 0) else none)))) else (bif Nat.blt pc 18 then (bif Nat.blt pc 16 then (bif Nat.blt pc 15 then (bif Nat.beq pc 12 then some (.getfield 30, 0) else none) else (bif Nat.beq pc 15 then some (.iload_n 2, 0) else none)) else (bif Nat.blt pc 17 then (bif Nat.beq pc 16 then some (.iconst 0, 0) else none) else (bif Nat.beq pc 17 then some (.iastore, 0) else none))) else (bif Nat.blt pc 24 then (bif Nat.blt pc 21 then (bif Nat.beq pc 18 then some (.iinc 2 1, 0) else none) else (bif Nat.beq pc 21 then some (.goto (-19), 2) else none)) else (bif Nat.blt pc 25 then (bif Nat.beq pc 24 then some (.aload_n 0, 0) else none) else (bif Nat.beq pc 25 then some (.lconst 0, 0) else none))))) else (bif Nat.blt pc 43 then (bif Nat.blt pc 34 then (bif Nat.blt pc 30 then (bif Nat.blt pc 29 then (bif Nat.beq pc 26 then some (.putfield 36, 0) else none) else (bif Nat.beq pc 29 then some (.aload_n 0, 0) else none)) else (bif Nat.blt pc 31 then (bif Nat.beq pc 30 then some (.aload_n 1, 0) else none) else (bif Nat.beq pc 31 then some (.invokevirtual 40, 0) else none))) else (bif Nat.blt pc 39 then (bif Nat.blt pc 36 then (bif Nat.beq pc 34 then some (.bipush 12, 0) else none) else (bif Nat.beq pc 36 then some (.invokestatic 46, 0) else none)) else (bif Nat.blt pc 42 then (bif Nat.beq pc 39 then some (.putfield 52, 0) else none) else (bif Nat.beq pc 42 then some (.iconst 0, 0) else none)))) else (bif Nat.blt pc 49 then (bif Nat.blt pc 45 then (bif Nat.blt pc 44 then (bif Nat.beq pc 43 then some (.istore_n 2, 0) else none) else (bif Nat.beq pc 44 then some (.iload_n 2, 0) else none)) else (bif Nat.blt pc 46 then (bif Nat.beq pc 45 then some (.aload_n 0, 0) else none) else (bif Nat.beq pc 46 then some (.getfield 52, 0) else none))) else (bif Nat.blt pc 53 then (bif Nat.blt pc 52 then (bif Nat.beq pc 49 then some (.if_icmp .ge 58, 107) else none) else (bif Nat.beq pc 52 then some (.aload_n 0, 0) else none)) else (bif Nat.blt pc 54 then (bif Nat.beq pc 53 then some (.iload_n 2, 0) else none) else (bif Nat.beq pc 54 then some (.aload_n 1, 0) else none)))))) else (bif Nat.blt pc 78 then (bif Nat.blt pc 68 then (bif Nat.blt pc 61 then (bif Nat.blt pc 57 then (bif Nat.blt pc 56 then (bif Nat.beq pc 55 then some (.iconst 4, 0) else none) else (bif Nat.beq pc 56 then some (.iload_n 2, 0) else none)) else (bif Nat.blt pc 58 then (bif Nat.beq pc 57 then some (.imul, 0) else none) else (bif Nat.beq pc 58 then some (.invokevirtual 56, 0) else none))) else (bif Nat.blt pc 64 then (bif Nat.blt pc 63 then (bif Nat.beq pc 61 then some (.bipush 97, 0) else none) else (bif Nat.beq pc 63 then some (.isub, 0) else none)) else (bif Nat.blt pc 67 then (bif Nat.beq pc 64 then some (.invokevirtual 60, 0) else none) else (bif Nat.beq pc 67 then some (.aload_n 0, 0) else none)))) else (bif Nat.blt pc 72 then (bif Nat.blt pc 70 then (bif Nat.blt pc 69 then (bif Nat.beq pc 68 then some (.iload_n 2, 0) else none) else (bif Nat.beq pc 69 then some (.aload_n 1, 0) else none)) else (bif Nat.blt pc 71 then (bif Nat.beq pc 70 then some (.iconst 4, 0) else none) else (bif Nat.beq pc 71 then some (.iload_n 2, 0) else none))) else (bif Nat.blt pc 74 then (bif Nat.blt pc 73 then (bif Nat.beq pc 72 then some (.imul, 0) else none) else (bif Nat.beq pc 73 then some (.iconst 1, 0) else none)) else (bif Nat.blt pc 75 then (bif Nat.beq pc 74 then some (.iadd, 0) else none) else (bif Nat.beq pc 75 then some (.invokevirtual 56, 0) else none))))) else (bif Nat.blt pc 90 then (bif Nat.blt pc 86 then (bif Nat.blt pc 84 then (bif Nat.blt pc 81 then (bif Nat.beq pc 78 then some (.invokestatic 64, 0) else none) else (bif Nat.beq pc 81 then some (.invokevirtual 67, 0) else none)) else (bif Nat.blt pc 85 then (bif Nat.beq pc 84 then some (.aload_n 0, 0) else none) else (bif Nat.beq pc 85 then some (.iload_n 2, 0) else none))) else (bif Nat.blt pc 88 then (bif Nat.blt pc 87 then (bif Nat.beq pc 86 then some (.aload_n 1, 0) else none) else (bif Nat.beq pc 87 then some (.iconst 4, 0) else none)) else (bif Nat.blt pc 89 then (bif Nat.beq pc 88 then some (.iload_n 2, 0) else none) else (bif Nat.beq pc 89 then some (.imul, 0) else none)))) else (bif Nat.blt pc 97 then (bif Nat.blt pc 92 then (bif Nat.blt pc 91 then (bif Nat.beq pc 90 then some (.iconst 2, 0) else none) else (bif Nat.beq pc 91 then some (.iadd, 0) else none)) else (bif Nat.blt pc 95 then (bif Nat.beq pc 92 then some (.invokevirtual 56, 0) else none) else (bif Nat.beq pc 95 then some (.bipush 48, 0) else none))) else (bif Nat.blt pc 101 then (bif Nat.blt pc 98 then (bif Nat.beq pc 97 then some (.isub, 0) else none) else (bif Nat.beq pc 98 then some (.invokevirtual 70, 0) else none)) else (bif Nat.blt pc 104 then (bif Nat.beq pc 101 then some (.iinc 2 1, 0) else none) else (bif Nat.blt pc 107 then (bif Nat.beq pc 104 then some (.goto (-60), 44) else none) else (bif Nat.beq pc 107 then some (.return_, 0) else none)))))))
def MX2_readPeople : MI := (yX2_readPeople, cX2_readPeople, 3, none, 2, zTab 108 tX2_readPeople)
theorem kX2_readPeople : zTok MX2_readPeople := zTok_of 108 tX2_readPeople rfl (by decide +kernel)
theorem oX2_readPeople : zokM MX2_readPeople 1 = true := zokM_mk (z_in (List.mem_of_getElem? (i := 221) (by decide +kernel)) rfl) z_ini2 (by decide +kernel)
theorem iX2_readPeople : zokI MX2_readPeople = true := zokI_mk (z_in (List.mem_of_getElem? (i := 219) (by decide +kernel)) rfl) (z_in (List.mem_of_getElem? (i := 220) (by decide +kernel)) rfl)
def tX2_readWindows : Nat → Option (Instr × Nat) := fun pc => bif Nat.blt pc 21 then (bif Nat.blt pc 8 then (bif Nat.blt pc 5 then (bif Nat.blt pc 1 then (bif Nat.beq pc 0 then some (.aload_n 1, 0) else none) else (bif Nat.blt pc 4 then (bif Nat.beq pc 1 then some (.invokevirtual 40, 0) else none) else (bif Nat.beq pc 4 then some (.istore_n 2, 0) else none))) else (bif Nat.blt pc 6 then (bif Nat.beq pc 5 then some (.iconst 0, 0) else none) else (bif Nat.blt pc 7 then (bif Nat.beq pc 6 then some (.istore_n 3, 0) else none) else (bif Nat.beq pc 7 then some (.iload_n 3, 0) else none)))) else (bif Nat.blt pc 13 then (bif Nat.blt pc 9 then (bif Nat.beq pc 8 then some (.aload_n 0, 0) else none) else (bif Nat.blt pc 12 then (bif Nat.beq pc 9 then some (.getfield 18, 0) else none) else (bif Nat.beq pc 12 then some (.arraylength, 0) else none))) else (bif Nat.blt pc 17 then (bif Nat.blt pc 16 then (bif Nat.beq pc 13 then some (.if_icmp .ge 32, 45) else none) else (bif Nat.beq pc 16 then some (.aload_n 0, 0) else none)) else (bif Nat.blt pc 20 then (bif Nat.beq pc 17 then some (.getfield 18, 0) else none) else (bif Nat.beq pc 20 then some (.iload_n 3, 0) else none))))) else (bif Nat.blt pc 31 then (bif Nat.blt pc 26 then (bif Nat.blt pc 22 then (bif Nat.beq pc 21 then some (.iload_n 3, 0) else none) else (bif Nat.blt pc 23 then (bif Nat.beq pc 22 then some (.iload_n 2, 0) else none) else (bif Nat.beq pc 23 then some (.if_icmp .ge 14, 37) else none))) else (bif Nat.blt pc 27 then (bif Nat.beq pc 26 then some (.aload_n 1, 0) else none) else (bif Nat.blt pc 28 then (bif Nat.beq pc 27 then some (.iload_n 3, 0) else none) else (bif Nat.beq pc 28 then some (.invokevirtual 56, 0) else none)))) else (bif Nat.blt pc 38 then (bif Nat.blt pc 34 then (bif Nat.beq pc 31 then some (.invokestatic 73, 0) else none) else (bif Nat.blt pc 37 then (bif Nat.beq pc 34 then some (.goto 4, 38) else none) else (bif Nat.beq pc 37 then some (.iconst 1, 0) else none))) else (bif Nat.blt pc 42 then (bif Nat.blt pc 39 then (bif Nat.beq pc 38 then some (.iastore, 0) else none) else (bif Nat.beq pc 39 then some (.iinc 3 1, 0) else none)) else (bif Nat.blt pc 45 then (bif Nat.beq pc 42 then some (.goto (-35), 7) else none) else (bif Nat.beq pc 45 then some (.return_, 0) else none)))))
def MX2_readWindows : MI := (yX2_readWindows, cX2_readWindows, 4, none, 2, zTab 46 tX2_readWindows)
theorem kX2_readWindows : zTok MX2_readWindows := zTok_of 46 tX2_readWindows rfl (by decide +kernel)
theorem oX2_readWindows : zokM MX2_readWindows 1 = true := zokM_mk (z_in (List.mem_of_getElem? (i := 273) (by decide +kernel)) rfl) z_ini2 (by decide +kernel)
theorem iX2_readWindows : zokI MX2_readWindows = true := zokI_mk (z_in (List.mem_of_getElem? (i := 271) (by decide +kernel)) rfl) (z_in (List.mem_of_getElem? (i := 272) (by decide +kernel)) rfl)
def tX2_take : Nat → Option (Instr × Nat) := fun pc => bif Nat.blt pc 73 then (bif Nat.blt pc 36 then (bif Nat.blt pc 17 then (bif Nat.blt pc 8 then (bif Nat.blt pc 2 then (bif Nat.blt pc 1 then (bif Nat.beq pc 0 then some (.aload_n 0, 0) else none) else (bif Nat.beq pc 1 then some (.aload_n 1, 0) else none)) else (bif Nat.blt pc 5 then (bif Nat.beq pc 2 then some (.getfield 52, 0) else none) else (bif Nat.beq pc 5 then some (.putfield 52, 0) else none))) else (bif Nat.blt pc 10 then (bif Nat.blt pc 9 then (bif Nat.beq pc 8 then some (.aload_n 0, 0) else none) else (bif Nat.beq pc 9 then some (.aload_n 1, 0) else none)) else (bif Nat.blt pc 13 then (bif Nat.beq pc 10 then some (.getfield 36, 0) else none) else (bif Nat.blt pc 16 then (bif Nat.beq pc 13 then some (.putfield 36, 0) else none) else (bif Nat.beq pc 16 then some (.aload_n 0, 0) else none))))) else (bif Nat.blt pc 28 then (bif Nat.blt pc 21 then (bif Nat.blt pc 18 then (bif Nat.beq pc 17 then some (.aload_n 1, 0) else none) else (bif Nat.beq pc 18 then some (.getfield 76, 0) else none)) else (bif Nat.blt pc 24 then (bif Nat.beq pc 21 then some (.putfield 76, 0) else none) else (bif Nat.blt pc 25 then (bif Nat.beq pc 24 then some (.aload_n 1, 0) else none) else (bif Nat.beq pc 25 then some (.getfield 9, 0) else none)))) else (bif Nat.blt pc 30 then (bif Nat.blt pc 29 then (bif Nat.beq pc 28 then some (.iconst 0, 0) else none) else (bif Nat.beq pc 29 then some (.aload_n 0, 0) else none)) else (bif Nat.blt pc 33 then (bif Nat.beq pc 30 then some (.getfield 9, 0) else none) else (bif Nat.blt pc 34 then (bif Nat.beq pc 33 then some (.iconst 0, 0) else none) else (bif Nat.beq pc 34 then some (.bipush 12, 0) else none)))))) else (bif Nat.blt pc 54 then (bif Nat.blt pc 44 then (bif Nat.blt pc 40 then (bif Nat.blt pc 39 then (bif Nat.beq pc 36 then some (.invokestatic 79, 0) else none) else (bif Nat.beq pc 39 then some (.aload_n 1, 0) else none)) else (bif Nat.blt pc 43 then (bif Nat.beq pc 40 then some (.getfield 15, 0) else none) else (bif Nat.beq pc 43 then some (.iconst 0, 0) else none))) else (bif Nat.blt pc 48 then (bif Nat.blt pc 45 then (bif Nat.beq pc 44 then some (.aload_n 0, 0) else none) else (bif Nat.beq pc 45 then some (.getfield 15, 0) else none)) else (bif Nat.blt pc 49 then (bif Nat.beq pc 48 then some (.iconst 0, 0) else none) else (bif Nat.blt pc 51 then (bif Nat.beq pc 49 then some (.bipush 12, 0) else none) else (bif Nat.beq pc 51 then some (.invokestatic 79, 0) else none))))) else (bif Nat.blt pc 63 then (bif Nat.blt pc 58 then (bif Nat.blt pc 55 then (bif Nat.beq pc 54 then some (.aload_n 1, 0) else none) else (bif Nat.beq pc 55 then some (.getfield 18, 0) else none)) else (bif Nat.blt pc 59 then (bif Nat.beq pc 58 then some (.iconst 0, 0) else none) else (bif Nat.blt pc 60 then (bif Nat.beq pc 59 then some (.aload_n 0, 0) else none) else (bif Nat.beq pc 60 then some (.getfield 18, 0) else none)))) else (bif Nat.blt pc 66 then (bif Nat.blt pc 64 then (bif Nat.beq pc 63 then some (.iconst 0, 0) else none) else (bif Nat.beq pc 64 then some (.bipush 24, 0) else none)) else (bif Nat.blt pc 69 then (bif Nat.beq pc 66 then some (.invokestatic 79, 0) else none) else (bif Nat.blt pc 70 then (bif Nat.beq pc 69 then some (.aload_n 1, 0) else none) else (bif Nat.beq pc 70 then some (.getfield 21, 0) else none))))))) else (bif Nat.blt pc 108 then (bif Nat.blt pc 89 then (bif Nat.blt pc 79 then (bif Nat.blt pc 75 then (bif Nat.blt pc 74 then (bif Nat.beq pc 73 then some (.iconst 0, 0) else none) else (bif Nat.beq pc 74 then some (.aload_n 0, 0) else none)) else (bif Nat.blt pc 78 then (bif Nat.beq pc 75 then some (.getfield 21, 0) else none) else (bif Nat.beq pc 78 then some (.iconst 0, 0) else none))) else (bif Nat.blt pc 84 then (bif Nat.blt pc 81 then (bif Nat.beq pc 79 then some (.bipush 9, 0) else none) else (bif Nat.beq pc 81 then some (.invokestatic 79, 0) else none)) else (bif Nat.blt pc 85 then (bif Nat.beq pc 84 then some (.aload_n 1, 0) else none) else (bif Nat.blt pc 88 then (bif Nat.beq pc 85 then some (.getfield 24, 0) else none) else (bif Nat.beq pc 88 then some (.iconst 0, 0) else none))))) else (bif Nat.blt pc 99 then (bif Nat.blt pc 93 then (bif Nat.blt pc 90 then (bif Nat.beq pc 89 then some (.aload_n 0, 0) else none) else (bif Nat.beq pc 90 then some (.getfield 24, 0) else none)) else (bif Nat.blt pc 94 then (bif Nat.beq pc 93 then some (.iconst 0, 0) else none) else (bif Nat.blt pc 96 then (bif Nat.beq pc 94 then some (.bipush 9, 0) else none) else (bif Nat.beq pc 96 then some (.invokestatic 79, 0) else none)))) else (bif Nat.blt pc 103 then (bif Nat.blt pc 100 then (bif Nat.beq pc 99 then some (.aload_n 1, 0) else none) else (bif Nat.beq pc 100 then some (.getfield 27, 0) else none)) else (bif Nat.blt pc 104 then (bif Nat.beq pc 103 then some (.iconst 0, 0) else none) else (bif Nat.blt pc 105 then (bif Nat.beq pc 104 then some (.aload_n 0, 0) else none) else (bif Nat.beq pc 105 then some (.getfield 27, 0) else none)))))) else (bif Nat.blt pc 126 then (bif Nat.blt pc 118 then (bif Nat.blt pc 111 then (bif Nat.blt pc 109 then (bif Nat.beq pc 108 then some (.iconst 0, 0) else none) else (bif Nat.beq pc 109 then some (.bipush 9, 0) else none)) else (bif Nat.blt pc 114 then (bif Nat.beq pc 111 then some (.invokestatic 79, 0) else none) else (bif Nat.blt pc 115 then (bif Nat.beq pc 114 then some (.aload_n 1, 0) else none) else (bif Nat.beq pc 115 then some (.getfield 30, 0) else none)))) else (bif Nat.blt pc 120 then (bif Nat.blt pc 119 then (bif Nat.beq pc 118 then some (.iconst 0, 0) else none) else (bif Nat.beq pc 119 then some (.aload_n 0, 0) else none)) else (bif Nat.blt pc 123 then (bif Nat.beq pc 120 then some (.getfield 30, 0) else none) else (bif Nat.blt pc 124 then (bif Nat.beq pc 123 then some (.iconst 0, 0) else none) else (bif Nat.beq pc 124 then some (.bipush 24, 0) else none))))) else (bif Nat.blt pc 135 then (bif Nat.blt pc 130 then (bif Nat.blt pc 129 then (bif Nat.beq pc 126 then some (.invokestatic 79, 0) else none) else (bif Nat.beq pc 129 then some (.aload_n 1, 0) else none)) else (bif Nat.blt pc 133 then (bif Nat.beq pc 130 then some (.getfield 33, 0) else none) else (bif Nat.blt pc 134 then (bif Nat.beq pc 133 then some (.iconst 0, 0) else none) else (bif Nat.beq pc 134 then some (.aload_n 0, 0) else none)))) else (bif Nat.blt pc 139 then (bif Nat.blt pc 138 then (bif Nat.beq pc 135 then some (.getfield 33, 0) else none) else (bif Nat.beq pc 138 then some (.iconst 0, 0) else none)) else (bif Nat.blt pc 141 then (bif Nat.beq pc 139 then some (.bipush 24, 0) else none) else (bif Nat.blt pc 144 then (bif Nat.beq pc 141 then some (.invokestatic 79, 0) else none) else (bif Nat.beq pc 144 then some (.return_, 0) else none)))))))
def MX2_take : MI := (yX2_take, cX2_take, 2, none, 2, zTab 145 tX2_take)
theorem kX2_take : zTok MX2_take := zTok_of 145 tX2_take rfl (by decide +kernel)
theorem oX2_take : zokM MX2_take 1 = true := zokM_mk (z_in (List.mem_of_getElem? (i := 586) (by decide +kernel)) rfl) z_ini2 (by decide +kernel)
theorem iX2_take : zokI MX2_take = true := zokI_mk (z_in (List.mem_of_getElem? (i := 584) (by decide +kernel)) rfl) (z_in (List.mem_of_getElem? (i := 585) (by decide +kernel)) rfl)
def tX2_people : Nat → Option (Instr × Nat) := fun pc => bif Nat.blt pc 1 then (bif Nat.beq pc 0 then some (.aload_n 0, 0) else none) else (bif Nat.blt pc 4 then (bif Nat.beq pc 1 then some (.getfield 52, 0) else none) else (bif Nat.beq pc 4 then some (.ireturn, 0) else none))
def MX2_people : MI := (yX2_people, cX2_people, 1, (some .int), 2, zTab 5 tX2_people)
theorem kX2_people : zTok MX2_people := zTok_of 5 tX2_people rfl (by decide +kernel)
theorem oX2_people : zokM MX2_people 0 = true := zokM_mk (z_in (List.mem_of_getElem? (i := 286) (by decide +kernel)) rfl) z_ini2 (by decide +kernel)
theorem iX2_people : zokI MX2_people = true := zokI_mk (z_in (List.mem_of_getElem? (i := 284) (by decide +kernel)) rfl) (z_in (List.mem_of_getElem? (i := 285) (by decide +kernel)) rfl)
def tX2_comingOf : Nat → Option (Instr × Nat) := fun pc => bif Nat.blt pc 13 then (bif Nat.blt pc 5 then (bif Nat.blt pc 1 then (bif Nat.beq pc 0 then some (.iload_n 1, 0) else none) else (bif Nat.blt pc 4 then (bif Nat.beq pc 1 then some (.ifCond .lt 21, 22) else none) else (bif Nat.beq pc 4 then some (.iload_n 1, 0) else none))) else (bif Nat.blt pc 9 then (bif Nat.blt pc 6 then (bif Nat.beq pc 5 then some (.aload_n 0, 0) else none) else (bif Nat.beq pc 6 then some (.getfield 9, 0) else none)) else (bif Nat.blt pc 10 then (bif Nat.beq pc 9 then some (.arraylength, 0) else none) else (bif Nat.beq pc 10 then some (.if_icmp .ge 12, 22) else none)))) else (bif Nat.blt pc 18 then (bif Nat.blt pc 14 then (bif Nat.beq pc 13 then some (.aload_n 0, 0) else none) else (bif Nat.blt pc 17 then (bif Nat.beq pc 14 then some (.getfield 9, 0) else none) else (bif Nat.beq pc 17 then some (.iload_n 1, 0) else none))) else (bif Nat.blt pc 22 then (bif Nat.blt pc 19 then (bif Nat.beq pc 18 then some (.iaload, 0) else none) else (bif Nat.beq pc 19 then some (.goto 4, 23) else none)) else (bif Nat.blt pc 23 then (bif Nat.beq pc 22 then some (.iconst (-1), 0) else none) else (bif Nat.beq pc 23 then some (.ireturn, 0) else none))))
def MX2_comingOf : MI := (yX2_comingOf, cX2_comingOf, 2, (some .int), 2, zTab 24 tX2_comingOf)
theorem kX2_comingOf : zTok MX2_comingOf := zTok_of 24 tX2_comingOf rfl (by decide +kernel)
theorem oX2_comingOf : zokM MX2_comingOf 1 = true := zokM_mk (z_in (List.mem_of_getElem? (i := 445) (by decide +kernel)) rfl) z_ini2 (by decide +kernel)
theorem iX2_comingOf : zokI MX2_comingOf = true := zokI_mk (z_in (List.mem_of_getElem? (i := 443) (by decide +kernel)) rfl) (z_in (List.mem_of_getElem? (i := 444) (by decide +kernel)) rfl)
def tX2_sortOf : Nat → Option (Instr × Nat) := fun pc => bif Nat.blt pc 13 then (bif Nat.blt pc 5 then (bif Nat.blt pc 1 then (bif Nat.beq pc 0 then some (.iload_n 1, 0) else none) else (bif Nat.blt pc 4 then (bif Nat.beq pc 1 then some (.ifCond .lt 21, 22) else none) else (bif Nat.beq pc 4 then some (.iload_n 1, 0) else none))) else (bif Nat.blt pc 9 then (bif Nat.blt pc 6 then (bif Nat.beq pc 5 then some (.aload_n 0, 0) else none) else (bif Nat.beq pc 6 then some (.getfield 15, 0) else none)) else (bif Nat.blt pc 10 then (bif Nat.beq pc 9 then some (.arraylength, 0) else none) else (bif Nat.beq pc 10 then some (.if_icmp .ge 12, 22) else none)))) else (bif Nat.blt pc 18 then (bif Nat.blt pc 14 then (bif Nat.beq pc 13 then some (.aload_n 0, 0) else none) else (bif Nat.blt pc 17 then (bif Nat.beq pc 14 then some (.getfield 15, 0) else none) else (bif Nat.beq pc 17 then some (.iload_n 1, 0) else none))) else (bif Nat.blt pc 22 then (bif Nat.blt pc 19 then (bif Nat.beq pc 18 then some (.iaload, 0) else none) else (bif Nat.beq pc 19 then some (.goto 4, 23) else none)) else (bif Nat.blt pc 23 then (bif Nat.beq pc 22 then some (.iconst (-1), 0) else none) else (bif Nat.beq pc 23 then some (.ireturn, 0) else none))))
def MX2_sortOf : MI := (yX2_sortOf, cX2_sortOf, 2, (some .int), 2, zTab 24 tX2_sortOf)
theorem kX2_sortOf : zTok MX2_sortOf := zTok_of 24 tX2_sortOf rfl (by decide +kernel)
theorem oX2_sortOf : zokM MX2_sortOf 1 = true := zokM_mk (z_in (List.mem_of_getElem? (i := 334) (by decide +kernel)) rfl) z_ini2 (by decide +kernel)
theorem iX2_sortOf : zokI MX2_sortOf = true := zokI_mk (z_in (List.mem_of_getElem? (i := 332) (by decide +kernel)) rfl) (z_in (List.mem_of_getElem? (i := 333) (by decide +kernel)) rfl)
def tX2_parcelOf : Nat → Option (Instr × Nat) := fun pc => bif Nat.blt pc 4 then (bif Nat.blt pc 1 then (bif Nat.beq pc 0 then some (.aload_n 0, 0) else none) else (bif Nat.beq pc 1 then some (.getfield 36, 0) else none)) else (bif Nat.blt pc 5 then (bif Nat.beq pc 4 then some (.iload_n 1, 0) else none) else (bif Nat.blt pc 8 then (bif Nat.beq pc 5 then some (.invokestatic 85, 0) else none) else (bif Nat.beq pc 8 then some (.ireturn, 0) else none)))
def MX2_parcelOf : MI := (yX2_parcelOf, cX2_parcelOf, 2, (some .int), 2, zTab 9 tX2_parcelOf)
theorem kX2_parcelOf : zTok MX2_parcelOf := zTok_of 9 tX2_parcelOf rfl (by decide +kernel)
theorem oX2_parcelOf : zokM MX2_parcelOf 1 = true := zokM_mk (z_in (List.mem_of_getElem? (i := 450) (by decide +kernel)) rfl) z_ini2 (by decide +kernel)
theorem iX2_parcelOf : zokI MX2_parcelOf = true := zokI_mk (z_in (List.mem_of_getElem? (i := 448) (by decide +kernel)) rfl) (z_in (List.mem_of_getElem? (i := 449) (by decide +kernel)) rfl)
def tX2_parcels : Nat → Option (Instr × Nat) := fun pc => bif Nat.blt pc 1 then (bif Nat.beq pc 0 then some (.aload_n 0, 0) else none) else (bif Nat.blt pc 4 then (bif Nat.beq pc 1 then some (.getfield 36, 0) else none) else (bif Nat.beq pc 4 then some (.lreturn, 0) else none))
def MX2_parcels : MI := (yX2_parcels, cX2_parcels, 1, (some .long), 2, zTab 5 tX2_parcels)
theorem kX2_parcels : zTok MX2_parcels := zTok_of 5 tX2_parcels rfl (by decide +kernel)
theorem oX2_parcels : zokM MX2_parcels 0 = true := zokM_mk (z_in (List.mem_of_getElem? (i := 290) (by decide +kernel)) rfl) z_ini2 (by decide +kernel)
theorem iX2_parcels : zokI MX2_parcels = true := zokI_mk (z_in (List.mem_of_getElem? (i := 288) (by decide +kernel)) rfl) (z_in (List.mem_of_getElem? (i := 289) (by decide +kernel)) rfl)
def tX2_openIn : Nat → Option (Instr × Nat) := fun pc => bif Nat.blt pc 13 then (bif Nat.blt pc 5 then (bif Nat.blt pc 1 then (bif Nat.beq pc 0 then some (.iload_n 1, 0) else none) else (bif Nat.blt pc 4 then (bif Nat.beq pc 1 then some (.ifCond .lt 21, 22) else none) else (bif Nat.beq pc 4 then some (.iload_n 1, 0) else none))) else (bif Nat.blt pc 9 then (bif Nat.blt pc 6 then (bif Nat.beq pc 5 then some (.aload_n 0, 0) else none) else (bif Nat.beq pc 6 then some (.getfield 18, 0) else none)) else (bif Nat.blt pc 10 then (bif Nat.beq pc 9 then some (.arraylength, 0) else none) else (bif Nat.beq pc 10 then some (.if_icmp .ge 12, 22) else none)))) else (bif Nat.blt pc 18 then (bif Nat.blt pc 14 then (bif Nat.beq pc 13 then some (.aload_n 0, 0) else none) else (bif Nat.blt pc 17 then (bif Nat.beq pc 14 then some (.getfield 18, 0) else none) else (bif Nat.beq pc 17 then some (.iload_n 1, 0) else none))) else (bif Nat.blt pc 22 then (bif Nat.blt pc 19 then (bif Nat.beq pc 18 then some (.iaload, 0) else none) else (bif Nat.beq pc 19 then some (.goto 4, 23) else none)) else (bif Nat.blt pc 23 then (bif Nat.beq pc 22 then some (.iconst 0, 0) else none) else (bif Nat.beq pc 23 then some (.ireturn, 0) else none))))
def MX2_openIn : MI := (yX2_openIn, cX2_openIn, 2, (some .int), 2, zTab 24 tX2_openIn)
theorem kX2_openIn : zTok MX2_openIn := zTok_of 24 tX2_openIn rfl (by decide +kernel)
theorem oX2_openIn : zokM MX2_openIn 1 = true := zokM_mk (z_in (List.mem_of_getElem? (i := 341) (by decide +kernel)) rfl) z_ini2 (by decide +kernel)
theorem iX2_openIn : zokI MX2_openIn = true := zokI_mk (z_in (List.mem_of_getElem? (i := 339) (by decide +kernel)) rfl) (z_in (List.mem_of_getElem? (i := 340) (by decide +kernel)) rfl)
def tX2_comersIn : Nat → Option (Instr × Nat) := fun pc => bif Nat.blt pc 13 then (bif Nat.blt pc 5 then (bif Nat.blt pc 1 then (bif Nat.beq pc 0 then some (.iload_n 1, 0) else none) else (bif Nat.blt pc 4 then (bif Nat.beq pc 1 then some (.ifCond .lt 21, 22) else none) else (bif Nat.beq pc 4 then some (.iload_n 1, 0) else none))) else (bif Nat.blt pc 9 then (bif Nat.blt pc 6 then (bif Nat.beq pc 5 then some (.aload_n 0, 0) else none) else (bif Nat.beq pc 6 then some (.getfield 30, 0) else none)) else (bif Nat.blt pc 10 then (bif Nat.beq pc 9 then some (.arraylength, 0) else none) else (bif Nat.beq pc 10 then some (.if_icmp .ge 12, 22) else none)))) else (bif Nat.blt pc 18 then (bif Nat.blt pc 14 then (bif Nat.beq pc 13 then some (.aload_n 0, 0) else none) else (bif Nat.blt pc 17 then (bif Nat.beq pc 14 then some (.getfield 30, 0) else none) else (bif Nat.beq pc 17 then some (.iload_n 1, 0) else none))) else (bif Nat.blt pc 22 then (bif Nat.blt pc 19 then (bif Nat.beq pc 18 then some (.iaload, 0) else none) else (bif Nat.beq pc 19 then some (.goto 4, 23) else none)) else (bif Nat.blt pc 23 then (bif Nat.beq pc 22 then some (.iconst 0, 0) else none) else (bif Nat.beq pc 23 then some (.ireturn, 0) else none))))
def MX2_comersIn : MI := (yX2_comersIn, cX2_comersIn, 2, (some .int), 2, zTab 24 tX2_comersIn)
theorem kX2_comersIn : zTok MX2_comersIn := zTok_of 24 tX2_comersIn rfl (by decide +kernel)
theorem oX2_comersIn : zokM MX2_comersIn 1 = true := zokM_mk (z_in (List.mem_of_getElem? (i := 326) (by decide +kernel)) rfl) z_ini2 (by decide +kernel)
theorem iX2_comersIn : zokI MX2_comersIn = true := zokI_mk (z_in (List.mem_of_getElem? (i := 324) (by decide +kernel)) rfl) (z_in (List.mem_of_getElem? (i := 325) (by decide +kernel)) rfl)
def tX2_dueIn : Nat → Option (Instr × Nat) := fun pc => bif Nat.blt pc 13 then (bif Nat.blt pc 5 then (bif Nat.blt pc 1 then (bif Nat.beq pc 0 then some (.iload_n 1, 0) else none) else (bif Nat.blt pc 4 then (bif Nat.beq pc 1 then some (.ifCond .lt 21, 22) else none) else (bif Nat.beq pc 4 then some (.iload_n 1, 0) else none))) else (bif Nat.blt pc 9 then (bif Nat.blt pc 6 then (bif Nat.beq pc 5 then some (.aload_n 0, 0) else none) else (bif Nat.beq pc 6 then some (.getfield 33, 0) else none)) else (bif Nat.blt pc 10 then (bif Nat.beq pc 9 then some (.arraylength, 0) else none) else (bif Nat.beq pc 10 then some (.if_icmp .ge 12, 22) else none)))) else (bif Nat.blt pc 18 then (bif Nat.blt pc 14 then (bif Nat.beq pc 13 then some (.aload_n 0, 0) else none) else (bif Nat.blt pc 17 then (bif Nat.beq pc 14 then some (.getfield 33, 0) else none) else (bif Nat.beq pc 17 then some (.iload_n 1, 0) else none))) else (bif Nat.blt pc 22 then (bif Nat.blt pc 19 then (bif Nat.beq pc 18 then some (.iaload, 0) else none) else (bif Nat.beq pc 19 then some (.goto 4, 23) else none)) else (bif Nat.blt pc 23 then (bif Nat.beq pc 22 then some (.iconst 0, 0) else none) else (bif Nat.beq pc 23 then some (.ireturn, 0) else none))))
def MX2_dueIn : MI := (yX2_dueIn, cX2_dueIn, 2, (some .int), 2, zTab 24 tX2_dueIn)
theorem kX2_dueIn : zTok MX2_dueIn := zTok_of 24 tX2_dueIn rfl (by decide +kernel)
theorem oX2_dueIn : zokM MX2_dueIn 1 = true := zokM_mk (z_in (List.mem_of_getElem? (i := 294) (by decide +kernel)) rfl) z_ini2 (by decide +kernel)
theorem iX2_dueIn : zokI MX2_dueIn = true := zokI_mk (z_in (List.mem_of_getElem? (i := 292) (by decide +kernel)) rfl) (z_in (List.mem_of_getElem? (i := 293) (by decide +kernel)) rfl)
def tX2_setComing : Nat → Option (Instr × Nat) := fun pc => bif Nat.blt pc 47 then (bif Nat.blt pc 23 then (bif Nat.blt pc 10 then (bif Nat.blt pc 5 then (bif Nat.blt pc 1 then (bif Nat.beq pc 0 then some (.iload_n 1, 0) else none) else (bif Nat.blt pc 4 then (bif Nat.beq pc 1 then some (.ifCond .lt 25, 26) else none) else (bif Nat.beq pc 4 then some (.iload_n 1, 0) else none))) else (bif Nat.blt pc 6 then (bif Nat.beq pc 5 then some (.aload_n 0, 0) else none) else (bif Nat.blt pc 9 then (bif Nat.beq pc 6 then some (.getfield 9, 0) else none) else (bif Nat.beq pc 9 then some (.arraylength, 0) else none)))) else (bif Nat.blt pc 17 then (bif Nat.blt pc 13 then (bif Nat.beq pc 10 then some (.if_icmp .ge 16, 26) else none) else (bif Nat.blt pc 14 then (bif Nat.beq pc 13 then some (.iload_n 2, 0) else none) else (bif Nat.beq pc 14 then some (.ifCond .lt 12, 26) else none))) else (bif Nat.blt pc 19 then (bif Nat.blt pc 18 then (bif Nat.beq pc 17 then some (.iload_n 2, 0) else none) else (bif Nat.beq pc 18 then some (.aload_n 0, 0) else none)) else (bif Nat.blt pc 22 then (bif Nat.beq pc 19 then some (.getfield 30, 0) else none) else (bif Nat.beq pc 22 then some (.arraylength, 0) else none))))) else (bif Nat.blt pc 34 then (bif Nat.blt pc 28 then (bif Nat.blt pc 26 then (bif Nat.beq pc 23 then some (.if_icmp .lt 4, 27) else none) else (bif Nat.blt pc 27 then (bif Nat.beq pc 26 then some (.return_, 0) else none) else (bif Nat.beq pc 27 then some (.aload_n 0, 0) else none))) else (bif Nat.blt pc 32 then (bif Nat.blt pc 31 then (bif Nat.beq pc 28 then some (.getfield 9, 0) else none) else (bif Nat.beq pc 31 then some (.iload_n 1, 0) else none)) else (bif Nat.blt pc 33 then (bif Nat.beq pc 32 then some (.iaload, 0) else none) else (bif Nat.beq pc 33 then some (.istore_n 3, 0) else none)))) else (bif Nat.blt pc 39 then (bif Nat.blt pc 35 then (bif Nat.beq pc 34 then some (.iload_n 3, 0) else none) else (bif Nat.blt pc 38 then (bif Nat.beq pc 35 then some (.ifCond .lt 26, 61) else none) else (bif Nat.beq pc 38 then some (.iload_n 3, 0) else none))) else (bif Nat.blt pc 43 then (bif Nat.blt pc 40 then (bif Nat.beq pc 39 then some (.aload_n 0, 0) else none) else (bif Nat.beq pc 40 then some (.getfield 30, 0) else none)) else (bif Nat.blt pc 44 then (bif Nat.beq pc 43 then some (.arraylength, 0) else none) else (bif Nat.beq pc 44 then some (.if_icmp .ge 17, 61) else none)))))) else (bif Nat.blt pc 65 then (bif Nat.blt pc 56 then (bif Nat.blt pc 52 then (bif Nat.blt pc 48 then (bif Nat.beq pc 47 then some (.aload_n 0, 0) else none) else (bif Nat.blt pc 51 then (bif Nat.beq pc 48 then some (.getfield 30, 0) else none) else (bif Nat.beq pc 51 then some (.iload_n 3, 0) else none))) else (bif Nat.blt pc 54 then (bif Nat.blt pc 53 then (bif Nat.beq pc 52 then some (.dup2, 0) else none) else (bif Nat.beq pc 53 then some (.iaload, 0) else none)) else (bif Nat.blt pc 55 then (bif Nat.beq pc 54 then some (.iconst 1, 0) else none) else (bif Nat.beq pc 55 then some (.iload_n 1, 0) else none)))) else (bif Nat.blt pc 59 then (bif Nat.blt pc 57 then (bif Nat.beq pc 56 then some (.ishl, 0) else none) else (bif Nat.blt pc 58 then (bif Nat.beq pc 57 then some (.iconst (-1), 0) else none) else (bif Nat.beq pc 58 then some (.ixor, 0) else none))) else (bif Nat.blt pc 61 then (bif Nat.blt pc 60 then (bif Nat.beq pc 59 then some (.iand, 0) else none) else (bif Nat.beq pc 60 then some (.iastore, 0) else none)) else (bif Nat.blt pc 62 then (bif Nat.beq pc 61 then some (.aload_n 0, 0) else none) else (bif Nat.beq pc 62 then some (.getfield 9, 0) else none))))) else (bif Nat.blt pc 74 then (bif Nat.blt pc 68 then (bif Nat.blt pc 66 then (bif Nat.beq pc 65 then some (.iload_n 1, 0) else none) else (bif Nat.blt pc 67 then (bif Nat.beq pc 66 then some (.iload_n 2, 0) else none) else (bif Nat.beq pc 67 then some (.iastore, 0) else none))) else (bif Nat.blt pc 72 then (bif Nat.blt pc 69 then (bif Nat.beq pc 68 then some (.aload_n 0, 0) else none) else (bif Nat.beq pc 69 then some (.getfield 30, 0) else none)) else (bif Nat.blt pc 73 then (bif Nat.beq pc 72 then some (.iload_n 2, 0) else none) else (bif Nat.beq pc 73 then some (.dup2, 0) else none)))) else (bif Nat.blt pc 77 then (bif Nat.blt pc 75 then (bif Nat.beq pc 74 then some (.iaload, 0) else none) else (bif Nat.blt pc 76 then (bif Nat.beq pc 75 then some (.iconst 1, 0) else none) else (bif Nat.beq pc 76 then some (.iload_n 1, 0) else none))) else (bif Nat.blt pc 79 then (bif Nat.blt pc 78 then (bif Nat.beq pc 77 then some (.ishl, 0) else none) else (bif Nat.beq pc 78 then some (.ior, 0) else none)) else (bif Nat.blt pc 80 then (bif Nat.beq pc 79 then some (.iastore, 0) else none) else (bif Nat.beq pc 80 then some (.return_, 0) else none))))))
def MX2_setComing : MI := (yX2_setComing, cX2_setComing, 4, none, 2, zTab 81 tX2_setComing)
theorem kX2_setComing : zTok MX2_setComing := zTok_of 81 tX2_setComing rfl (by decide +kernel)
theorem oX2_setComing : zokM MX2_setComing 2 = true := zokM_mk (z_in (List.mem_of_getElem? (i := 255) (by decide +kernel)) rfl) z_ini2 (by decide +kernel)
theorem iX2_setComing : zokI MX2_setComing = true := zokI_mk (z_in (List.mem_of_getElem? (i := 253) (by decide +kernel)) rfl) (z_in (List.mem_of_getElem? (i := 254) (by decide +kernel)) rfl)
def tX2_setSort : Nat → Option (Instr × Nat) := fun pc => bif Nat.blt pc 10 then (bif Nat.blt pc 5 then (bif Nat.blt pc 1 then (bif Nat.beq pc 0 then some (.iload_n 1, 0) else none) else (bif Nat.blt pc 4 then (bif Nat.beq pc 1 then some (.ifCond .lt 19, 20) else none) else (bif Nat.beq pc 4 then some (.iload_n 1, 0) else none))) else (bif Nat.blt pc 6 then (bif Nat.beq pc 5 then some (.aload_n 0, 0) else none) else (bif Nat.blt pc 9 then (bif Nat.beq pc 6 then some (.getfield 15, 0) else none) else (bif Nat.beq pc 9 then some (.arraylength, 0) else none)))) else (bif Nat.blt pc 17 then (bif Nat.blt pc 13 then (bif Nat.beq pc 10 then some (.if_icmp .ge 10, 20) else none) else (bif Nat.blt pc 14 then (bif Nat.beq pc 13 then some (.aload_n 0, 0) else none) else (bif Nat.beq pc 14 then some (.getfield 15, 0) else none))) else (bif Nat.blt pc 19 then (bif Nat.blt pc 18 then (bif Nat.beq pc 17 then some (.iload_n 1, 0) else none) else (bif Nat.beq pc 18 then some (.iload_n 2, 0) else none)) else (bif Nat.blt pc 20 then (bif Nat.beq pc 19 then some (.iastore, 0) else none) else (bif Nat.beq pc 20 then some (.return_, 0) else none))))
def MX2_setSort : MI := (yX2_setSort, cX2_setSort, 3, none, 2, zTab 21 tX2_setSort)
theorem kX2_setSort : zTok MX2_setSort := zTok_of 21 tX2_setSort rfl (by decide +kernel)
theorem oX2_setSort : zokM MX2_setSort 2 = true := zokM_mk (z_in (List.mem_of_getElem? (i := 260) (by decide +kernel)) rfl) z_ini2 (by decide +kernel)
theorem iX2_setSort : zokI MX2_setSort = true := zokI_mk (z_in (List.mem_of_getElem? (i := 258) (by decide +kernel)) rfl) (z_in (List.mem_of_getElem? (i := 259) (by decide +kernel)) rfl)
def tX2_setParcel : Nat → Option (Instr × Nat) := fun pc => bif Nat.blt pc 6 then (bif Nat.blt pc 2 then (bif Nat.blt pc 1 then (bif Nat.beq pc 0 then some (.aload_n 0, 0) else none) else (bif Nat.beq pc 1 then some (.aload_n 0, 0) else none)) else (bif Nat.blt pc 5 then (bif Nat.beq pc 2 then some (.getfield 36, 0) else none) else (bif Nat.beq pc 5 then some (.iload_n 1, 0) else none))) else (bif Nat.blt pc 10 then (bif Nat.blt pc 7 then (bif Nat.beq pc 6 then some (.iload_n 2, 0) else none) else (bif Nat.beq pc 7 then some (.invokestatic 91, 0) else none)) else (bif Nat.blt pc 13 then (bif Nat.beq pc 10 then some (.putfield 36, 0) else none) else (bif Nat.beq pc 13 then some (.return_, 0) else none)))
def MX2_setParcel : MI := (yX2_setParcel, cX2_setParcel, 3, none, 2, zTab 14 tX2_setParcel)
theorem kX2_setParcel : zTok MX2_setParcel := zTok_of 14 tX2_setParcel rfl (by decide +kernel)
theorem oX2_setParcel : zokM MX2_setParcel 2 = true := zokM_mk (z_in (List.mem_of_getElem? (i := 264) (by decide +kernel)) rfl) z_ini2 (by decide +kernel)
theorem iX2_setParcel : zokI MX2_setParcel = true := zokI_mk (z_in (List.mem_of_getElem? (i := 262) (by decide +kernel)) rfl) (z_in (List.mem_of_getElem? (i := 263) (by decide +kernel)) rfl)
def tX2_setOpen : Nat → Option (Instr × Nat) := fun pc => bif Nat.blt pc 10 then (bif Nat.blt pc 5 then (bif Nat.blt pc 1 then (bif Nat.beq pc 0 then some (.iload_n 1, 0) else none) else (bif Nat.blt pc 4 then (bif Nat.beq pc 1 then some (.ifCond .lt 19, 20) else none) else (bif Nat.beq pc 4 then some (.iload_n 1, 0) else none))) else (bif Nat.blt pc 6 then (bif Nat.beq pc 5 then some (.aload_n 0, 0) else none) else (bif Nat.blt pc 9 then (bif Nat.beq pc 6 then some (.getfield 18, 0) else none) else (bif Nat.beq pc 9 then some (.arraylength, 0) else none)))) else (bif Nat.blt pc 17 then (bif Nat.blt pc 13 then (bif Nat.beq pc 10 then some (.if_icmp .ge 10, 20) else none) else (bif Nat.blt pc 14 then (bif Nat.beq pc 13 then some (.aload_n 0, 0) else none) else (bif Nat.beq pc 14 then some (.getfield 18, 0) else none))) else (bif Nat.blt pc 19 then (bif Nat.blt pc 18 then (bif Nat.beq pc 17 then some (.iload_n 1, 0) else none) else (bif Nat.beq pc 18 then some (.iload_n 2, 0) else none)) else (bif Nat.blt pc 20 then (bif Nat.beq pc 19 then some (.iastore, 0) else none) else (bif Nat.beq pc 20 then some (.return_, 0) else none))))
def MX2_setOpen : MI := (yX2_setOpen, cX2_setOpen, 3, none, 2, zTab 21 tX2_setOpen)
theorem kX2_setOpen : zTok MX2_setOpen := zTok_of 21 tX2_setOpen rfl (by decide +kernel)
theorem oX2_setOpen : zokM MX2_setOpen 2 = true := zokM_mk (z_in (List.mem_of_getElem? (i := 602) (by decide +kernel)) rfl) z_ini2 (by decide +kernel)
theorem iX2_setOpen : zokI MX2_setOpen = true := zokI_mk (z_in (List.mem_of_getElem? (i := 600) (by decide +kernel)) rfl) (z_in (List.mem_of_getElem? (i := 601) (by decide +kernel)) rfl)
def tX2_events : Nat → Option (Instr × Nat) := fun pc => bif Nat.blt pc 1 then (bif Nat.beq pc 0 then some (.aload_n 0, 0) else none) else (bif Nat.blt pc 4 then (bif Nat.beq pc 1 then some (.getfield 76, 0) else none) else (bif Nat.beq pc 4 then some (.ireturn, 0) else none))
def MX2_events : MI := (yX2_events, cX2_events, 1, (some .int), 2, zTab 5 tX2_events)
theorem kX2_events : zTok MX2_events := zTok_of 5 tX2_events rfl (by decide +kernel)
theorem oX2_events : zokM MX2_events 0 = true := zokM_mk (z_in (List.mem_of_getElem? (i := 302) (by decide +kernel)) rfl) z_ini2 (by decide +kernel)
theorem iX2_events : zokI MX2_events = true := zokI_mk (z_in (List.mem_of_getElem? (i := 300) (by decide +kernel)) rfl) (z_in (List.mem_of_getElem? (i := 301) (by decide +kernel)) rfl)
def tX2_kindOf : Nat → Option (Instr × Nat) := fun pc => bif Nat.blt pc 13 then (bif Nat.blt pc 5 then (bif Nat.blt pc 1 then (bif Nat.beq pc 0 then some (.iload_n 1, 0) else none) else (bif Nat.blt pc 4 then (bif Nat.beq pc 1 then some (.ifCond .lt 21, 22) else none) else (bif Nat.beq pc 4 then some (.iload_n 1, 0) else none))) else (bif Nat.blt pc 9 then (bif Nat.blt pc 6 then (bif Nat.beq pc 5 then some (.aload_n 0, 0) else none) else (bif Nat.beq pc 6 then some (.getfield 21, 0) else none)) else (bif Nat.blt pc 10 then (bif Nat.beq pc 9 then some (.arraylength, 0) else none) else (bif Nat.beq pc 10 then some (.if_icmp .ge 12, 22) else none)))) else (bif Nat.blt pc 18 then (bif Nat.blt pc 14 then (bif Nat.beq pc 13 then some (.aload_n 0, 0) else none) else (bif Nat.blt pc 17 then (bif Nat.beq pc 14 then some (.getfield 21, 0) else none) else (bif Nat.beq pc 17 then some (.iload_n 1, 0) else none))) else (bif Nat.blt pc 22 then (bif Nat.blt pc 19 then (bif Nat.beq pc 18 then some (.iaload, 0) else none) else (bif Nat.beq pc 19 then some (.goto 4, 23) else none)) else (bif Nat.blt pc 23 then (bif Nat.beq pc 22 then some (.iconst (-1), 0) else none) else (bif Nat.beq pc 23 then some (.ireturn, 0) else none))))
def MX2_kindOf : MI := (yX2_kindOf, cX2_kindOf, 2, (some .int), 2, zTab 24 tX2_kindOf)
theorem kX2_kindOf : zTok MX2_kindOf := zTok_of 24 tX2_kindOf rfl (by decide +kernel)
theorem oX2_kindOf : zokM MX2_kindOf 1 = true := zokM_mk (z_in (List.mem_of_getElem? (i := 316) (by decide +kernel)) rfl) z_ini2 (by decide +kernel)
theorem iX2_kindOf : zokI MX2_kindOf = true := zokI_mk (z_in (List.mem_of_getElem? (i := 314) (by decide +kernel)) rfl) (z_in (List.mem_of_getElem? (i := 315) (by decide +kernel)) rfl)
def tX2_personOf : Nat → Option (Instr × Nat) := fun pc => bif Nat.blt pc 13 then (bif Nat.blt pc 5 then (bif Nat.blt pc 1 then (bif Nat.beq pc 0 then some (.iload_n 1, 0) else none) else (bif Nat.blt pc 4 then (bif Nat.beq pc 1 then some (.ifCond .lt 21, 22) else none) else (bif Nat.beq pc 4 then some (.iload_n 1, 0) else none))) else (bif Nat.blt pc 9 then (bif Nat.blt pc 6 then (bif Nat.beq pc 5 then some (.aload_n 0, 0) else none) else (bif Nat.beq pc 6 then some (.getfield 27, 0) else none)) else (bif Nat.blt pc 10 then (bif Nat.beq pc 9 then some (.arraylength, 0) else none) else (bif Nat.beq pc 10 then some (.if_icmp .ge 12, 22) else none)))) else (bif Nat.blt pc 18 then (bif Nat.blt pc 14 then (bif Nat.beq pc 13 then some (.aload_n 0, 0) else none) else (bif Nat.blt pc 17 then (bif Nat.beq pc 14 then some (.getfield 27, 0) else none) else (bif Nat.beq pc 17 then some (.iload_n 1, 0) else none))) else (bif Nat.blt pc 22 then (bif Nat.blt pc 19 then (bif Nat.beq pc 18 then some (.iaload, 0) else none) else (bif Nat.beq pc 19 then some (.goto 4, 23) else none)) else (bif Nat.blt pc 23 then (bif Nat.beq pc 22 then some (.iconst (-1), 0) else none) else (bif Nat.beq pc 23 then some (.ireturn, 0) else none))))
def MX2_personOf : MI := (yX2_personOf, cX2_personOf, 2, (some .int), 2, zTab 24 tX2_personOf)
theorem kX2_personOf : zTok MX2_personOf := zTok_of 24 tX2_personOf rfl (by decide +kernel)
theorem oX2_personOf : zokM MX2_personOf 1 = true := zokM_mk (z_in (List.mem_of_getElem? (i := 306) (by decide +kernel)) rfl) z_ini2 (by decide +kernel)
theorem iX2_personOf : zokI MX2_personOf = true := zokI_mk (z_in (List.mem_of_getElem? (i := 304) (by decide +kernel)) rfl) (z_in (List.mem_of_getElem? (i := 305) (by decide +kernel)) rfl)
def tX2_addEvent : Nat → Option (Instr × Nat) := fun pc => bif Nat.blt pc 56 then (bif Nat.blt pc 28 then (bif Nat.blt pc 14 then (bif Nat.blt pc 6 then (bif Nat.blt pc 1 then (bif Nat.beq pc 0 then some (.aload_n 0, 0) else none) else (bif Nat.blt pc 4 then (bif Nat.beq pc 1 then some (.getfield 76, 0) else none) else (bif Nat.beq pc 4 then some (.istore 4, 0) else none))) else (bif Nat.blt pc 11 then (bif Nat.blt pc 8 then (bif Nat.beq pc 6 then some (.iload 4, 0) else none) else (bif Nat.beq pc 8 then some (.ifCond .lt 33, 41) else none)) else (bif Nat.blt pc 13 then (bif Nat.beq pc 11 then some (.iload 4, 0) else none) else (bif Nat.beq pc 13 then some (.aload_n 0, 0) else none)))) else (bif Nat.blt pc 21 then (bif Nat.blt pc 17 then (bif Nat.beq pc 14 then some (.getfield 21, 0) else none) else (bif Nat.blt pc 18 then (bif Nat.beq pc 17 then some (.arraylength, 0) else none) else (bif Nat.beq pc 18 then some (.if_icmp .ge 23, 41) else none))) else (bif Nat.blt pc 24 then (bif Nat.blt pc 23 then (bif Nat.beq pc 21 then some (.iload 4, 0) else none) else (bif Nat.beq pc 23 then some (.aload_n 0, 0) else none)) else (bif Nat.blt pc 27 then (bif Nat.beq pc 24 then some (.getfield 24, 0) else none) else (bif Nat.beq pc 27 then some (.arraylength, 0) else none))))) else (bif Nat.blt pc 42 then (bif Nat.blt pc 34 then (bif Nat.blt pc 31 then (bif Nat.beq pc 28 then some (.if_icmp .ge 13, 41) else none) else (bif Nat.blt pc 33 then (bif Nat.beq pc 31 then some (.iload 4, 0) else none) else (bif Nat.beq pc 33 then some (.aload_n 0, 0) else none))) else (bif Nat.blt pc 38 then (bif Nat.blt pc 37 then (bif Nat.beq pc 34 then some (.getfield 27, 0) else none) else (bif Nat.beq pc 37 then some (.arraylength, 0) else none)) else (bif Nat.blt pc 41 then (bif Nat.beq pc 38 then some (.if_icmp .lt 4, 42) else none) else (bif Nat.beq pc 41 then some (.return_, 0) else none)))) else (bif Nat.blt pc 49 then (bif Nat.blt pc 46 then (bif Nat.blt pc 43 then (bif Nat.beq pc 42 then some (.aload_n 0, 0) else none) else (bif Nat.beq pc 43 then some (.getfield 21, 0) else none)) else (bif Nat.blt pc 48 then (bif Nat.beq pc 46 then some (.iload 4, 0) else none) else (bif Nat.beq pc 48 then some (.iload_n 1, 0) else none))) else (bif Nat.blt pc 51 then (bif Nat.blt pc 50 then (bif Nat.beq pc 49 then some (.iastore, 0) else none) else (bif Nat.beq pc 50 then some (.aload_n 0, 0) else none)) else (bif Nat.blt pc 54 then (bif Nat.beq pc 51 then some (.getfield 24, 0) else none) else (bif Nat.beq pc 54 then some (.iload 4, 0) else none)))))) else (bif Nat.blt pc 80 then (bif Nat.blt pc 66 then (bif Nat.blt pc 59 then (bif Nat.blt pc 57 then (bif Nat.beq pc 56 then some (.iload_n 2, 0) else none) else (bif Nat.blt pc 58 then (bif Nat.beq pc 57 then some (.iastore, 0) else none) else (bif Nat.beq pc 58 then some (.aload_n 0, 0) else none))) else (bif Nat.blt pc 64 then (bif Nat.blt pc 62 then (bif Nat.beq pc 59 then some (.getfield 27, 0) else none) else (bif Nat.beq pc 62 then some (.iload 4, 0) else none)) else (bif Nat.blt pc 65 then (bif Nat.beq pc 64 then some (.iload_n 3, 0) else none) else (bif Nat.beq pc 65 then some (.iastore, 0) else none)))) else (bif Nat.blt pc 72 then (bif Nat.blt pc 70 then (bif Nat.blt pc 67 then (bif Nat.beq pc 66 then some (.iload_n 2, 0) else none) else (bif Nat.beq pc 67 then some (.ifCond .lt 25, 92) else none)) else (bif Nat.blt pc 71 then (bif Nat.beq pc 70 then some (.iload_n 2, 0) else none) else (bif Nat.beq pc 71 then some (.aload_n 0, 0) else none))) else (bif Nat.blt pc 76 then (bif Nat.blt pc 75 then (bif Nat.beq pc 72 then some (.getfield 33, 0) else none) else (bif Nat.beq pc 75 then some (.arraylength, 0) else none)) else (bif Nat.blt pc 79 then (bif Nat.beq pc 76 then some (.if_icmp .ge 16, 92) else none) else (bif Nat.beq pc 79 then some (.aload_n 0, 0) else none))))) else (bif Nat.blt pc 90 then (bif Nat.blt pc 85 then (bif Nat.blt pc 83 then (bif Nat.beq pc 80 then some (.getfield 33, 0) else none) else (bif Nat.blt pc 84 then (bif Nat.beq pc 83 then some (.iload_n 2, 0) else none) else (bif Nat.beq pc 84 then some (.dup2, 0) else none))) else (bif Nat.blt pc 87 then (bif Nat.blt pc 86 then (bif Nat.beq pc 85 then some (.iaload, 0) else none) else (bif Nat.beq pc 86 then some (.iconst 1, 0) else none)) else (bif Nat.blt pc 89 then (bif Nat.beq pc 87 then some (.iload 4, 0) else none) else (bif Nat.beq pc 89 then some (.ishl, 0) else none)))) else (bif Nat.blt pc 95 then (bif Nat.blt pc 92 then (bif Nat.blt pc 91 then (bif Nat.beq pc 90 then some (.ior, 0) else none) else (bif Nat.beq pc 91 then some (.iastore, 0) else none)) else (bif Nat.blt pc 93 then (bif Nat.beq pc 92 then some (.aload_n 0, 0) else none) else (bif Nat.beq pc 93 then some (.iload 4, 0) else none))) else (bif Nat.blt pc 97 then (bif Nat.blt pc 96 then (bif Nat.beq pc 95 then some (.iconst 1, 0) else none) else (bif Nat.beq pc 96 then some (.iadd, 0) else none)) else (bif Nat.blt pc 100 then (bif Nat.beq pc 97 then some (.putfield 76, 0) else none) else (bif Nat.beq pc 100 then some (.return_, 0) else none))))))
def MX2_addEvent : MI := (yX2_addEvent, cX2_addEvent, 5, none, 2, zTab 101 tX2_addEvent)
theorem kX2_addEvent : zTok MX2_addEvent := zTok_of 101 tX2_addEvent rfl (by decide +kernel)
theorem oX2_addEvent : zokM MX2_addEvent 3 = true := zokM_mk (z_in (List.mem_of_getElem? (i := 472) (by decide +kernel)) rfl) z_ini2 (by decide +kernel)
theorem iX2_addEvent : zokI MX2_addEvent = true := zokI_mk (z_in (List.mem_of_getElem? (i := 470) (by decide +kernel)) rfl) (z_in (List.mem_of_getElem? (i := 471) (by decide +kernel)) rfl)
def tX2_dropEvent : Nat → Option (Instr × Nat) := fun pc => bif Nat.blt pc 33 then (bif Nat.blt pc 16 then (bif Nat.blt pc 7 then (bif Nat.blt pc 4 then (bif Nat.blt pc 1 then (bif Nat.beq pc 0 then some (.aload_n 0, 0) else none) else (bif Nat.beq pc 1 then some (.getfield 76, 0) else none)) else (bif Nat.blt pc 5 then (bif Nat.beq pc 4 then some (.iconst 1, 0) else none) else (bif Nat.blt pc 6 then (bif Nat.beq pc 5 then some (.isub, 0) else none) else (bif Nat.beq pc 6 then some (.istore_n 1, 0) else none)))) else (bif Nat.blt pc 11 then (bif Nat.blt pc 8 then (bif Nat.beq pc 7 then some (.iload_n 1, 0) else none) else (bif Nat.beq pc 8 then some (.ifCond .lt 12, 20) else none)) else (bif Nat.blt pc 12 then (bif Nat.beq pc 11 then some (.iload_n 1, 0) else none) else (bif Nat.blt pc 13 then (bif Nat.beq pc 12 then some (.aload_n 0, 0) else none) else (bif Nat.beq pc 13 then some (.getfield 24, 0) else none))))) else (bif Nat.blt pc 23 then (bif Nat.blt pc 20 then (bif Nat.blt pc 17 then (bif Nat.beq pc 16 then some (.arraylength, 0) else none) else (bif Nat.beq pc 17 then some (.if_icmp .lt 5, 22) else none)) else (bif Nat.blt pc 21 then (bif Nat.beq pc 20 then some (.iconst 0, 0) else none) else (bif Nat.blt pc 22 then (bif Nat.beq pc 21 then some (.ireturn, 0) else none) else (bif Nat.beq pc 22 then some (.aload_n 0, 0) else none)))) else (bif Nat.blt pc 28 then (bif Nat.blt pc 26 then (bif Nat.beq pc 23 then some (.getfield 24, 0) else none) else (bif Nat.blt pc 27 then (bif Nat.beq pc 26 then some (.iload_n 1, 0) else none) else (bif Nat.beq pc 27 then some (.iaload, 0) else none))) else (bif Nat.blt pc 29 then (bif Nat.beq pc 28 then some (.istore_n 2, 0) else none) else (bif Nat.blt pc 30 then (bif Nat.beq pc 29 then some (.iload_n 2, 0) else none) else (bif Nat.beq pc 30 then some (.ifCond .lt 26, 56) else none)))))) else (bif Nat.blt pc 50 then (bif Nat.blt pc 42 then (bif Nat.blt pc 35 then (bif Nat.blt pc 34 then (bif Nat.beq pc 33 then some (.iload_n 2, 0) else none) else (bif Nat.beq pc 34 then some (.aload_n 0, 0) else none)) else (bif Nat.blt pc 38 then (bif Nat.beq pc 35 then some (.getfield 33, 0) else none) else (bif Nat.blt pc 39 then (bif Nat.beq pc 38 then some (.arraylength, 0) else none) else (bif Nat.beq pc 39 then some (.if_icmp .ge 17, 56) else none)))) else (bif Nat.blt pc 47 then (bif Nat.blt pc 43 then (bif Nat.beq pc 42 then some (.aload_n 0, 0) else none) else (bif Nat.blt pc 46 then (bif Nat.beq pc 43 then some (.getfield 33, 0) else none) else (bif Nat.beq pc 46 then some (.iload_n 2, 0) else none))) else (bif Nat.blt pc 48 then (bif Nat.beq pc 47 then some (.dup2, 0) else none) else (bif Nat.blt pc 49 then (bif Nat.beq pc 48 then some (.iaload, 0) else none) else (bif Nat.beq pc 49 then some (.iconst 1, 0) else none))))) else (bif Nat.blt pc 55 then (bif Nat.blt pc 52 then (bif Nat.blt pc 51 then (bif Nat.beq pc 50 then some (.iload_n 1, 0) else none) else (bif Nat.beq pc 51 then some (.ishl, 0) else none)) else (bif Nat.blt pc 53 then (bif Nat.beq pc 52 then some (.iconst (-1), 0) else none) else (bif Nat.blt pc 54 then (bif Nat.beq pc 53 then some (.ixor, 0) else none) else (bif Nat.beq pc 54 then some (.iand, 0) else none)))) else (bif Nat.blt pc 58 then (bif Nat.blt pc 56 then (bif Nat.beq pc 55 then some (.iastore, 0) else none) else (bif Nat.blt pc 57 then (bif Nat.beq pc 56 then some (.aload_n 0, 0) else none) else (bif Nat.beq pc 57 then some (.iload_n 1, 0) else none))) else (bif Nat.blt pc 61 then (bif Nat.beq pc 58 then some (.putfield 76, 0) else none) else (bif Nat.blt pc 62 then (bif Nat.beq pc 61 then some (.iconst 1, 0) else none) else (bif Nat.beq pc 62 then some (.ireturn, 0) else none))))))
def MX2_dropEvent : MI := (yX2_dropEvent, cX2_dropEvent, 3, (some .boolean), 2, zTab 63 tX2_dropEvent)
theorem kX2_dropEvent : zTok MX2_dropEvent := zTok_of 63 tX2_dropEvent rfl (by decide +kernel)
theorem oX2_dropEvent : zokM MX2_dropEvent 0 = true := zokM_mk (z_in (List.mem_of_getElem? (i := 480) (by decide +kernel)) rfl) z_ini2 (by decide +kernel)
theorem iX2_dropEvent : zokI MX2_dropEvent = true := zokI_mk (z_in (List.mem_of_getElem? (i := 478) (by decide +kernel)) rfl) (z_in (List.mem_of_getElem? (i := 479) (by decide +kernel)) rfl)
def tX2_dropEvents : Nat → Option (Instr × Nat) := fun pc => bif Nat.blt pc 15 then (bif Nat.blt pc 4 then (bif Nat.blt pc 2 then (bif Nat.blt pc 1 then (bif Nat.beq pc 0 then some (.iconst 0, 0) else none) else (bif Nat.beq pc 1 then some (.istore_n 1, 0) else none)) else (bif Nat.blt pc 3 then (bif Nat.beq pc 2 then some (.iload_n 1, 0) else none) else (bif Nat.beq pc 3 then some (.aload_n 0, 0) else none))) else (bif Nat.blt pc 8 then (bif Nat.blt pc 7 then (bif Nat.beq pc 4 then some (.getfield 33, 0) else none) else (bif Nat.beq pc 7 then some (.arraylength, 0) else none)) else (bif Nat.blt pc 11 then (bif Nat.beq pc 8 then some (.if_icmp .ge 16, 24) else none) else (bif Nat.blt pc 12 then (bif Nat.beq pc 11 then some (.aload_n 0, 0) else none) else (bif Nat.beq pc 12 then some (.getfield 33, 0) else none))))) else (bif Nat.blt pc 21 then (bif Nat.blt pc 17 then (bif Nat.blt pc 16 then (bif Nat.beq pc 15 then some (.iload_n 1, 0) else none) else (bif Nat.beq pc 16 then some (.iconst 0, 0) else none)) else (bif Nat.blt pc 18 then (bif Nat.beq pc 17 then some (.iastore, 0) else none) else (bif Nat.beq pc 18 then some (.iinc 1 1, 0) else none))) else (bif Nat.blt pc 25 then (bif Nat.blt pc 24 then (bif Nat.beq pc 21 then some (.goto (-19), 2) else none) else (bif Nat.beq pc 24 then some (.aload_n 0, 0) else none)) else (bif Nat.blt pc 26 then (bif Nat.beq pc 25 then some (.iconst 0, 0) else none) else (bif Nat.blt pc 29 then (bif Nat.beq pc 26 then some (.putfield 76, 0) else none) else (bif Nat.beq pc 29 then some (.return_, 0) else none)))))
def MX2_dropEvents : MI := (yX2_dropEvents, cX2_dropEvents, 2, none, 2, zTab 30 tX2_dropEvents)
theorem kX2_dropEvents : zTok MX2_dropEvents := zTok_of 30 tX2_dropEvents rfl (by decide +kernel)
theorem oX2_dropEvents : zokM MX2_dropEvents 0 = true := zokM_mk (z_in (List.mem_of_getElem? (i := 723) (by decide +kernel)) rfl) z_ini2 (by decide +kernel)
theorem iX2_dropEvents : zokI MX2_dropEvents = true := zokI_mk (z_in (List.mem_of_getElem? (i := 721) (by decide +kernel)) rfl) (z_in (List.mem_of_getElem? (i := 722) (by decide +kernel)) rfl)
def tX3_isLost : Nat → Option (Instr × Nat) := fun pc => bif Nat.blt pc 8 then (bif Nat.blt pc 4 then (bif Nat.blt pc 1 then (bif Nat.beq pc 0 then some (.aload_n 0, 0) else none) else (bif Nat.beq pc 1 then some (.getfield 15, 0) else none)) else (bif Nat.blt pc 5 then (bif Nat.beq pc 4 then some (.iconst (-1), 0) else none) else (bif Nat.beq pc 5 then some (.if_icmp .ne 7, 12) else none))) else (bif Nat.blt pc 12 then (bif Nat.blt pc 9 then (bif Nat.beq pc 8 then some (.iconst 1, 0) else none) else (bif Nat.beq pc 9 then some (.goto 4, 13) else none)) else (bif Nat.blt pc 13 then (bif Nat.beq pc 12 then some (.iconst 0, 0) else none) else (bif Nat.beq pc 13 then some (.ireturn, 0) else none)))
def MX3_isLost : MI := (yX3_isLost, cX3_isLost, 1, (some .boolean), 3, zTab 14 tX3_isLost)
theorem kX3_isLost : zTok MX3_isLost := zTok_of 14 tX3_isLost rfl (by decide +kernel)
theorem oX3_isLost : zokM MX3_isLost 0 = true := zokM_mk (z_in (List.mem_of_getElem? (i := 492) (by decide +kernel)) rfl) z_ini3 (by decide +kernel)
theorem iX3_isLost : zokI MX3_isLost = true := zokI_mk (z_in (List.mem_of_getElem? (i := 490) (by decide +kernel)) rfl) (z_in (List.mem_of_getElem? (i := 491) (by decide +kernel)) rfl)
def tX3_form : Nat → Option (Instr × Nat) := fun pc => bif Nat.blt pc 1 then (bif Nat.beq pc 0 then some (.aload_n 0, 0) else none) else (bif Nat.blt pc 4 then (bif Nat.beq pc 1 then some (.getfield 15, 0) else none) else (bif Nat.beq pc 4 then some (.ireturn, 0) else none))
def MX3_form : MI := (yX3_form, cX3_form, 1, (some .int), 3, zTab 5 tX3_form)
theorem kX3_form : zTok MX3_form := zTok_of 5 tX3_form rfl (by decide +kernel)
theorem oX3_form : zokM MX3_form 0 = true := zokM_mk (z_in (List.mem_of_getElem? (i := 781) (by decide +kernel)) rfl) z_ini3 (by decide +kernel)
theorem iX3_form : zokI MX3_form = true := zokI_mk (z_in (List.mem_of_getElem? (i := 779) (by decide +kernel)) rfl) (z_in (List.mem_of_getElem? (i := 780) (by decide +kernel)) rfl)
def tX3_size : Nat → Option (Instr × Nat) := fun pc => bif Nat.blt pc 1 then (bif Nat.beq pc 0 then some (.aload_n 0, 0) else none) else (bif Nat.blt pc 4 then (bif Nat.beq pc 1 then some (.getfield 19, 0) else none) else (bif Nat.beq pc 4 then some (.ireturn, 0) else none))
def MX3_size : MI := (yX3_size, cX3_size, 1, (some .int), 3, zTab 5 tX3_size)
theorem kX3_size : zTok MX3_size := zTok_of 5 tX3_size rfl (by decide +kernel)
theorem oX3_size : zokM MX3_size 0 = true := zokM_mk (z_in (List.mem_of_getElem? (i := 500) (by decide +kernel)) rfl) z_ini3 (by decide +kernel)
theorem iX3_size : zokI MX3_size = true := zokI_mk (z_in (List.mem_of_getElem? (i := 498) (by decide +kernel)) rfl) (z_in (List.mem_of_getElem? (i := 499) (by decide +kernel)) rfl)
def tX3_renew : Nat → Option (Instr × Nat) := fun pc => bif Nat.blt pc 21 then (bif Nat.blt pc 8 then (bif Nat.blt pc 5 then (bif Nat.blt pc 1 then (bif Nat.beq pc 0 then some (.aload_n 0, 0) else none) else (bif Nat.blt pc 2 then (bif Nat.beq pc 1 then some (.iload_n 1, 0) else none) else (bif Nat.beq pc 2 then some (.putfield 15, 0) else none))) else (bif Nat.blt pc 6 then (bif Nat.beq pc 5 then some (.aload_n 0, 0) else none) else (bif Nat.blt pc 7 then (bif Nat.beq pc 6 then some (.iconst 0, 0) else none) else (bif Nat.beq pc 7 then some (.iload_n 2, 0) else none)))) else (bif Nat.blt pc 16 then (bif Nat.blt pc 10 then (bif Nat.beq pc 8 then some (.bipush 60, 0) else none) else (bif Nat.blt pc 13 then (bif Nat.beq pc 10 then some (.invokestatic 22, 0) else none) else (bif Nat.beq pc 13 then some (.invokestatic 28, 0) else none))) else (bif Nat.blt pc 19 then (bif Nat.beq pc 16 then some (.putfield 19, 0) else none) else (bif Nat.blt pc 20 then (bif Nat.beq pc 19 then some (.iconst 0, 0) else none) else (bif Nat.beq pc 20 then some (.istore_n 3, 0) else none))))) else (bif Nat.blt pc 31 then (bif Nat.blt pc 26 then (bif Nat.blt pc 22 then (bif Nat.beq pc 21 then some (.iload_n 3, 0) else none) else (bif Nat.blt pc 23 then (bif Nat.beq pc 22 then some (.aload_n 0, 0) else none) else (bif Nat.beq pc 23 then some (.getfield 9, 0) else none))) else (bif Nat.blt pc 27 then (bif Nat.beq pc 26 then some (.arraylength, 0) else none) else (bif Nat.blt pc 30 then (bif Nat.beq pc 27 then some (.if_icmp .ge 16, 43) else none) else (bif Nat.beq pc 30 then some (.aload_n 0, 0) else none)))) else (bif Nat.blt pc 36 then (bif Nat.blt pc 34 then (bif Nat.beq pc 31 then some (.getfield 9, 0) else none) else (bif Nat.blt pc 35 then (bif Nat.beq pc 34 then some (.iload_n 3, 0) else none) else (bif Nat.beq pc 35 then some (.iconst 0, 0) else none))) else (bif Nat.blt pc 40 then (bif Nat.blt pc 37 then (bif Nat.beq pc 36 then some (.iastore, 0) else none) else (bif Nat.beq pc 37 then some (.iinc 3 1, 0) else none)) else (bif Nat.blt pc 43 then (bif Nat.beq pc 40 then some (.goto (-19), 21) else none) else (bif Nat.beq pc 43 then some (.return_, 0) else none)))))
def MX3_renew : MI := (yX3_renew, cX3_renew, 4, none, 3, zTab 44 tX3_renew)
theorem kX3_renew : zTok MX3_renew := zTok_of 44 tX3_renew rfl (by decide +kernel)
theorem oX3_renew : zokM MX3_renew 2 = true := zokM_mk (z_in (List.mem_of_getElem? (i := 741) (by decide +kernel)) rfl) z_ini3 (by decide +kernel)
theorem iX3_renew : zokI MX3_renew = true := zokI_mk (z_in (List.mem_of_getElem? (i := 739) (by decide +kernel)) rfl) (z_in (List.mem_of_getElem? (i := 740) (by decide +kernel)) rfl)
def tX3_beLost : Nat → Option (Instr × Nat) := fun pc => bif Nat.blt pc 5 then (bif Nat.blt pc 1 then (bif Nat.beq pc 0 then some (.aload_n 0, 0) else none) else (bif Nat.blt pc 2 then (bif Nat.beq pc 1 then some (.iconst (-1), 0) else none) else (bif Nat.beq pc 2 then some (.putfield 15, 0) else none))) else (bif Nat.blt pc 7 then (bif Nat.blt pc 6 then (bif Nat.beq pc 5 then some (.aload_n 0, 0) else none) else (bif Nat.beq pc 6 then some (.iconst 0, 0) else none)) else (bif Nat.blt pc 10 then (bif Nat.beq pc 7 then some (.putfield 19, 0) else none) else (bif Nat.beq pc 10 then some (.return_, 0) else none)))
def MX3_beLost : MI := (yX3_beLost, cX3_beLost, 1, none, 3, zTab 11 tX3_beLost)
theorem kX3_beLost : zTok MX3_beLost := zTok_of 11 tX3_beLost rfl (by decide +kernel)
theorem oX3_beLost : zokM MX3_beLost 0 = true := zokM_mk (z_in (List.mem_of_getElem? (i := 751) (by decide +kernel)) rfl) z_ini3 (by decide +kernel)
theorem iX3_beLost : zokI MX3_beLost = true := zokI_mk (z_in (List.mem_of_getElem? (i := 749) (by decide +kernel)) rfl) (z_in (List.mem_of_getElem? (i := 750) (by decide +kernel)) rfl)
def tX3_findingAt : Nat → Option (Instr × Nat) := fun pc => bif Nat.blt pc 18 then (bif Nat.blt pc 9 then (bif Nat.blt pc 4 then (bif Nat.blt pc 1 then (bif Nat.beq pc 0 then some (.aload_n 0, 0) else none) else (bif Nat.beq pc 1 then some (.invokevirtual 31, 0) else none)) else (bif Nat.blt pc 7 then (bif Nat.beq pc 4 then some (.ifCond .eq 5, 9) else none) else (bif Nat.blt pc 8 then (bif Nat.beq pc 7 then some (.iconst 1, 0) else none) else (bif Nat.beq pc 8 then some (.ireturn, 0) else none)))) else (bif Nat.blt pc 13 then (bif Nat.blt pc 10 then (bif Nat.beq pc 9 then some (.aload_n 0, 0) else none) else (bif Nat.beq pc 10 then some (.getfield 15, 0) else none)) else (bif Nat.blt pc 14 then (bif Nat.beq pc 13 then some (.iload_n 1, 0) else none) else (bif Nat.blt pc 17 then (bif Nat.beq pc 14 then some (.if_icmp .eq 5, 19) else none) else (bif Nat.beq pc 17 then some (.iconst 3, 0) else none))))) else (bif Nat.blt pc 25 then (bif Nat.blt pc 20 then (bif Nat.blt pc 19 then (bif Nat.beq pc 18 then some (.ireturn, 0) else none) else (bif Nat.beq pc 19 then some (.iload_n 2, 0) else none)) else (bif Nat.blt pc 23 then (bif Nat.beq pc 20 then some (.ifCond .lt 11, 31) else none) else (bif Nat.blt pc 24 then (bif Nat.beq pc 23 then some (.iload_n 2, 0) else none) else (bif Nat.beq pc 24 then some (.aload_n 0, 0) else none)))) else (bif Nat.blt pc 32 then (bif Nat.blt pc 28 then (bif Nat.beq pc 25 then some (.getfield 19, 0) else none) else (bif Nat.blt pc 31 then (bif Nat.beq pc 28 then some (.if_icmp .lt 7, 35) else none) else (bif Nat.beq pc 31 then some (.iconst 2, 0) else none))) else (bif Nat.blt pc 35 then (bif Nat.beq pc 32 then some (.goto 4, 36) else none) else (bif Nat.blt pc 36 then (bif Nat.beq pc 35 then some (.iconst 0, 0) else none) else (bif Nat.beq pc 36 then some (.ireturn, 0) else none)))))
def MX3_findingAt : MI := (yX3_findingAt, cX3_findingAt, 3, (some .int), 3, zTab 37 tX3_findingAt)
theorem kX3_findingAt : zTok MX3_findingAt := zTok_of 37 tX3_findingAt rfl (by decide +kernel)
theorem oX3_findingAt : zokM MX3_findingAt 2 = true := zokM_mk (z_in (List.mem_of_getElem? (i := 759) (by decide +kernel)) rfl) z_ini3 (by decide +kernel)
theorem iX3_findingAt : zokI MX3_findingAt = true := zokI_mk (z_in (List.mem_of_getElem? (i := 757) (by decide +kernel)) rfl) (z_in (List.mem_of_getElem? (i := 758) (by decide +kernel)) rfl)
def tX3_item : Nat → Option (Instr × Nat) := fun pc => bif Nat.blt pc 17 then (bif Nat.blt pc 6 then (bif Nat.blt pc 4 then (bif Nat.blt pc 1 then (bif Nat.beq pc 0 then some (.iload_n 1, 0) else none) else (bif Nat.beq pc 1 then some (.ifCond .lt 29, 30) else none)) else (bif Nat.blt pc 5 then (bif Nat.beq pc 4 then some (.iload_n 1, 0) else none) else (bif Nat.beq pc 5 then some (.aload_n 0, 0) else none))) else (bif Nat.blt pc 12 then (bif Nat.blt pc 9 then (bif Nat.beq pc 6 then some (.getfield 19, 0) else none) else (bif Nat.beq pc 9 then some (.if_icmp .ge 21, 30) else none)) else (bif Nat.blt pc 13 then (bif Nat.beq pc 12 then some (.iload_n 1, 0) else none) else (bif Nat.blt pc 14 then (bif Nat.beq pc 13 then some (.aload_n 0, 0) else none) else (bif Nat.beq pc 14 then some (.getfield 9, 0) else none))))) else (bif Nat.blt pc 25 then (bif Nat.blt pc 21 then (bif Nat.blt pc 18 then (bif Nat.beq pc 17 then some (.arraylength, 0) else none) else (bif Nat.beq pc 18 then some (.if_icmp .ge 12, 30) else none)) else (bif Nat.blt pc 22 then (bif Nat.beq pc 21 then some (.aload_n 0, 0) else none) else (bif Nat.beq pc 22 then some (.getfield 9, 0) else none))) else (bif Nat.blt pc 27 then (bif Nat.blt pc 26 then (bif Nat.beq pc 25 then some (.iload_n 1, 0) else none) else (bif Nat.beq pc 26 then some (.iaload, 0) else none)) else (bif Nat.blt pc 30 then (bif Nat.beq pc 27 then some (.goto 4, 31) else none) else (bif Nat.blt pc 31 then (bif Nat.beq pc 30 then some (.iconst 0, 0) else none) else (bif Nat.beq pc 31 then some (.ireturn, 0) else none)))))
def MX3_item : MI := (yX3_item, cX3_item, 2, (some .int), 3, zTab 32 tX3_item)
theorem kX3_item : zTok MX3_item := zTok_of 32 tX3_item rfl (by decide +kernel)
theorem oX3_item : zokM MX3_item 1 = true := zokM_mk (z_in (List.mem_of_getElem? (i := 504) (by decide +kernel)) rfl) z_ini3 (by decide +kernel)
theorem iX3_item : zokI MX3_item = true := zokI_mk (z_in (List.mem_of_getElem? (i := 502) (by decide +kernel)) rfl) (z_in (List.mem_of_getElem? (i := 503) (by decide +kernel)) rfl)
def tX3_setItem : Nat → Option (Instr × Nat) := fun pc => bif Nat.blt pc 17 then (bif Nat.blt pc 6 then (bif Nat.blt pc 4 then (bif Nat.blt pc 1 then (bif Nat.beq pc 0 then some (.iload_n 1, 0) else none) else (bif Nat.beq pc 1 then some (.ifCond .lt 31, 32) else none)) else (bif Nat.blt pc 5 then (bif Nat.beq pc 4 then some (.iload_n 1, 0) else none) else (bif Nat.beq pc 5 then some (.aload_n 0, 0) else none))) else (bif Nat.blt pc 12 then (bif Nat.blt pc 9 then (bif Nat.beq pc 6 then some (.getfield 19, 0) else none) else (bif Nat.beq pc 9 then some (.if_icmp .ge 23, 32) else none)) else (bif Nat.blt pc 13 then (bif Nat.beq pc 12 then some (.iload_n 1, 0) else none) else (bif Nat.blt pc 14 then (bif Nat.beq pc 13 then some (.aload_n 0, 0) else none) else (bif Nat.beq pc 14 then some (.getfield 9, 0) else none))))) else (bif Nat.blt pc 26 then (bif Nat.blt pc 21 then (bif Nat.blt pc 18 then (bif Nat.beq pc 17 then some (.arraylength, 0) else none) else (bif Nat.beq pc 18 then some (.if_icmp .ge 14, 32) else none)) else (bif Nat.blt pc 22 then (bif Nat.beq pc 21 then some (.aload_n 0, 0) else none) else (bif Nat.blt pc 25 then (bif Nat.beq pc 22 then some (.getfield 9, 0) else none) else (bif Nat.beq pc 25 then some (.iload_n 1, 0) else none)))) else (bif Nat.blt pc 28 then (bif Nat.blt pc 27 then (bif Nat.beq pc 26 then some (.aload_n 0, 0) else none) else (bif Nat.beq pc 27 then some (.iload_n 2, 0) else none)) else (bif Nat.blt pc 31 then (bif Nat.beq pc 28 then some (.invokevirtual 35, 0) else none) else (bif Nat.blt pc 32 then (bif Nat.beq pc 31 then some (.iastore, 0) else none) else (bif Nat.beq pc 32 then some (.return_, 0) else none)))))
def MX3_setItem : MI := (yX3_setItem, cX3_setItem, 3, none, 3, zTab 33 tX3_setItem)
theorem kX3_setItem : zTok MX3_setItem := zTok_of 33 tX3_setItem rfl (by decide +kernel)
theorem oX3_setItem : zokM MX3_setItem 2 = true := zokM_mk (z_in (List.mem_of_getElem? (i := 764) (by decide +kernel)) rfl) z_ini3 (by decide +kernel)
theorem iX3_setItem : zokI MX3_setItem = true := zokI_mk (z_in (List.mem_of_getElem? (i := 762) (by decide +kernel)) rfl) (z_in (List.mem_of_getElem? (i := 763) (by decide +kernel)) rfl)
def tX3_cut : Nat → Option (Instr × Nat) := fun pc => bif Nat.blt pc 11 then (bif Nat.blt pc 7 then (bif Nat.blt pc 1 then (bif Nat.beq pc 0 then some (.aload_n 0, 0) else none) else (bif Nat.blt pc 4 then (bif Nat.beq pc 1 then some (.getfield 15, 0) else none) else (bif Nat.beq pc 4 then some (.ifCond .ne 6, 10) else none))) else (bif Nat.blt pc 9 then (bif Nat.blt pc 8 then (bif Nat.beq pc 7 then some (.iload_n 1, 0) else none) else (bif Nat.beq pc 8 then some (.i2b, 0) else none)) else (bif Nat.blt pc 10 then (bif Nat.beq pc 9 then some (.ireturn, 0) else none) else (bif Nat.beq pc 10 then some (.aload_n 0, 0) else none)))) else (bif Nat.blt pc 19 then (bif Nat.blt pc 15 then (bif Nat.blt pc 14 then (bif Nat.beq pc 11 then some (.getfield 15, 0) else none) else (bif Nat.beq pc 14 then some (.iconst 1, 0) else none)) else (bif Nat.blt pc 18 then (bif Nat.beq pc 15 then some (.if_icmp .ne 8, 23) else none) else (bif Nat.beq pc 18 then some (.iload_n 1, 0) else none))) else (bif Nat.blt pc 23 then (bif Nat.blt pc 20 then (bif Nat.beq pc 19 then some (.i2s, 0) else none) else (bif Nat.beq pc 20 then some (.goto 4, 24) else none)) else (bif Nat.blt pc 24 then (bif Nat.beq pc 23 then some (.iload_n 1, 0) else none) else (bif Nat.beq pc 24 then some (.ireturn, 0) else none))))
def MX3_cut : MI := (yX3_cut, cX3_cut, 2, (some .int), 3, zTab 25 tX3_cut)
theorem kX3_cut : zTok MX3_cut := zTok_of 25 tX3_cut rfl (by decide +kernel)
theorem oX3_cut : zokM MX3_cut 1 = true := zokM_mk (z_in (List.mem_of_getElem? (i := 768) (by decide +kernel)) rfl) z_ini3 (by decide +kernel)
theorem iX3_cut : zokI MX3_cut = true := zokI_mk (z_in (List.mem_of_getElem? (i := 767) (by decide +kernel)) rfl) (z_in (List.mem_of_getElem? (i := 22) (by decide +kernel)) rfl)
def tX3_hasItems : Nat → Option (Instr × Nat) := fun pc => bif Nat.blt pc 13 then (bif Nat.blt pc 5 then (bif Nat.blt pc 1 then (bif Nat.beq pc 0 then some (.iload_n 1, 0) else none) else (bif Nat.blt pc 4 then (bif Nat.beq pc 1 then some (.ifCond .lt 21, 22) else none) else (bif Nat.beq pc 4 then some (.iload_n 2, 0) else none))) else (bif Nat.blt pc 9 then (bif Nat.blt pc 8 then (bif Nat.beq pc 5 then some (.ifCond .lt 17, 22) else none) else (bif Nat.beq pc 8 then some (.iload_n 2, 0) else none)) else (bif Nat.blt pc 10 then (bif Nat.beq pc 9 then some (.aload_n 0, 0) else none) else (bif Nat.beq pc 10 then some (.getfield 19, 0) else none)))) else (bif Nat.blt pc 18 then (bif Nat.blt pc 14 then (bif Nat.beq pc 13 then some (.iload_n 1, 0) else none) else (bif Nat.blt pc 15 then (bif Nat.beq pc 14 then some (.isub, 0) else none) else (bif Nat.beq pc 15 then some (.if_icmp .gt 7, 22) else none))) else (bif Nat.blt pc 22 then (bif Nat.blt pc 19 then (bif Nat.beq pc 18 then some (.iconst 1, 0) else none) else (bif Nat.beq pc 19 then some (.goto 4, 23) else none)) else (bif Nat.blt pc 23 then (bif Nat.beq pc 22 then some (.iconst 0, 0) else none) else (bif Nat.beq pc 23 then some (.ireturn, 0) else none))))
def MX3_hasItems : MI := (yX3_hasItems, cX3_hasItems, 3, (some .boolean), 3, zTab 24 tX3_hasItems)
theorem kX3_hasItems : zTok MX3_hasItems := zTok_of 24 tX3_hasItems rfl (by decide +kernel)
theorem oX3_hasItems : zokM MX3_hasItems 2 = true := zokM_mk (z_in (List.mem_of_getElem? (i := 785) (by decide +kernel)) rfl) z_ini3 (by decide +kernel)
theorem iX3_hasItems : zokI MX3_hasItems = true := zokI_mk (z_in (List.mem_of_getElem? (i := 783) (by decide +kernel)) rfl) (z_in (List.mem_of_getElem? (i := 784) (by decide +kernel)) rfl)
def tX3_takeItems : Nat → Option (Instr × Nat) := fun pc => bif Nat.blt pc 17 then (bif Nat.blt pc 7 then (bif Nat.blt pc 2 then (bif Nat.blt pc 1 then (bif Nat.beq pc 0 then some (.aload_n 0, 0) else none) else (bif Nat.beq pc 1 then some (.iload_n 1, 0) else none)) else (bif Nat.blt pc 4 then (bif Nat.beq pc 2 then some (.iload 4, 0) else none) else (bif Nat.beq pc 4 then some (.invokevirtual 39, 0) else none))) else (bif Nat.blt pc 11 then (bif Nat.blt pc 10 then (bif Nat.beq pc 7 then some (.ifCond .eq 28, 35) else none) else (bif Nat.beq pc 10 then some (.aload_n 2, 0) else none)) else (bif Nat.blt pc 12 then (bif Nat.beq pc 11 then some (.iload_n 3, 0) else none) else (bif Nat.blt pc 14 then (bif Nat.beq pc 12 then some (.iload 4, 0) else none) else (bif Nat.beq pc 14 then some (.invokevirtual 39, 0) else none))))) else (bif Nat.blt pc 26 then (bif Nat.blt pc 21 then (bif Nat.blt pc 20 then (bif Nat.beq pc 17 then some (.ifCond .eq 18, 35) else none) else (bif Nat.beq pc 20 then some (.aload_n 2, 0) else none)) else (bif Nat.blt pc 24 then (bif Nat.beq pc 21 then some (.getfield 9, 0) else none) else (bif Nat.blt pc 25 then (bif Nat.beq pc 24 then some (.iload_n 3, 0) else none) else (bif Nat.beq pc 25 then some (.aload_n 0, 0) else none)))) else (bif Nat.blt pc 30 then (bif Nat.blt pc 29 then (bif Nat.beq pc 26 then some (.getfield 9, 0) else none) else (bif Nat.beq pc 29 then some (.iload_n 1, 0) else none)) else (bif Nat.blt pc 32 then (bif Nat.beq pc 30 then some (.iload 4, 0) else none) else (bif Nat.blt pc 35 then (bif Nat.beq pc 32 then some (.invokestatic 43, 0) else none) else (bif Nat.beq pc 35 then some (.return_, 0) else none)))))
def MX3_takeItems : MI := (yX3_takeItems, cX3_takeItems, 5, none, 3, zTab 36 tX3_takeItems)
theorem kX3_takeItems : zTok MX3_takeItems := zTok_of 36 tX3_takeItems rfl (by decide +kernel)
theorem oX3_takeItems : zokM MX3_takeItems 4 = true := zokM_mk (z_in (List.mem_of_getElem? (i := 789) (by decide +kernel)) rfl) z_ini3 (by decide +kernel)
theorem iX3_takeItems : zokI MX3_takeItems = true := zokI_mk (z_in (List.mem_of_getElem? (i := 787) (by decide +kernel)) rfl) (z_in (List.mem_of_getElem? (i := 788) (by decide +kernel)) rfl)
def tX4_size : Nat → Option (Instr × Nat) := fun pc => bif Nat.blt pc 1 then (bif Nat.beq pc 0 then some (.aload_n 0, 0) else none) else (bif Nat.blt pc 4 then (bif Nat.beq pc 1 then some (.getfield 21, 0) else none) else (bif Nat.beq pc 4 then some (.ireturn, 0) else none))
def MX4_size : MI := (yX4_size, cX4_size, 1, (some .int), 4, zTab 5 tX4_size)
theorem kX4_size : zTok MX4_size := zTok_of 5 tX4_size rfl (by decide +kernel)
theorem oX4_size : zokM MX4_size 0 = true := zokM_mk (z_in (List.mem_of_getElem? (i := 649) (by decide +kernel)) rfl) z_ini4 (by decide +kernel)
theorem iX4_size : zokI MX4_size = true := zokI_mk (z_in (List.mem_of_getElem? (i := 647) (by decide +kernel)) rfl) (z_in (List.mem_of_getElem? (i := 648) (by decide +kernel)) rfl)
def tX4_add : Nat → Option (Instr × Nat) := fun pc => bif Nat.blt pc 53 then (bif Nat.blt pc 27 then (bif Nat.blt pc 12 then (bif Nat.blt pc 7 then (bif Nat.blt pc 1 then (bif Nat.beq pc 0 then some (.aload_n 0, 0) else none) else (bif Nat.blt pc 4 then (bif Nat.beq pc 1 then some (.getfield 21, 0) else none) else (bif Nat.beq pc 4 then some (.ifCond .lt 39, 43) else none))) else (bif Nat.blt pc 8 then (bif Nat.beq pc 7 then some (.aload_n 0, 0) else none) else (bif Nat.blt pc 11 then (bif Nat.beq pc 8 then some (.getfield 21, 0) else none) else (bif Nat.beq pc 11 then some (.aload_n 0, 0) else none)))) else (bif Nat.blt pc 19 then (bif Nat.blt pc 15 then (bif Nat.beq pc 12 then some (.getfield 9, 0) else none) else (bif Nat.blt pc 16 then (bif Nat.beq pc 15 then some (.arraylength, 0) else none) else (bif Nat.beq pc 16 then some (.if_icmp .ge 27, 43) else none))) else (bif Nat.blt pc 23 then (bif Nat.blt pc 20 then (bif Nat.beq pc 19 then some (.aload_n 0, 0) else none) else (bif Nat.beq pc 20 then some (.getfield 21, 0) else none)) else (bif Nat.blt pc 24 then (bif Nat.beq pc 23 then some (.aload_n 0, 0) else none) else (bif Nat.beq pc 24 then some (.getfield 15, 0) else none))))) else (bif Nat.blt pc 40 then (bif Nat.blt pc 32 then (bif Nat.blt pc 28 then (bif Nat.beq pc 27 then some (.arraylength, 0) else none) else (bif Nat.blt pc 31 then (bif Nat.beq pc 28 then some (.if_icmp .ge 15, 43) else none) else (bif Nat.beq pc 31 then some (.aload_n 0, 0) else none))) else (bif Nat.blt pc 36 then (bif Nat.blt pc 35 then (bif Nat.beq pc 32 then some (.getfield 21, 0) else none) else (bif Nat.beq pc 35 then some (.aload_n 0, 0) else none)) else (bif Nat.blt pc 39 then (bif Nat.beq pc 36 then some (.getfield 18, 0) else none) else (bif Nat.beq pc 39 then some (.arraylength, 0) else none)))) else (bif Nat.blt pc 45 then (bif Nat.blt pc 43 then (bif Nat.beq pc 40 then some (.if_icmp .lt 5, 45) else none) else (bif Nat.blt pc 44 then (bif Nat.beq pc 43 then some (.iconst 0, 0) else none) else (bif Nat.beq pc 44 then some (.ireturn, 0) else none))) else (bif Nat.blt pc 49 then (bif Nat.blt pc 46 then (bif Nat.beq pc 45 then some (.aload_n 0, 0) else none) else (bif Nat.beq pc 46 then some (.getfield 9, 0) else none)) else (bif Nat.blt pc 50 then (bif Nat.beq pc 49 then some (.aload_n 0, 0) else none) else (bif Nat.beq pc 50 then some (.getfield 21, 0) else none)))))) else (bif Nat.blt pc 74 then (bif Nat.blt pc 63 then (bif Nat.blt pc 56 then (bif Nat.blt pc 54 then (bif Nat.beq pc 53 then some (.iload_n 1, 0) else none) else (bif Nat.blt pc 55 then (bif Nat.beq pc 54 then some (.iastore, 0) else none) else (bif Nat.beq pc 55 then some (.aload_n 0, 0) else none))) else (bif Nat.blt pc 59 then (bif Nat.beq pc 56 then some (.getfield 15, 0) else none) else (bif Nat.blt pc 60 then (bif Nat.beq pc 59 then some (.aload_n 0, 0) else none) else (bif Nat.beq pc 60 then some (.getfield 21, 0) else none)))) else (bif Nat.blt pc 66 then (bif Nat.blt pc 64 then (bif Nat.beq pc 63 then some (.iload_n 2, 0) else none) else (bif Nat.blt pc 65 then (bif Nat.beq pc 64 then some (.iastore, 0) else none) else (bif Nat.beq pc 65 then some (.aload_n 0, 0) else none))) else (bif Nat.blt pc 70 then (bif Nat.blt pc 69 then (bif Nat.beq pc 66 then some (.getfield 18, 0) else none) else (bif Nat.beq pc 69 then some (.aload_n 0, 0) else none)) else (bif Nat.blt pc 73 then (bif Nat.beq pc 70 then some (.getfield 21, 0) else none) else (bif Nat.beq pc 73 then some (.iload_n 3, 0) else none))))) else (bif Nat.blt pc 86 then (bif Nat.blt pc 80 then (bif Nat.blt pc 76 then (bif Nat.beq pc 74 then some (.bipush 12, 0) else none) else (bif Nat.blt pc 79 then (bif Nat.beq pc 76 then some (.if_icmp .ne 7, 83) else none) else (bif Nat.beq pc 79 then some (.iconst (-1), 0) else none))) else (bif Nat.blt pc 84 then (bif Nat.blt pc 83 then (bif Nat.beq pc 80 then some (.goto 4, 84) else none) else (bif Nat.beq pc 83 then some (.iload_n 3, 0) else none)) else (bif Nat.blt pc 85 then (bif Nat.beq pc 84 then some (.iastore, 0) else none) else (bif Nat.beq pc 85 then some (.aload_n 0, 0) else none)))) else (bif Nat.blt pc 91 then (bif Nat.blt pc 87 then (bif Nat.beq pc 86 then some (.dup, 0) else none) else (bif Nat.blt pc 90 then (bif Nat.beq pc 87 then some (.getfield 21, 0) else none) else (bif Nat.beq pc 90 then some (.iconst 1, 0) else none))) else (bif Nat.blt pc 95 then (bif Nat.blt pc 92 then (bif Nat.beq pc 91 then some (.iadd, 0) else none) else (bif Nat.beq pc 92 then some (.putfield 21, 0) else none)) else (bif Nat.blt pc 96 then (bif Nat.beq pc 95 then some (.iconst 1, 0) else none) else (bif Nat.beq pc 96 then some (.ireturn, 0) else none))))))
def MX4_add : MI := (yX4_add, cX4_add, 4, (some .boolean), 4, zTab 97 tX4_add)
theorem kX4_add : zTok MX4_add := zTok_of 97 tX4_add rfl (by decide +kernel)
theorem oX4_add : zokM MX4_add 3 = true := zokM_mk (z_in (List.mem_of_getElem? (i := 645) (by decide +kernel)) rfl) z_ini4 (by decide +kernel)
theorem iX4_add : zokI MX4_add = true := zokI_mk (z_in (List.mem_of_getElem? (i := 643) (by decide +kernel)) rfl) (z_in (List.mem_of_getElem? (i := 644) (by decide +kernel)) rfl)
def tX4_clear : Nat → Option (Instr × Nat) := fun pc => bif Nat.blt pc 2 then (bif Nat.blt pc 1 then (bif Nat.beq pc 0 then some (.aload_n 0, 0) else none) else (bif Nat.beq pc 1 then some (.iconst 0, 0) else none)) else (bif Nat.blt pc 5 then (bif Nat.beq pc 2 then some (.putfield 21, 0) else none) else (bif Nat.beq pc 5 then some (.return_, 0) else none))
def MX4_clear : MI := (yX4_clear, cX4_clear, 1, none, 4, zTab 6 tX4_clear)
theorem kX4_clear : zTok MX4_clear := zTok_of 6 tX4_clear rfl (by decide +kernel)
theorem oX4_clear : zokM MX4_clear 0 = true := zokM_mk (z_in (List.mem_of_getElem? (i := 657) (by decide +kernel)) rfl) z_ini4 (by decide +kernel)
theorem iX4_clear : zokI MX4_clear = true := zokI_mk (z_in (List.mem_of_getElem? (i := 655) (by decide +kernel)) rfl) (z_in (List.mem_of_getElem? (i := 656) (by decide +kernel)) rfl)
def tX4_fit : Nat → Option (Instr × Nat) := fun pc => bif Nat.blt pc 37 then (bif Nat.blt pc 16 then (bif Nat.blt pc 7 then (bif Nat.blt pc 2 then (bif Nat.blt pc 1 then (bif Nat.beq pc 0 then some (.iconst 0, 0) else none) else (bif Nat.beq pc 1 then some (.istore_n 2, 0) else none)) else (bif Nat.blt pc 3 then (bif Nat.beq pc 2 then some (.iload_n 2, 0) else none) else (bif Nat.blt pc 4 then (bif Nat.beq pc 3 then some (.aload_n 0, 0) else none) else (bif Nat.beq pc 4 then some (.getfield 21, 0) else none)))) else (bif Nat.blt pc 11 then (bif Nat.blt pc 10 then (bif Nat.beq pc 7 then some (.if_icmp .ge 63, 70) else none) else (bif Nat.beq pc 10 then some (.iload_n 2, 0) else none)) else (bif Nat.blt pc 12 then (bif Nat.beq pc 11 then some (.aload_n 0, 0) else none) else (bif Nat.blt pc 15 then (bif Nat.beq pc 12 then some (.getfield 9, 0) else none) else (bif Nat.beq pc 15 then some (.arraylength, 0) else none))))) else (bif Nat.blt pc 25 then (bif Nat.blt pc 20 then (bif Nat.blt pc 19 then (bif Nat.beq pc 16 then some (.if_icmp .ge 48, 64) else none) else (bif Nat.beq pc 19 then some (.iload_n 2, 0) else none)) else (bif Nat.blt pc 21 then (bif Nat.beq pc 20 then some (.aload_n 0, 0) else none) else (bif Nat.blt pc 24 then (bif Nat.beq pc 21 then some (.getfield 15, 0) else none) else (bif Nat.beq pc 24 then some (.arraylength, 0) else none)))) else (bif Nat.blt pc 30 then (bif Nat.blt pc 28 then (bif Nat.beq pc 25 then some (.if_icmp .ge 39, 64) else none) else (bif Nat.blt pc 29 then (bif Nat.beq pc 28 then some (.iload_n 2, 0) else none) else (bif Nat.beq pc 29 then some (.aload_n 0, 0) else none))) else (bif Nat.blt pc 33 then (bif Nat.beq pc 30 then some (.getfield 18, 0) else none) else (bif Nat.blt pc 34 then (bif Nat.beq pc 33 then some (.arraylength, 0) else none) else (bif Nat.beq pc 34 then some (.if_icmp .ge 30, 64) else none)))))) else (bif Nat.blt pc 53 then (bif Nat.blt pc 44 then (bif Nat.blt pc 39 then (bif Nat.blt pc 38 then (bif Nat.beq pc 37 then some (.aload_n 1, 0) else none) else (bif Nat.beq pc 38 then some (.aload_n 0, 0) else none)) else (bif Nat.blt pc 42 then (bif Nat.beq pc 39 then some (.getfield 9, 0) else none) else (bif Nat.blt pc 43 then (bif Nat.beq pc 42 then some (.iload_n 2, 0) else none) else (bif Nat.beq pc 43 then some (.iaload, 0) else none)))) else (bif Nat.blt pc 48 then (bif Nat.blt pc 45 then (bif Nat.beq pc 44 then some (.aload_n 0, 0) else none) else (bif Nat.beq pc 45 then some (.getfield 15, 0) else none)) else (bif Nat.blt pc 49 then (bif Nat.beq pc 48 then some (.iload_n 2, 0) else none) else (bif Nat.blt pc 50 then (bif Nat.beq pc 49 then some (.iaload, 0) else none) else (bif Nat.beq pc 50 then some (.invokevirtual 25, 0) else none))))) else (bif Nat.blt pc 62 then (bif Nat.blt pc 57 then (bif Nat.blt pc 54 then (bif Nat.beq pc 53 then some (.aload_n 0, 0) else none) else (bif Nat.beq pc 54 then some (.getfield 18, 0) else none)) else (bif Nat.blt pc 58 then (bif Nat.beq pc 57 then some (.iload_n 2, 0) else none) else (bif Nat.blt pc 59 then (bif Nat.beq pc 58 then some (.iaload, 0) else none) else (bif Nat.beq pc 59 then some (.if_icmp .eq 5, 64) else none)))) else (bif Nat.blt pc 67 then (bif Nat.blt pc 63 then (bif Nat.beq pc 62 then some (.iconst 0, 0) else none) else (bif Nat.blt pc 64 then (bif Nat.beq pc 63 then some (.ireturn, 0) else none) else (bif Nat.beq pc 64 then some (.iinc 2 1, 0) else none))) else (bif Nat.blt pc 70 then (bif Nat.beq pc 67 then some (.goto (-65), 2) else none) else (bif Nat.blt pc 71 then (bif Nat.beq pc 70 then some (.iconst 1, 0) else none) else (bif Nat.beq pc 71 then some (.ireturn, 0) else none))))))
def MX4_fit : MI := (yX4_fit, cX4_fit, 3, (some .boolean), 4, zTab 72 tX4_fit)
theorem kX4_fit : zTok MX4_fit := zTok_of 72 tX4_fit rfl (by decide +kernel)
theorem oX4_fit : zokM MX4_fit 1 = true := zokM_mk (z_in (List.mem_of_getElem? (i := 665) (by decide +kernel)) rfl) z_ini4 (by decide +kernel)
theorem iX4_fit : zokI MX4_fit = true := zokI_mk (z_in (List.mem_of_getElem? (i := 663) (by decide +kernel)) rfl) (z_in (List.mem_of_getElem? (i := 664) (by decide +kernel)) rfl)
def tX5_size : Nat → Option (Instr × Nat) := fun pc => bif Nat.blt pc 1 then (bif Nat.beq pc 0 then some (.aload_n 0, 0) else none) else (bif Nat.blt pc 4 then (bif Nat.beq pc 1 then some (.getfield 25, 0) else none) else (bif Nat.beq pc 4 then some (.ireturn, 0) else none))
def MX5_size : MI := (yX5_size, cX5_size, 1, (some .int), 5, zTab 5 tX5_size)
theorem kX5_size : zTok MX5_size := zTok_of 5 tX5_size rfl (by decide +kernel)
theorem oX5_size : zokM MX5_size 0 = true := zokM_mk (z_in (List.mem_of_getElem? (i := 408) (by decide +kernel)) rfl) z_ini5 (by decide +kernel)
theorem iX5_size : zokI MX5_size = true := zokI_mk (z_in (List.mem_of_getElem? (i := 406) (by decide +kernel)) rfl) (z_in (List.mem_of_getElem? (i := 407) (by decide +kernel)) rfl)
def tX5_byteAt : Nat → Option (Instr × Nat) := fun pc => bif Nat.blt pc 17 then (bif Nat.blt pc 6 then (bif Nat.blt pc 4 then (bif Nat.blt pc 1 then (bif Nat.beq pc 0 then some (.iload_n 1, 0) else none) else (bif Nat.beq pc 1 then some (.ifCond .lt 29, 30) else none)) else (bif Nat.blt pc 5 then (bif Nat.beq pc 4 then some (.iload_n 1, 0) else none) else (bif Nat.beq pc 5 then some (.aload_n 0, 0) else none))) else (bif Nat.blt pc 12 then (bif Nat.blt pc 9 then (bif Nat.beq pc 6 then some (.getfield 25, 0) else none) else (bif Nat.beq pc 9 then some (.if_icmp .ge 21, 30) else none)) else (bif Nat.blt pc 13 then (bif Nat.beq pc 12 then some (.iload_n 1, 0) else none) else (bif Nat.blt pc 14 then (bif Nat.beq pc 13 then some (.aload_n 0, 0) else none) else (bif Nat.beq pc 14 then some (.getfield 21, 0) else none))))) else (bif Nat.blt pc 25 then (bif Nat.blt pc 21 then (bif Nat.blt pc 18 then (bif Nat.beq pc 17 then some (.arraylength, 0) else none) else (bif Nat.beq pc 18 then some (.if_icmp .ge 12, 30) else none)) else (bif Nat.blt pc 22 then (bif Nat.beq pc 21 then some (.aload_n 0, 0) else none) else (bif Nat.beq pc 22 then some (.getfield 21, 0) else none))) else (bif Nat.blt pc 27 then (bif Nat.blt pc 26 then (bif Nat.beq pc 25 then some (.iload_n 1, 0) else none) else (bif Nat.beq pc 26 then some (.iaload, 0) else none)) else (bif Nat.blt pc 30 then (bif Nat.beq pc 27 then some (.goto 4, 31) else none) else (bif Nat.blt pc 31 then (bif Nat.beq pc 30 then some (.iconst (-1), 0) else none) else (bif Nat.beq pc 31 then some (.ireturn, 0) else none)))))
def MX5_byteAt : MI := (yX5_byteAt, cX5_byteAt, 2, (some .int), 5, zTab 32 tX5_byteAt)
theorem kX5_byteAt : zTok MX5_byteAt := zTok_of 32 tX5_byteAt rfl (by decide +kernel)
theorem oX5_byteAt : zokM MX5_byteAt 1 = true := zokM_mk (z_in (List.mem_of_getElem? (i := 237) (by decide +kernel)) rfl) z_ini5 (by decide +kernel)
theorem iX5_byteAt : zokI MX5_byteAt = true := zokI_mk (z_in (List.mem_of_getElem? (i := 235) (by decide +kernel)) rfl) (z_in (List.mem_of_getElem? (i := 236) (by decide +kernel)) rfl)
def tX5_append : Nat → Option (Instr × Nat) := fun pc => bif Nat.blt pc 22 then (bif Nat.blt pc 12 then (bif Nat.blt pc 7 then (bif Nat.blt pc 1 then (bif Nat.beq pc 0 then some (.aload_n 0, 0) else none) else (bif Nat.blt pc 4 then (bif Nat.beq pc 1 then some (.getfield 25, 0) else none) else (bif Nat.beq pc 4 then some (.ifCond .lt 15, 19) else none))) else (bif Nat.blt pc 8 then (bif Nat.beq pc 7 then some (.aload_n 0, 0) else none) else (bif Nat.blt pc 11 then (bif Nat.beq pc 8 then some (.getfield 25, 0) else none) else (bif Nat.beq pc 11 then some (.aload_n 0, 0) else none)))) else (bif Nat.blt pc 19 then (bif Nat.blt pc 15 then (bif Nat.beq pc 12 then some (.getfield 21, 0) else none) else (bif Nat.blt pc 16 then (bif Nat.beq pc 15 then some (.arraylength, 0) else none) else (bif Nat.beq pc 16 then some (.if_icmp .lt 5, 21) else none))) else (bif Nat.blt pc 20 then (bif Nat.beq pc 19 then some (.iconst 0, 0) else none) else (bif Nat.blt pc 21 then (bif Nat.beq pc 20 then some (.ireturn, 0) else none) else (bif Nat.beq pc 21 then some (.aload_n 0, 0) else none))))) else (bif Nat.blt pc 32 then (bif Nat.blt pc 29 then (bif Nat.blt pc 25 then (bif Nat.beq pc 22 then some (.getfield 21, 0) else none) else (bif Nat.blt pc 26 then (bif Nat.beq pc 25 then some (.aload_n 0, 0) else none) else (bif Nat.beq pc 26 then some (.getfield 25, 0) else none))) else (bif Nat.blt pc 30 then (bif Nat.beq pc 29 then some (.iload_n 1, 0) else none) else (bif Nat.blt pc 31 then (bif Nat.beq pc 30 then some (.iastore, 0) else none) else (bif Nat.beq pc 31 then some (.aload_n 0, 0) else none)))) else (bif Nat.blt pc 37 then (bif Nat.blt pc 33 then (bif Nat.beq pc 32 then some (.dup, 0) else none) else (bif Nat.blt pc 36 then (bif Nat.beq pc 33 then some (.getfield 25, 0) else none) else (bif Nat.beq pc 36 then some (.iconst 1, 0) else none))) else (bif Nat.blt pc 41 then (bif Nat.blt pc 38 then (bif Nat.beq pc 37 then some (.iadd, 0) else none) else (bif Nat.beq pc 38 then some (.putfield 25, 0) else none)) else (bif Nat.blt pc 42 then (bif Nat.beq pc 41 then some (.iconst 1, 0) else none) else (bif Nat.beq pc 42 then some (.ireturn, 0) else none)))))
def MX5_append : MI := (yX5_append, cX5_append, 2, (some .boolean), 5, zTab 43 tX5_append)
theorem kX5_append : zTok MX5_append := zTok_of 43 tX5_append rfl (by decide +kernel)
theorem oX5_append : zokM MX5_append 1 = true := zokM_mk (z_in (List.mem_of_getElem? (i := 404) (by decide +kernel)) rfl) z_ini5 (by decide +kernel)
theorem iX5_append : zokI MX5_append = true := zokI_mk (z_in (List.mem_of_getElem? (i := 402) (by decide +kernel)) rfl) (z_in (List.mem_of_getElem? (i := 403) (by decide +kernel)) rfl)
def tX5_dropLast : Nat → Option (Instr × Nat) := fun pc => bif Nat.blt pc 10 then (bif Nat.blt pc 7 then (bif Nat.blt pc 1 then (bif Nat.beq pc 0 then some (.aload_n 0, 0) else none) else (bif Nat.blt pc 4 then (bif Nat.beq pc 1 then some (.getfield 25, 0) else none) else (bif Nat.beq pc 4 then some (.ifCond .gt 5, 9) else none))) else (bif Nat.blt pc 8 then (bif Nat.beq pc 7 then some (.iconst 0, 0) else none) else (bif Nat.blt pc 9 then (bif Nat.beq pc 8 then some (.ireturn, 0) else none) else (bif Nat.beq pc 9 then some (.aload_n 0, 0) else none)))) else (bif Nat.blt pc 15 then (bif Nat.blt pc 11 then (bif Nat.beq pc 10 then some (.dup, 0) else none) else (bif Nat.blt pc 14 then (bif Nat.beq pc 11 then some (.getfield 25, 0) else none) else (bif Nat.beq pc 14 then some (.iconst 1, 0) else none))) else (bif Nat.blt pc 19 then (bif Nat.blt pc 16 then (bif Nat.beq pc 15 then some (.isub, 0) else none) else (bif Nat.beq pc 16 then some (.putfield 25, 0) else none)) else (bif Nat.blt pc 20 then (bif Nat.beq pc 19 then some (.iconst 1, 0) else none) else (bif Nat.beq pc 20 then some (.ireturn, 0) else none))))
def MX5_dropLast : MI := (yX5_dropLast, cX5_dropLast, 1, (some .boolean), 5, zTab 21 tX5_dropLast)
theorem kX5_dropLast : zTok MX5_dropLast := zTok_of 21 tX5_dropLast rfl (by decide +kernel)
theorem oX5_dropLast : zokM MX5_dropLast 0 = true := zokM_mk (z_in (List.mem_of_getElem? (i := 424) (by decide +kernel)) rfl) z_ini5 (by decide +kernel)
theorem iX5_dropLast : zokI MX5_dropLast = true := zokI_mk (z_in (List.mem_of_getElem? (i := 422) (by decide +kernel)) rfl) (z_in (List.mem_of_getElem? (i := 423) (by decide +kernel)) rfl)
def tX5_clear : Nat → Option (Instr × Nat) := fun pc => bif Nat.blt pc 2 then (bif Nat.blt pc 1 then (bif Nat.beq pc 0 then some (.aload_n 0, 0) else none) else (bif Nat.beq pc 1 then some (.iconst 0, 0) else none)) else (bif Nat.blt pc 5 then (bif Nat.beq pc 2 then some (.putfield 25, 0) else none) else (bif Nat.beq pc 5 then some (.return_, 0) else none))
def MX5_clear : MI := (yX5_clear, cX5_clear, 1, none, 5, zTab 6 tX5_clear)
theorem kX5_clear : zTok MX5_clear := zTok_of 6 tX5_clear rfl (by decide +kernel)
theorem oX5_clear : zokM MX5_clear 0 = true := zokM_mk (z_in (List.mem_of_getElem? (i := 416) (by decide +kernel)) rfl) z_ini5 (by decide +kernel)
theorem iX5_clear : zokI MX5_clear = true := zokI_mk (z_in (List.mem_of_getElem? (i := 414) (by decide +kernel)) rfl) (z_in (List.mem_of_getElem? (i := 415) (by decide +kernel)) rfl)
def tX5_firstFault : Nat → Option (Instr × Nat) := fun pc => bif Nat.blt pc 19 then (bif Nat.blt pc 7 then (bif Nat.blt pc 2 then (bif Nat.blt pc 1 then (bif Nat.beq pc 0 then some (.iconst 0, 0) else none) else (bif Nat.beq pc 1 then some (.istore_n 1, 0) else none)) else (bif Nat.blt pc 3 then (bif Nat.beq pc 2 then some (.iload_n 1, 0) else none) else (bif Nat.blt pc 4 then (bif Nat.beq pc 3 then some (.aload_n 0, 0) else none) else (bif Nat.beq pc 4 then some (.getfield 25, 0) else none)))) else (bif Nat.blt pc 12 then (bif Nat.blt pc 10 then (bif Nat.beq pc 7 then some (.if_icmp .ge 19, 26) else none) else (bif Nat.blt pc 11 then (bif Nat.beq pc 10 then some (.aload_n 0, 0) else none) else (bif Nat.beq pc 11 then some (.iload_n 1, 0) else none))) else (bif Nat.blt pc 15 then (bif Nat.beq pc 12 then some (.invokevirtual 29, 0) else none) else (bif Nat.blt pc 18 then (bif Nat.beq pc 15 then some (.ifCond .ne 5, 20) else none) else (bif Nat.beq pc 18 then some (.iload_n 1, 0) else none))))) else (bif Nat.blt pc 30 then (bif Nat.blt pc 23 then (bif Nat.blt pc 20 then (bif Nat.beq pc 19 then some (.ireturn, 0) else none) else (bif Nat.beq pc 20 then some (.iinc 1 1, 0) else none)) else (bif Nat.blt pc 26 then (bif Nat.beq pc 23 then some (.goto (-21), 2) else none) else (bif Nat.blt pc 27 then (bif Nat.beq pc 26 then some (.aload_n 0, 0) else none) else (bif Nat.beq pc 27 then some (.invokevirtual 33, 0) else none)))) else (bif Nat.blt pc 37 then (bif Nat.blt pc 33 then (bif Nat.beq pc 30 then some (.ifCond .eq 7, 37) else none) else (bif Nat.blt pc 34 then (bif Nat.beq pc 33 then some (.iconst (-1), 0) else none) else (bif Nat.beq pc 34 then some (.goto 7, 41) else none))) else (bif Nat.blt pc 38 then (bif Nat.beq pc 37 then some (.aload_n 0, 0) else none) else (bif Nat.blt pc 41 then (bif Nat.beq pc 38 then some (.getfield 25, 0) else none) else (bif Nat.beq pc 41 then some (.ireturn, 0) else none)))))
def MX5_firstFault : MI := (yX5_firstFault, cX5_firstFault, 2, (some .int), 5, zTab 42 tX5_firstFault)
theorem kX5_firstFault : zTok MX5_firstFault := zTok_of 42 tX5_firstFault rfl (by decide +kernel)
theorem oX5_firstFault : zokM MX5_firstFault 0 = true := zokM_mk (z_in (List.mem_of_getElem? (i := 229) (by decide +kernel)) rfl) z_ini5 (by decide +kernel)
theorem iX5_firstFault : zokI MX5_firstFault = true := zokI_mk (z_in (List.mem_of_getElem? (i := 227) (by decide +kernel)) rfl) (z_in (List.mem_of_getElem? (i := 228) (by decide +kernel)) rfl)
def tX5_whole : Nat → Option (Instr × Nat) := fun pc => bif Nat.blt pc 17 then (bif Nat.blt pc 8 then (bif Nat.blt pc 4 then (bif Nat.blt pc 1 then (bif Nat.beq pc 0 then some (.aload_n 0, 0) else none) else (bif Nat.beq pc 1 then some (.invokevirtual 37, 0) else none)) else (bif Nat.blt pc 5 then (bif Nat.beq pc 4 then some (.iconst (-1), 0) else none) else (bif Nat.beq pc 5 then some (.if_icmp .eq 5, 10) else none))) else (bif Nat.blt pc 10 then (bif Nat.blt pc 9 then (bif Nat.beq pc 8 then some (.iconst 0, 0) else none) else (bif Nat.beq pc 9 then some (.ireturn, 0) else none)) else (bif Nat.blt pc 11 then (bif Nat.beq pc 10 then some (.aload_n 0, 0) else none) else (bif Nat.blt pc 14 then (bif Nat.beq pc 11 then some (.getfield 9, 0) else none) else (bif Nat.beq pc 14 then some (.ifCond .eq 14, 28) else none))))) else (bif Nat.blt pc 24 then (bif Nat.blt pc 21 then (bif Nat.blt pc 18 then (bif Nat.beq pc 17 then some (.aload_n 0, 0) else none) else (bif Nat.beq pc 18 then some (.getfield 25, 0) else none)) else (bif Nat.blt pc 22 then (bif Nat.beq pc 21 then some (.iconst 1, 0) else none) else (bif Nat.blt pc 23 then (bif Nat.beq pc 22 then some (.iadd, 0) else none) else (bif Nat.beq pc 23 then some (.iconst 4, 0) else none)))) else (bif Nat.blt pc 28 then (bif Nat.blt pc 25 then (bif Nat.beq pc 24 then some (.idiv, 0) else none) else (bif Nat.beq pc 25 then some (.goto 7, 32) else none)) else (bif Nat.blt pc 29 then (bif Nat.beq pc 28 then some (.aload_n 0, 0) else none) else (bif Nat.blt pc 32 then (bif Nat.beq pc 29 then some (.getfield 25, 0) else none) else (bif Nat.beq pc 32 then some (.ireturn, 0) else none)))))
def MX5_whole : MI := (yX5_whole, cX5_whole, 1, (some .int), 5, zTab 33 tX5_whole)
theorem kX5_whole : zTok MX5_whole := zTok_of 33 tX5_whole rfl (by decide +kernel)
theorem oX5_whole : zokM MX5_whole 0 = true := zokM_mk (z_in (List.mem_of_getElem? (i := 225) (by decide +kernel)) rfl) z_ini5 (by decide +kernel)
theorem iX5_whole : zokI MX5_whole = true := zokI_mk (z_in (List.mem_of_getElem? (i := 223) (by decide +kernel)) rfl) (z_in (List.mem_of_getElem? (i := 224) (by decide +kernel)) rfl)
def tX5_fits : Nat → Option (Instr × Nat) := fun pc => bif Nat.blt pc 72 then (bif Nat.blt pc 25 then (bif Nat.blt pc 10 then (bif Nat.blt pc 5 then (bif Nat.blt pc 1 then (bif Nat.beq pc 0 then some (.aload_n 0, 0) else none) else (bif Nat.blt pc 2 then (bif Nat.beq pc 1 then some (.iload_n 1, 0) else none) else (bif Nat.beq pc 2 then some (.invokevirtual 41, 0) else none))) else (bif Nat.blt pc 6 then (bif Nat.beq pc 5 then some (.istore_n 2, 0) else none) else (bif Nat.blt pc 7 then (bif Nat.beq pc 6 then some (.aload_n 0, 0) else none) else (bif Nat.beq pc 7 then some (.getfield 9, 0) else none)))) else (bif Nat.blt pc 17 then (bif Nat.blt pc 13 then (bif Nat.beq pc 10 then some (.ifCond .ne 17, 27) else none) else (bif Nat.blt pc 14 then (bif Nat.beq pc 13 then some (.iload_n 2, 0) else none) else (bif Nat.beq pc 14 then some (.invokestatic 45, 0) else none))) else (bif Nat.blt pc 21 then (bif Nat.blt pc 18 then (bif Nat.beq pc 17 then some (.iconst (-1), 0) else none) else (bif Nat.beq pc 18 then some (.if_icmp .eq 7, 25) else none)) else (bif Nat.blt pc 22 then (bif Nat.beq pc 21 then some (.iconst 1, 0) else none) else (bif Nat.beq pc 22 then some (.goto 4, 26) else none))))) else (bif Nat.blt pc 57 then (bif Nat.blt pc 28 then (bif Nat.blt pc 26 then (bif Nat.beq pc 25 then some (.iconst 0, 0) else none) else (bif Nat.blt pc 27 then (bif Nat.beq pc 26 then some (.ireturn, 0) else none) else (bif Nat.beq pc 27 then some (.iload_n 1, 0) else none))) else (bif Nat.blt pc 30 then (bif Nat.blt pc 29 then (bif Nat.beq pc 28 then some (.iconst 4, 0) else none) else (bif Nat.beq pc 29 then some (.irem, 0) else none)) else (bif Nat.blt pc 56 then (bif Nat.beq pc 30 then some (.tableswitch 76 0 2 #[26, 44, 58], 26) else none) else (bif Nat.beq pc 56 then some (.iload_n 2, 0) else none)))) else (bif Nat.blt pc 63 then (bif Nat.blt pc 59 then (bif Nat.beq pc 57 then some (.bipush 97, 0) else none) else (bif Nat.blt pc 62 then (bif Nat.beq pc 59 then some (.if_icmp .lt 13, 72) else none) else (bif Nat.beq pc 62 then some (.iload_n 2, 0) else none))) else (bif Nat.blt pc 68 then (bif Nat.blt pc 65 then (bif Nat.beq pc 63 then some (.bipush 120, 0) else none) else (bif Nat.beq pc 65 then some (.if_icmp .gt 7, 72) else none)) else (bif Nat.blt pc 69 then (bif Nat.beq pc 68 then some (.iconst 1, 0) else none) else (bif Nat.beq pc 69 then some (.goto 4, 73) else none)))))) else (bif Nat.blt pc 94 then (bif Nat.blt pc 82 then (bif Nat.blt pc 75 then (bif Nat.blt pc 73 then (bif Nat.beq pc 72 then some (.iconst 0, 0) else none) else (bif Nat.blt pc 74 then (bif Nat.beq pc 73 then some (.ireturn, 0) else none) else (bif Nat.beq pc 74 then some (.iload_n 2, 0) else none))) else (bif Nat.blt pc 78 then (bif Nat.beq pc 75 then some (.invokestatic 48, 0) else none) else (bif Nat.blt pc 79 then (bif Nat.beq pc 78 then some (.iconst (-1), 0) else none) else (bif Nat.beq pc 79 then some (.if_icmp .eq 7, 86) else none)))) else (bif Nat.blt pc 87 then (bif Nat.blt pc 83 then (bif Nat.beq pc 82 then some (.iconst 1, 0) else none) else (bif Nat.blt pc 86 then (bif Nat.beq pc 83 then some (.goto 4, 87) else none) else (bif Nat.beq pc 86 then some (.iconst 0, 0) else none))) else (bif Nat.blt pc 89 then (bif Nat.blt pc 88 then (bif Nat.beq pc 87 then some (.ireturn, 0) else none) else (bif Nat.beq pc 88 then some (.iload_n 2, 0) else none)) else (bif Nat.blt pc 91 then (bif Nat.beq pc 89 then some (.bipush 49, 0) else none) else (bif Nat.beq pc 91 then some (.if_icmp .lt 13, 104) else none))))) else (bif Nat.blt pc 106 then (bif Nat.blt pc 100 then (bif Nat.blt pc 95 then (bif Nat.beq pc 94 then some (.iload_n 2, 0) else none) else (bif Nat.blt pc 97 then (bif Nat.beq pc 95 then some (.bipush 57, 0) else none) else (bif Nat.beq pc 97 then some (.if_icmp .gt 7, 104) else none))) else (bif Nat.blt pc 104 then (bif Nat.blt pc 101 then (bif Nat.beq pc 100 then some (.iconst 1, 0) else none) else (bif Nat.beq pc 101 then some (.goto 4, 105) else none)) else (bif Nat.blt pc 105 then (bif Nat.beq pc 104 then some (.iconst 0, 0) else none) else (bif Nat.beq pc 105 then some (.ireturn, 0) else none)))) else (bif Nat.blt pc 112 then (bif Nat.blt pc 107 then (bif Nat.beq pc 106 then some (.iload_n 2, 0) else none) else (bif Nat.blt pc 109 then (bif Nat.beq pc 107 then some (.bipush 59, 0) else none) else (bif Nat.beq pc 109 then some (.if_icmp .ne 7, 116) else none))) else (bif Nat.blt pc 116 then (bif Nat.blt pc 113 then (bif Nat.beq pc 112 then some (.iconst 1, 0) else none) else (bif Nat.beq pc 113 then some (.goto 4, 117) else none)) else (bif Nat.blt pc 117 then (bif Nat.beq pc 116 then some (.iconst 0, 0) else none) else (bif Nat.beq pc 117 then some (.ireturn, 0) else none))))))
def MX5_fits : MI := (yX5_fits, cX5_fits, 3, (some .boolean), 5, zTab 118 tX5_fits)
theorem kX5_fits : zTok MX5_fits := zTok_of 118 tX5_fits rfl (by decide +kernel)
theorem oX5_fits : zokM MX5_fits 1 = true := zokM_mk (z_in (List.mem_of_getElem? (i := 233) (by decide +kernel)) rfl) z_ini5 (by decide +kernel)
theorem iX5_fits : zokI MX5_fits = true := zokI_mk (z_in (List.mem_of_getElem? (i := 232) (by decide +kernel)) rfl) (z_in (List.mem_of_getElem? (i := 1) (by decide +kernel)) rfl)
def tX5_isEnded : Nat → Option (Instr × Nat) := fun pc => bif Nat.blt pc 18 then (bif Nat.blt pc 8 then (bif Nat.blt pc 4 then (bif Nat.blt pc 1 then (bif Nat.beq pc 0 then some (.aload_n 0, 0) else none) else (bif Nat.beq pc 1 then some (.getfield 9, 0) else none)) else (bif Nat.blt pc 7 then (bif Nat.beq pc 4 then some (.ifCond .eq 20, 24) else none) else (bif Nat.beq pc 7 then some (.aload_n 0, 0) else none))) else (bif Nat.blt pc 14 then (bif Nat.blt pc 11 then (bif Nat.beq pc 8 then some (.getfield 25, 0) else none) else (bif Nat.beq pc 11 then some (.ifCond .eq 13, 24) else none)) else (bif Nat.blt pc 15 then (bif Nat.beq pc 14 then some (.aload_n 0, 0) else none) else (bif Nat.beq pc 15 then some (.getfield 25, 0) else none)))) else (bif Nat.blt pc 24 then (bif Nat.blt pc 20 then (bif Nat.blt pc 19 then (bif Nat.beq pc 18 then some (.iconst 4, 0) else none) else (bif Nat.beq pc 19 then some (.irem, 0) else none)) else (bif Nat.blt pc 21 then (bif Nat.beq pc 20 then some (.iconst 3, 0) else none) else (bif Nat.beq pc 21 then some (.if_icmp .ne 7, 28) else none))) else (bif Nat.blt pc 28 then (bif Nat.blt pc 25 then (bif Nat.beq pc 24 then some (.iconst 1, 0) else none) else (bif Nat.beq pc 25 then some (.goto 4, 29) else none)) else (bif Nat.blt pc 29 then (bif Nat.beq pc 28 then some (.iconst 0, 0) else none) else (bif Nat.beq pc 29 then some (.ireturn, 0) else none))))
def MX5_isEnded : MI := (yX5_isEnded, cX5_isEnded, 1, (some .boolean), 5, zTab 30 tX5_isEnded)
theorem kX5_isEnded : zTok MX5_isEnded := zTok_of 30 tX5_isEnded rfl (by decide +kernel)
theorem oX5_isEnded : zokM MX5_isEnded 0 = true := zokM_mk (z_in (List.mem_of_getElem? (i := 247) (by decide +kernel)) rfl) z_ini5 (by decide +kernel)
theorem iX5_isEnded : zokI MX5_isEnded = true := zokI_mk (z_in (List.mem_of_getElem? (i := 246) (by decide +kernel)) rfl) (z_in (List.mem_of_getElem? (i := 2) (by decide +kernel)) rfl)
def tX5_sortBySign : Nat → Option (Instr × Nat) := fun pc => bif Nat.blt pc 39 then (bif Nat.blt pc 36 then (bif Nat.blt pc 1 then (bif Nat.beq pc 0 then some (.iload_n 0, 0) else none) else (bif Nat.beq pc 1 then some (.lookupswitch 41 #[(109, 39), (112, 35), (119, 37)], 35) else none)) else (bif Nat.blt pc 37 then (bif Nat.beq pc 36 then some (.iconst 0, 0) else none) else (bif Nat.blt pc 38 then (bif Nat.beq pc 37 then some (.ireturn, 0) else none) else (bif Nat.beq pc 38 then some (.iconst 1, 0) else none)))) else (bif Nat.blt pc 41 then (bif Nat.blt pc 40 then (bif Nat.beq pc 39 then some (.ireturn, 0) else none) else (bif Nat.beq pc 40 then some (.iconst 2, 0) else none)) else (bif Nat.blt pc 42 then (bif Nat.beq pc 41 then some (.ireturn, 0) else none) else (bif Nat.blt pc 43 then (bif Nat.beq pc 42 then some (.iconst (-1), 0) else none) else (bif Nat.beq pc 43 then some (.ireturn, 0) else none))))
def MX5_sortBySign : MI := (yX5_sortBySign, cX5_sortBySign, 1, (some .int), 5, zTab 44 tX5_sortBySign)
theorem kX5_sortBySign : zTok MX5_sortBySign := zTok_of 44 tX5_sortBySign rfl (by decide +kernel)
theorem oX5_sortBySign : zokM MX5_sortBySign 1 = true := zokM_mk (z_in (List.mem_of_getElem? (i := 243) (by decide +kernel)) rfl) z_ini5 (by decide +kernel)
theorem iX5_sortBySign : zokS MX5_sortBySign = true := zokS_mk (z_in (List.mem_of_getElem? (i := 242) (by decide +kernel)) rfl)
def tX5_openBySign : Nat → Option (Instr × Nat) := fun pc => bif Nat.blt pc 48 then (bif Nat.blt pc 45 then (bif Nat.blt pc 1 then (bif Nat.beq pc 0 then some (.iload_n 0, 0) else none) else (bif Nat.blt pc 44 then (bif Nat.beq pc 1 then some (.lookupswitch 51 #[(98, 47), (102, 45), (110, 43), (116, 49)], 43) else none) else (bif Nat.beq pc 44 then some (.iconst 0, 0) else none))) else (bif Nat.blt pc 46 then (bif Nat.beq pc 45 then some (.ireturn, 0) else none) else (bif Nat.blt pc 47 then (bif Nat.beq pc 46 then some (.iconst 1, 0) else none) else (bif Nat.beq pc 47 then some (.ireturn, 0) else none)))) else (bif Nat.blt pc 51 then (bif Nat.blt pc 49 then (bif Nat.beq pc 48 then some (.iconst 2, 0) else none) else (bif Nat.blt pc 50 then (bif Nat.beq pc 49 then some (.ireturn, 0) else none) else (bif Nat.beq pc 50 then some (.iconst 3, 0) else none))) else (bif Nat.blt pc 52 then (bif Nat.beq pc 51 then some (.ireturn, 0) else none) else (bif Nat.blt pc 53 then (bif Nat.beq pc 52 then some (.iconst (-1), 0) else none) else (bif Nat.beq pc 53 then some (.ireturn, 0) else none))))
def MX5_openBySign : MI := (yX5_openBySign, cX5_openBySign, 1, (some .int), 5, zTab 54 tX5_openBySign)
theorem kX5_openBySign : zTok MX5_openBySign := zTok_of 54 tX5_openBySign rfl (by decide +kernel)
theorem oX5_openBySign : zokM MX5_openBySign 1 = true := zokM_mk (z_in (List.mem_of_getElem? (i := 240) (by decide +kernel)) rfl) z_ini5 (by decide +kernel)
theorem iX5_openBySign : zokS MX5_openBySign = true := zokS_mk (z_in (List.mem_of_getElem? (i := 239) (by decide +kernel)) rfl)
def tJ6_bitCount_0f7a4 : Nat → Option (Instr × Nat) := fun pc => bif Nat.blt pc 27 then (bif Nat.blt pc 14 then (bif Nat.blt pc 7 then (bif Nat.blt pc 2 then (bif Nat.blt pc 1 then (bif Nat.beq pc 0 then some (.iload_n 0, 0) else none) else (bif Nat.beq pc 1 then some (.iload_n 0, 0) else none)) else (bif Nat.blt pc 3 then (bif Nat.beq pc 2 then some (.iconst 1, 0) else none) else (bif Nat.blt pc 4 then (bif Nat.beq pc 3 then some (.iushr, 0) else none) else (bif Nat.beq pc 4 then some (.ldc_w 265, 0) else none)))) else (bif Nat.blt pc 9 then (bif Nat.blt pc 8 then (bif Nat.beq pc 7 then some (.iand, 0) else none) else (bif Nat.beq pc 8 then some (.isub, 0) else none)) else (bif Nat.blt pc 10 then (bif Nat.beq pc 9 then some (.istore_n 0, 0) else none) else (bif Nat.blt pc 11 then (bif Nat.beq pc 10 then some (.iload_n 0, 0) else none) else (bif Nat.beq pc 11 then some (.ldc_w 266, 0) else none))))) else (bif Nat.blt pc 21 then (bif Nat.blt pc 16 then (bif Nat.blt pc 15 then (bif Nat.beq pc 14 then some (.iand, 0) else none) else (bif Nat.beq pc 15 then some (.iload_n 0, 0) else none)) else (bif Nat.blt pc 17 then (bif Nat.beq pc 16 then some (.iconst 2, 0) else none) else (bif Nat.blt pc 18 then (bif Nat.beq pc 17 then some (.iushr, 0) else none) else (bif Nat.beq pc 18 then some (.ldc_w 266, 0) else none)))) else (bif Nat.blt pc 24 then (bif Nat.blt pc 22 then (bif Nat.beq pc 21 then some (.iand, 0) else none) else (bif Nat.blt pc 23 then (bif Nat.beq pc 22 then some (.iadd, 0) else none) else (bif Nat.beq pc 23 then some (.istore_n 0, 0) else none))) else (bif Nat.blt pc 25 then (bif Nat.beq pc 24 then some (.iload_n 0, 0) else none) else (bif Nat.blt pc 26 then (bif Nat.beq pc 25 then some (.iload_n 0, 0) else none) else (bif Nat.beq pc 26 then some (.iconst 4, 0) else none)))))) else (bif Nat.blt pc 40 then (bif Nat.blt pc 34 then (bif Nat.blt pc 29 then (bif Nat.blt pc 28 then (bif Nat.beq pc 27 then some (.iushr, 0) else none) else (bif Nat.beq pc 28 then some (.iadd, 0) else none)) else (bif Nat.blt pc 32 then (bif Nat.beq pc 29 then some (.ldc_w 267, 0) else none) else (bif Nat.blt pc 33 then (bif Nat.beq pc 32 then some (.iand, 0) else none) else (bif Nat.beq pc 33 then some (.istore_n 0, 0) else none)))) else (bif Nat.blt pc 36 then (bif Nat.blt pc 35 then (bif Nat.beq pc 34 then some (.iload_n 0, 0) else none) else (bif Nat.beq pc 35 then some (.iload_n 0, 0) else none)) else (bif Nat.blt pc 38 then (bif Nat.beq pc 36 then some (.bipush 8, 0) else none) else (bif Nat.blt pc 39 then (bif Nat.beq pc 38 then some (.iushr, 0) else none) else (bif Nat.beq pc 39 then some (.iadd, 0) else none))))) else (bif Nat.blt pc 46 then (bif Nat.blt pc 42 then (bif Nat.blt pc 41 then (bif Nat.beq pc 40 then some (.istore_n 0, 0) else none) else (bif Nat.beq pc 41 then some (.iload_n 0, 0) else none)) else (bif Nat.blt pc 43 then (bif Nat.beq pc 42 then some (.iload_n 0, 0) else none) else (bif Nat.blt pc 45 then (bif Nat.beq pc 43 then some (.bipush 16, 0) else none) else (bif Nat.beq pc 45 then some (.iushr, 0) else none)))) else (bif Nat.blt pc 49 then (bif Nat.blt pc 47 then (bif Nat.beq pc 46 then some (.iadd, 0) else none) else (bif Nat.blt pc 48 then (bif Nat.beq pc 47 then some (.istore_n 0, 0) else none) else (bif Nat.beq pc 48 then some (.iload_n 0, 0) else none))) else (bif Nat.blt pc 51 then (bif Nat.beq pc 49 then some (.bipush 63, 0) else none) else (bif Nat.blt pc 52 then (bif Nat.beq pc 51 then some (.iand, 0) else none) else (bif Nat.beq pc 52 then some (.ireturn, 0) else none))))))
def MJ6_bitCount_0f7a4 : MI := (yJ6_bitCount_0f7a4, cJ6_bitCount_0f7a4, 1, (some .int), 8, zTab 53 tJ6_bitCount_0f7a4)
theorem kJ6_bitCount_0f7a4 : zTok MJ6_bitCount_0f7a4 := zTok_of 53 tJ6_bitCount_0f7a4 rfl (by decide +kernel)
theorem oJ6_bitCount_0f7a4 : zokM MJ6_bitCount_0f7a4 1 = true := zokM_mk (z_in (List.mem_of_getElem? (i := 614) (by decide +kernel)) rfl) z_ini8 (by decide +kernel)
theorem iJ6_bitCount_0f7a4 : zokS MJ6_bitCount_0f7a4 = true := zokS_mk (z_in (List.mem_of_getElem? (i := 613) (by decide +kernel)) rfl)
end
section
theorem z_ini6 : Cond.initialized (zown 6) ∈ z_tbl := (z_in (List.mem_of_getElem? (i := 76) (by decide +kernel)) rfl)
def tX6_type : Nat → Option (Instr × Nat) := fun pc => bif Nat.blt pc 23 then (bif Nat.blt pc 10 then (bif Nat.blt pc 5 then (bif Nat.blt pc 1 then (bif Nat.beq pc 0 then some (.aload_n 0, 0) else none) else (bif Nat.blt pc 2 then (bif Nat.beq pc 1 then some (.iload_n 1, 0) else none) else (bif Nat.beq pc 2 then some (.invokevirtual 66, 0) else none))) else (bif Nat.blt pc 6 then (bif Nat.beq pc 5 then some (.astore_n 3, 0) else none) else (bif Nat.blt pc 7 then (bif Nat.beq pc 6 then some (.aload_n 3, 0) else none) else (bif Nat.beq pc 7 then some (.ifnull 14, 21) else none)))) else (bif Nat.blt pc 15 then (bif Nat.blt pc 11 then (bif Nat.beq pc 10 then some (.iload_n 2, 0) else none) else (bif Nat.blt pc 14 then (bif Nat.beq pc 11 then some (.ifCond .lt 10, 21) else none) else (bif Nat.beq pc 14 then some (.iload_n 2, 0) else none))) else (bif Nat.blt pc 18 then (bif Nat.beq pc 15 then some (.sipush 255, 0) else none) else (bif Nat.blt pc 21 then (bif Nat.beq pc 18 then some (.if_icmp .le 6, 24) else none) else (bif Nat.beq pc 21 then some (.bipush (-2), 0) else none))))) else (bif Nat.blt pc 34 then (bif Nat.blt pc 26 then (bif Nat.blt pc 24 then (bif Nat.beq pc 23 then some (.ireturn, 0) else none) else (bif Nat.blt pc 25 then (bif Nat.beq pc 24 then some (.aload_n 3, 0) else none) else (bif Nat.beq pc 25 then some (.iload_n 2, 0) else none))) else (bif Nat.blt pc 29 then (bif Nat.beq pc 26 then some (.invokevirtual 70, 0) else none) else (bif Nat.blt pc 32 then (bif Nat.beq pc 29 then some (.ifCond .ne 6, 35) else none) else (bif Nat.beq pc 32 then some (.bipush (-4), 0) else none)))) else (bif Nat.blt pc 39 then (bif Nat.blt pc 35 then (bif Nat.beq pc 34 then some (.ireturn, 0) else none) else (bif Nat.blt pc 36 then (bif Nat.beq pc 35 then some (.aload_n 0, 0) else none) else (bif Nat.beq pc 36 then some (.invokevirtual 63, 0) else none))) else (bif Nat.blt pc 40 then (bif Nat.beq pc 39 then some (.aload_n 3, 0) else none) else (bif Nat.blt pc 43 then (bif Nat.beq pc 40 then some (.invokevirtual 74, 0) else none) else (bif Nat.beq pc 43 then some (.ireturn, 0) else none)))))
def MX6_type : MI := (yX6_type, cX6_type, 4, (some .int), 6, zTab 44 tX6_type)
theorem kX6_type : zTok MX6_type := zTok_of 44 tX6_type rfl (by decide +kernel)
theorem oX6_type : zokM MX6_type 2 = true := zokM_mk (z_in (List.mem_of_getElem? (i := 396) (by decide +kernel)) rfl) z_ini6 (by decide +kernel)
theorem iX6_type : zokI MX6_type = true := zokI_mk (z_in (List.mem_of_getElem? (i := 394) (by decide +kernel)) rfl) (z_in (List.mem_of_getElem? (i := 395) (by decide +kernel)) rfl)
def tX6_wipe : Nat → Option (Instr × Nat) := fun pc => bif Nat.blt pc 13 then (bif Nat.blt pc 6 then (bif Nat.blt pc 2 then (bif Nat.blt pc 1 then (bif Nat.beq pc 0 then some (.aload_n 0, 0) else none) else (bif Nat.beq pc 1 then some (.iload_n 1, 0) else none)) else (bif Nat.blt pc 5 then (bif Nat.beq pc 2 then some (.invokevirtual 66, 0) else none) else (bif Nat.beq pc 5 then some (.astore_n 2, 0) else none))) else (bif Nat.blt pc 10 then (bif Nat.blt pc 7 then (bif Nat.beq pc 6 then some (.aload_n 2, 0) else none) else (bif Nat.beq pc 7 then some (.ifnonnull 6, 13) else none)) else (bif Nat.blt pc 12 then (bif Nat.beq pc 10 then some (.bipush (-2), 0) else none) else (bif Nat.beq pc 12 then some (.ireturn, 0) else none)))) else (bif Nat.blt pc 19 then (bif Nat.blt pc 17 then (bif Nat.blt pc 14 then (bif Nat.beq pc 13 then some (.aload_n 2, 0) else none) else (bif Nat.beq pc 14 then some (.invokevirtual 74, 0) else none)) else (bif Nat.blt pc 18 then (bif Nat.beq pc 17 then some (.istore_n 3, 0) else none) else (bif Nat.beq pc 18 then some (.aload_n 2, 0) else none))) else (bif Nat.blt pc 23 then (bif Nat.blt pc 22 then (bif Nat.beq pc 19 then some (.invokevirtual 78, 0) else none) else (bif Nat.beq pc 22 then some (.aload_n 0, 0) else none)) else (bif Nat.blt pc 26 then (bif Nat.beq pc 23 then some (.invokevirtual 63, 0) else none) else (bif Nat.blt pc 27 then (bif Nat.beq pc 26 then some (.iload_n 3, 0) else none) else (bif Nat.beq pc 27 then some (.ireturn, 0) else none)))))
def MX6_wipe : MI := (yX6_wipe, cX6_wipe, 4, (some .int), 6, zTab 28 tX6_wipe)
theorem kX6_wipe : zTok MX6_wipe := zTok_of 28 tX6_wipe rfl (by decide +kernel)
theorem oX6_wipe : zokM MX6_wipe 1 = true := zokM_mk (z_in (List.mem_of_getElem? (i := 412) (by decide +kernel)) rfl) z_ini6 (by decide +kernel)
theorem iX6_wipe : zokI MX6_wipe = true := zokI_mk (z_in (List.mem_of_getElem? (i := 410) (by decide +kernel)) rfl) (z_in (List.mem_of_getElem? (i := 411) (by decide +kernel)) rfl)
def tX6_undo : Nat → Option (Instr × Nat) := fun pc => bif Nat.blt pc 14 then (bif Nat.blt pc 6 then (bif Nat.blt pc 2 then (bif Nat.blt pc 1 then (bif Nat.beq pc 0 then some (.aload_n 0, 0) else none) else (bif Nat.beq pc 1 then some (.iload_n 1, 0) else none)) else (bif Nat.blt pc 5 then (bif Nat.beq pc 2 then some (.invokevirtual 66, 0) else none) else (bif Nat.beq pc 5 then some (.astore_n 2, 0) else none))) else (bif Nat.blt pc 10 then (bif Nat.blt pc 7 then (bif Nat.beq pc 6 then some (.aload_n 2, 0) else none) else (bif Nat.beq pc 7 then some (.ifnonnull 6, 13) else none)) else (bif Nat.blt pc 12 then (bif Nat.beq pc 10 then some (.bipush (-2), 0) else none) else (bif Nat.blt pc 13 then (bif Nat.beq pc 12 then some (.ireturn, 0) else none) else (bif Nat.beq pc 13 then some (.aload_n 2, 0) else none))))) else (bif Nat.blt pc 23 then (bif Nat.blt pc 20 then (bif Nat.blt pc 17 then (bif Nat.beq pc 14 then some (.invokevirtual 81, 0) else none) else (bif Nat.beq pc 17 then some (.ifCond .ne 6, 23) else none)) else (bif Nat.blt pc 22 then (bif Nat.beq pc 20 then some (.bipush (-3), 0) else none) else (bif Nat.beq pc 22 then some (.ireturn, 0) else none))) else (bif Nat.blt pc 27 then (bif Nat.blt pc 24 then (bif Nat.beq pc 23 then some (.aload_n 0, 0) else none) else (bif Nat.beq pc 24 then some (.invokevirtual 63, 0) else none)) else (bif Nat.blt pc 28 then (bif Nat.beq pc 27 then some (.aload_n 2, 0) else none) else (bif Nat.blt pc 31 then (bif Nat.beq pc 28 then some (.invokevirtual 74, 0) else none) else (bif Nat.beq pc 31 then some (.ireturn, 0) else none)))))
def MX6_undo : MI := (yX6_undo, cX6_undo, 3, (some .int), 6, zTab 32 tX6_undo)
theorem kX6_undo : zTok MX6_undo := zTok_of 32 tX6_undo rfl (by decide +kernel)
theorem oX6_undo : zokM MX6_undo 1 = true := zokM_mk (z_in (List.mem_of_getElem? (i := 420) (by decide +kernel)) rfl) z_ini6 (by decide +kernel)
theorem iX6_undo : zokI MX6_undo = true := zokI_mk (z_in (List.mem_of_getElem? (i := 418) (by decide +kernel)) rfl) (z_in (List.mem_of_getElem? (i := 419) (by decide +kernel)) rfl)
def tX6_fault : Nat → Option (Instr × Nat) := fun pc => bif Nat.blt pc 7 then (bif Nat.blt pc 2 then (bif Nat.blt pc 1 then (bif Nat.beq pc 0 then some (.aload_n 0, 0) else none) else (bif Nat.beq pc 1 then some (.iload_n 1, 0) else none)) else (bif Nat.blt pc 5 then (bif Nat.beq pc 2 then some (.invokevirtual 66, 0) else none) else (bif Nat.blt pc 6 then (bif Nat.beq pc 5 then some (.astore_n 2, 0) else none) else (bif Nat.beq pc 6 then some (.aload_n 2, 0) else none)))) else (bif Nat.blt pc 15 then (bif Nat.blt pc 10 then (bif Nat.beq pc 7 then some (.ifnonnull 8, 15) else none) else (bif Nat.blt pc 12 then (bif Nat.beq pc 10 then some (.bipush (-2), 0) else none) else (bif Nat.beq pc 12 then some (.goto 7, 19) else none))) else (bif Nat.blt pc 16 then (bif Nat.beq pc 15 then some (.aload_n 2, 0) else none) else (bif Nat.blt pc 19 then (bif Nat.beq pc 16 then some (.invokevirtual 85, 0) else none) else (bif Nat.beq pc 19 then some (.ireturn, 0) else none))))
def MX6_fault : MI := (yX6_fault, cX6_fault, 3, (some .int), 6, zTab 20 tX6_fault)
theorem kX6_fault : zTok MX6_fault := zTok_of 20 tX6_fault rfl (by decide +kernel)
theorem oX6_fault : zokM MX6_fault 1 = true := zokM_mk (z_in (List.mem_of_getElem? (i := 428) (by decide +kernel)) rfl) z_ini6 (by decide +kernel)
theorem iX6_fault : zokI MX6_fault = true := zokI_mk (z_in (List.mem_of_getElem? (i := 426) (by decide +kernel)) rfl) (z_in (List.mem_of_getElem? (i := 427) (by decide +kernel)) rfl)
def tX6_person : Nat → Option (Instr × Nat) := fun pc => bif Nat.blt pc 28 then (bif Nat.blt pc 13 then (bif Nat.blt pc 5 then (bif Nat.blt pc 1 then (bif Nat.beq pc 0 then some (.aload_n 0, 0) else none) else (bif Nat.blt pc 2 then (bif Nat.beq pc 1 then some (.iload_n 1, 0) else none) else (bif Nat.beq pc 2 then some (.invokevirtual 88, 0) else none))) else (bif Nat.blt pc 9 then (bif Nat.blt pc 8 then (bif Nat.beq pc 5 then some (.ifCond .eq 11, 16) else none) else (bif Nat.beq pc 8 then some (.iload_n 2, 0) else none)) else (bif Nat.blt pc 10 then (bif Nat.beq pc 9 then some (.iconst 2, 0) else none) else (bif Nat.beq pc 10 then some (.invokestatic 91, 0) else none)))) else (bif Nat.blt pc 20 then (bif Nat.blt pc 18 then (bif Nat.blt pc 16 then (bif Nat.beq pc 13 then some (.ifCond .ne 6, 19) else none) else (bif Nat.beq pc 16 then some (.bipush (-2), 0) else none)) else (bif Nat.blt pc 19 then (bif Nat.beq pc 18 then some (.ireturn, 0) else none) else (bif Nat.beq pc 19 then some (.iload_n 2, 0) else none))) else (bif Nat.blt pc 24 then (bif Nat.blt pc 23 then (bif Nat.beq pc 20 then some (.ifCond .ne 12, 32) else none) else (bif Nat.beq pc 23 then some (.aload_n 0, 0) else none)) else (bif Nat.blt pc 27 then (bif Nat.beq pc 24 then some (.getfield 24, 0) else none) else (bif Nat.beq pc 27 then some (.iload_n 1, 0) else none))))) else (bif Nat.blt pc 41 then (bif Nat.blt pc 33 then (bif Nat.blt pc 31 then (bif Nat.beq pc 28 then some (.invokevirtual 95, 0) else none) else (bif Nat.blt pc 32 then (bif Nat.beq pc 31 then some (.ireturn, 0) else none) else (bif Nat.beq pc 32 then some (.iload_n 2, 0) else none))) else (bif Nat.blt pc 37 then (bif Nat.blt pc 34 then (bif Nat.beq pc 33 then some (.iconst 1, 0) else none) else (bif Nat.beq pc 34 then some (.if_icmp .ne 14, 48) else none)) else (bif Nat.blt pc 38 then (bif Nat.beq pc 37 then some (.aload_n 0, 0) else none) else (bif Nat.beq pc 38 then some (.getfield 24, 0) else none)))) else (bif Nat.blt pc 49 then (bif Nat.blt pc 45 then (bif Nat.blt pc 42 then (bif Nat.beq pc 41 then some (.iload_n 1, 0) else none) else (bif Nat.beq pc 42 then some (.invokevirtual 99, 0) else none)) else (bif Nat.blt pc 48 then (bif Nat.beq pc 45 then some (.goto 11, 56) else none) else (bif Nat.beq pc 48 then some (.aload_n 0, 0) else none))) else (bif Nat.blt pc 53 then (bif Nat.blt pc 52 then (bif Nat.beq pc 49 then some (.getfield 24, 0) else none) else (bif Nat.beq pc 52 then some (.iload_n 1, 0) else none)) else (bif Nat.blt pc 56 then (bif Nat.beq pc 53 then some (.invokevirtual 102, 0) else none) else (bif Nat.beq pc 56 then some (.ireturn, 0) else none)))))
def MX6_person : MI := (yX6_person, cX6_person, 3, (some .int), 6, zTab 57 tX6_person)
theorem kX6_person : zTok MX6_person := zTok_of 57 tX6_person rfl (by decide +kernel)
theorem oX6_person : zokM MX6_person 2 = true := zokM_mk (z_in (List.mem_of_getElem? (i := 433) (by decide +kernel)) rfl) z_ini6 (by decide +kernel)
theorem iX6_person : zokI MX6_person = true := zokI_mk (z_in (List.mem_of_getElem? (i := 431) (by decide +kernel)) rfl) (z_in (List.mem_of_getElem? (i := 432) (by decide +kernel)) rfl)
def tX6_window : Nat → Option (Instr × Nat) := fun pc => bif Nat.blt pc 11 then (bif Nat.blt pc 4 then (bif Nat.blt pc 1 then (bif Nat.beq pc 0 then some (.iload_n 1, 0) else none) else (bif Nat.beq pc 1 then some (.invokestatic 105, 0) else none)) else (bif Nat.blt pc 7 then (bif Nat.beq pc 4 then some (.ifCond .eq 14, 18) else none) else (bif Nat.blt pc 8 then (bif Nat.beq pc 7 then some (.aload_n 0, 0) else none) else (bif Nat.beq pc 8 then some (.getfield 24, 0) else none)))) else (bif Nat.blt pc 15 then (bif Nat.blt pc 12 then (bif Nat.beq pc 11 then some (.iload_n 1, 0) else none) else (bif Nat.beq pc 12 then some (.invokevirtual 108, 0) else none)) else (bif Nat.blt pc 18 then (bif Nat.beq pc 15 then some (.goto 5, 20) else none) else (bif Nat.blt pc 20 then (bif Nat.beq pc 18 then some (.bipush (-2), 0) else none) else (bif Nat.beq pc 20 then some (.ireturn, 0) else none))))
def MX6_window : MI := (yX6_window, cX6_window, 2, (some .int), 6, zTab 21 tX6_window)
theorem kX6_window : zTok MX6_window := zTok_of 21 tX6_window rfl (by decide +kernel)
theorem oX6_window : zokM MX6_window 1 = true := zokM_mk (z_in (List.mem_of_getElem? (i := 455) (by decide +kernel)) rfl) z_ini6 (by decide +kernel)
theorem iX6_window : zokI MX6_window = true := zokI_mk (z_in (List.mem_of_getElem? (i := 453) (by decide +kernel)) rfl) (z_in (List.mem_of_getElem? (i := 454) (by decide +kernel)) rfl)
def tX6_event : Nat → Option (Instr × Nat) := fun pc => bif Nat.blt pc 9 then (bif Nat.blt pc 3 then (bif Nat.blt pc 1 then (bif Nat.beq pc 0 then some (.aload_n 0, 0) else none) else (bif Nat.blt pc 2 then (bif Nat.beq pc 1 then some (.iload_n 1, 0) else none) else (bif Nat.beq pc 2 then some (.iload_n 2, 0) else none))) else (bif Nat.blt pc 4 then (bif Nat.beq pc 3 then some (.iload_n 3, 0) else none) else (bif Nat.blt pc 7 then (bif Nat.beq pc 4 then some (.invokevirtual 111, 0) else none) else (bif Nat.beq pc 7 then some (.istore 4, 0) else none)))) else (bif Nat.blt pc 15 then (bif Nat.blt pc 11 then (bif Nat.beq pc 9 then some (.iload 4, 0) else none) else (bif Nat.blt pc 14 then (bif Nat.beq pc 11 then some (.ifCond .lt 7, 18) else none) else (bif Nat.beq pc 14 then some (.aload_n 0, 0) else none))) else (bif Nat.blt pc 18 then (bif Nat.beq pc 15 then some (.invokevirtual 115, 0) else none) else (bif Nat.blt pc 20 then (bif Nat.beq pc 18 then some (.iload 4, 0) else none) else (bif Nat.beq pc 20 then some (.ireturn, 0) else none))))
def MX6_event : MI := (yX6_event, cX6_event, 5, (some .int), 6, zTab 21 tX6_event)
theorem kX6_event : zTok MX6_event := zTok_of 21 tX6_event rfl (by decide +kernel)
theorem oX6_event : zokM MX6_event 3 = true := zokM_mk (z_in (List.mem_of_getElem? (i := 463) (by decide +kernel)) rfl) z_ini6 (by decide +kernel)
theorem iX6_event : zokI MX6_event = true := zokI_mk (z_in (List.mem_of_getElem? (i := 461) (by decide +kernel)) rfl) (z_in (List.mem_of_getElem? (i := 462) (by decide +kernel)) rfl)
def tX6_back : Nat → Option (Instr × Nat) := fun pc => bif Nat.blt pc 13 then (bif Nat.blt pc 7 then (bif Nat.blt pc 1 then (bif Nat.beq pc 0 then some (.aload_n 0, 0) else none) else (bif Nat.blt pc 4 then (bif Nat.beq pc 1 then some (.getfield 24, 0) else none) else (bif Nat.beq pc 4 then some (.invokevirtual 118, 0) else none))) else (bif Nat.blt pc 10 then (bif Nat.beq pc 7 then some (.ifCond .ne 6, 13) else none) else (bif Nat.blt pc 12 then (bif Nat.beq pc 10 then some (.bipush (-3), 0) else none) else (bif Nat.beq pc 12 then some (.ireturn, 0) else none)))) else (bif Nat.blt pc 18 then (bif Nat.blt pc 14 then (bif Nat.beq pc 13 then some (.aload_n 0, 0) else none) else (bif Nat.blt pc 17 then (bif Nat.beq pc 14 then some (.invokevirtual 115, 0) else none) else (bif Nat.beq pc 17 then some (.aload_n 0, 0) else none))) else (bif Nat.blt pc 21 then (bif Nat.beq pc 18 then some (.getfield 24, 0) else none) else (bif Nat.blt pc 24 then (bif Nat.beq pc 21 then some (.invokevirtual 121, 0) else none) else (bif Nat.beq pc 24 then some (.ireturn, 0) else none))))
def MX6_back : MI := (yX6_back, cX6_back, 1, (some .int), 6, zTab 25 tX6_back)
theorem kX6_back : zTok MX6_back := zTok_of 25 tX6_back rfl (by decide +kernel)
theorem oX6_back : zokM MX6_back 0 = true := zokM_mk (z_in (List.mem_of_getElem? (i := 476) (by decide +kernel)) rfl) z_ini6 (by decide +kernel)
theorem iX6_back : zokI MX6_back = true := zokI_mk (z_in (List.mem_of_getElem? (i := 474) (by decide +kernel)) rfl) (z_in (List.mem_of_getElem? (i := 475) (by decide +kernel)) rfl)
def tX6_read : Nat → Option (Instr × Nat) := fun pc => bif Nat.blt pc 39 then (bif Nat.blt pc 21 then (bif Nat.blt pc 10 then (bif Nat.blt pc 5 then (bif Nat.blt pc 1 then (bif Nat.beq pc 0 then some (.aload_n 0, 0) else none) else (bif Nat.blt pc 2 then (bif Nat.beq pc 1 then some (.iload_n 1, 0) else none) else (bif Nat.beq pc 2 then some (.invokevirtual 124, 0) else none))) else (bif Nat.blt pc 6 then (bif Nat.beq pc 5 then some (.astore_n 2, 0) else none) else (bif Nat.blt pc 7 then (bif Nat.beq pc 6 then some (.aload_n 2, 0) else none) else (bif Nat.beq pc 7 then some (.ifnonnull 6, 13) else none)))) else (bif Nat.blt pc 14 then (bif Nat.blt pc 12 then (bif Nat.beq pc 10 then some (.bipush (-2), 0) else none) else (bif Nat.blt pc 13 then (bif Nat.beq pc 12 then some (.ireturn, 0) else none) else (bif Nat.beq pc 13 then some (.aload_n 2, 0) else none))) else (bif Nat.blt pc 17 then (bif Nat.beq pc 14 then some (.invokevirtual 128, 0) else none) else (bif Nat.blt pc 20 then (bif Nat.beq pc 17 then some (.ifCond .eq 9, 26) else none) else (bif Nat.beq pc 20 then some (.aload_n 0, 0) else none))))) else (bif Nat.blt pc 29 then (bif Nat.blt pc 26 then (bif Nat.blt pc 22 then (bif Nat.beq pc 21 then some (.iconst 1, 0) else none) else (bif Nat.blt pc 25 then (bif Nat.beq pc 22 then some (.invokevirtual 131, 0) else none) else (bif Nat.beq pc 25 then some (.ireturn, 0) else none))) else (bif Nat.blt pc 27 then (bif Nat.beq pc 26 then some (.iconst 0, 0) else none) else (bif Nat.blt pc 28 then (bif Nat.beq pc 27 then some (.istore_n 3, 0) else none) else (bif Nat.beq pc 28 then some (.iconst 0, 0) else none)))) else (bif Nat.blt pc 34 then (bif Nat.blt pc 31 then (bif Nat.beq pc 29 then some (.istore 4, 0) else none) else (bif Nat.blt pc 33 then (bif Nat.beq pc 31 then some (.iload 4, 0) else none) else (bif Nat.beq pc 33 then some (.iconst 2, 0) else none))) else (bif Nat.blt pc 35 then (bif Nat.beq pc 34 then some (.iadd, 0) else none) else (bif Nat.blt pc 36 then (bif Nat.beq pc 35 then some (.aload_n 2, 0) else none) else (bif Nat.beq pc 36 then some (.invokevirtual 134, 0) else none)))))) else (bif Nat.blt pc 60 then (bif Nat.blt pc 50 then (bif Nat.blt pc 44 then (bif Nat.blt pc 42 then (bif Nat.beq pc 39 then some (.if_icmp .ge 44, 83) else none) else (bif Nat.blt pc 43 then (bif Nat.beq pc 42 then some (.aload_n 0, 0) else none) else (bif Nat.beq pc 43 then some (.aload_n 2, 0) else none))) else (bif Nat.blt pc 46 then (bif Nat.beq pc 44 then some (.iload 4, 0) else none) else (bif Nat.blt pc 49 then (bif Nat.beq pc 46 then some (.invokevirtual 135, 0) else none) else (bif Nat.beq pc 49 then some (.aload_n 2, 0) else none)))) else (bif Nat.blt pc 54 then (bif Nat.blt pc 52 then (bif Nat.beq pc 50 then some (.iload 4, 0) else none) else (bif Nat.blt pc 53 then (bif Nat.beq pc 52 then some (.iconst 1, 0) else none) else (bif Nat.beq pc 53 then some (.iadd, 0) else none))) else (bif Nat.blt pc 57 then (bif Nat.beq pc 54 then some (.invokevirtual 135, 0) else none) else (bif Nat.blt pc 58 then (bif Nat.beq pc 57 then some (.aload_n 2, 0) else none) else (bif Nat.beq pc 58 then some (.iload 4, 0) else none))))) else (bif Nat.blt pc 74 then (bif Nat.blt pc 65 then (bif Nat.blt pc 61 then (bif Nat.beq pc 60 then some (.iconst 2, 0) else none) else (bif Nat.blt pc 62 then (bif Nat.beq pc 61 then some (.iadd, 0) else none) else (bif Nat.beq pc 62 then some (.invokevirtual 135, 0) else none))) else (bif Nat.blt pc 68 then (bif Nat.beq pc 65 then some (.invokevirtual 111, 0) else none) else (bif Nat.blt pc 71 then (bif Nat.beq pc 68 then some (.ifCond .ge 6, 74) else none) else (bif Nat.beq pc 71 then some (.goto 12, 83) else none)))) else (bif Nat.blt pc 83 then (bif Nat.blt pc 77 then (bif Nat.beq pc 74 then some (.iinc 3 1, 0) else none) else (bif Nat.blt pc 80 then (bif Nat.beq pc 77 then some (.iinc 4 3, 0) else none) else (bif Nat.beq pc 80 then some (.goto (-49), 31) else none))) else (bif Nat.blt pc 87 then (bif Nat.blt pc 84 then (bif Nat.beq pc 83 then some (.aload_n 0, 0) else none) else (bif Nat.beq pc 84 then some (.invokevirtual 115, 0) else none)) else (bif Nat.blt pc 88 then (bif Nat.beq pc 87 then some (.iload_n 3, 0) else none) else (bif Nat.beq pc 88 then some (.ireturn, 0) else none))))))
def MX6_read : MI := (yX6_read, cX6_read, 5, (some .int), 6, zTab 89 tX6_read)
theorem kX6_read : zTok MX6_read := zTok_of 89 tX6_read rfl (by decide +kernel)
theorem oX6_read : zokM MX6_read 1 = true := zokM_mk (z_in (List.mem_of_getElem? (i := 484) (by decide +kernel)) rfl) z_ini6 (by decide +kernel)
theorem iX6_read : zokI MX6_read = true := zokI_mk (z_in (List.mem_of_getElem? (i := 482) (by decide +kernel)) rfl) (z_in (List.mem_of_getElem? (i := 483) (by decide +kernel)) rfl)
def tX6_stands : Nat → Option (Instr × Nat) := fun pc => bif Nat.blt pc 16 then (bif Nat.blt pc 7 then (bif Nat.blt pc 1 then (bif Nat.beq pc 0 then some (.iload_n 1, 0) else none) else (bif Nat.blt pc 4 then (bif Nat.beq pc 1 then some (.invokestatic 105, 0) else none) else (bif Nat.beq pc 4 then some (.ifCond .eq 24, 28) else none))) else (bif Nat.blt pc 10 then (bif Nat.blt pc 8 then (bif Nat.beq pc 7 then some (.iload_n 2, 0) else none) else (bif Nat.beq pc 8 then some (.bipush 11, 0) else none)) else (bif Nat.blt pc 13 then (bif Nat.beq pc 10 then some (.invokestatic 91, 0) else none) else (bif Nat.beq pc 13 then some (.ifCond .eq 15, 28) else none)))) else (bif Nat.blt pc 22 then (bif Nat.blt pc 20 then (bif Nat.blt pc 17 then (bif Nat.beq pc 16 then some (.aload_n 0, 0) else none) else (bif Nat.beq pc 17 then some (.getfield 31, 0) else none)) else (bif Nat.blt pc 21 then (bif Nat.beq pc 20 then some (.iload_n 1, 0) else none) else (bif Nat.beq pc 21 then some (.iload_n 2, 0) else none))) else (bif Nat.blt pc 28 then (bif Nat.blt pc 25 then (bif Nat.beq pc 22 then some (.invokevirtual 138, 0) else none) else (bif Nat.beq pc 25 then some (.goto 5, 30) else none)) else (bif Nat.blt pc 30 then (bif Nat.beq pc 28 then some (.bipush (-2), 0) else none) else (bif Nat.beq pc 30 then some (.ireturn, 0) else none))))
def MX6_stands : MI := (yX6_stands, cX6_stands, 3, (some .int), 6, zTab 31 tX6_stands)
theorem kX6_stands : zTok MX6_stands := zTok_of 31 tX6_stands rfl (by decide +kernel)
theorem oX6_stands : zokM MX6_stands 2 = true := zokM_mk (z_in (List.mem_of_getElem? (i := 508) (by decide +kernel)) rfl) z_ini6 (by decide +kernel)
theorem iX6_stands : zokI MX6_stands = true := zokI_mk (z_in (List.mem_of_getElem? (i := 506) (by decide +kernel)) rfl) (z_in (List.mem_of_getElem? (i := 507) (by decide +kernel)) rfl)
def tX6_many : Nat → Option (Instr × Nat) := fun pc => bif Nat.blt pc 11 then (bif Nat.blt pc 4 then (bif Nat.blt pc 1 then (bif Nat.beq pc 0 then some (.iload_n 1, 0) else none) else (bif Nat.beq pc 1 then some (.invokestatic 105, 0) else none)) else (bif Nat.blt pc 7 then (bif Nat.beq pc 4 then some (.ifCond .eq 14, 18) else none) else (bif Nat.blt pc 8 then (bif Nat.beq pc 7 then some (.aload_n 0, 0) else none) else (bif Nat.beq pc 8 then some (.getfield 31, 0) else none)))) else (bif Nat.blt pc 15 then (bif Nat.blt pc 12 then (bif Nat.beq pc 11 then some (.iload_n 1, 0) else none) else (bif Nat.beq pc 12 then some (.invokevirtual 142, 0) else none)) else (bif Nat.blt pc 18 then (bif Nat.beq pc 15 then some (.goto 5, 20) else none) else (bif Nat.blt pc 20 then (bif Nat.beq pc 18 then some (.bipush (-2), 0) else none) else (bif Nat.beq pc 20 then some (.ireturn, 0) else none))))
def MX6_many : MI := (yX6_many, cX6_many, 2, (some .int), 6, zTab 21 tX6_many)
theorem kX6_many : zTok MX6_many := zTok_of 21 tX6_many rfl (by decide +kernel)
theorem oX6_many : zokM MX6_many 1 = true := zokM_mk (z_in (List.mem_of_getElem? (i := 520) (by decide +kernel)) rfl) z_ini6 (by decide +kernel)
theorem iX6_many : zokI MX6_many = true := zokI_mk (z_in (List.mem_of_getElem? (i := 518) (by decide +kernel)) rfl) (z_in (List.mem_of_getElem? (i := 519) (by decide +kernel)) rfl)
def tX6_at : Nat → Option (Instr × Nat) := fun pc => bif Nat.blt pc 35 then (bif Nat.blt pc 17 then (bif Nat.blt pc 8 then (bif Nat.blt pc 4 then (bif Nat.blt pc 1 then (bif Nat.beq pc 0 then some (.iload_n 1, 0) else none) else (bif Nat.beq pc 1 then some (.invokestatic 105, 0) else none)) else (bif Nat.blt pc 7 then (bif Nat.beq pc 4 then some (.ifCond .eq 19, 23) else none) else (bif Nat.beq pc 7 then some (.aload_n 0, 0) else none))) else (bif Nat.blt pc 12 then (bif Nat.blt pc 9 then (bif Nat.beq pc 8 then some (.iload_n 2, 0) else none) else (bif Nat.beq pc 9 then some (.invokevirtual 88, 0) else none)) else (bif Nat.blt pc 15 then (bif Nat.beq pc 12 then some (.ifCond .eq 11, 23) else none) else (bif Nat.blt pc 16 then (bif Nat.beq pc 15 then some (.iload_n 3, 0) else none) else (bif Nat.beq pc 16 then some (.iconst 2, 0) else none))))) else (bif Nat.blt pc 26 then (bif Nat.blt pc 23 then (bif Nat.blt pc 20 then (bif Nat.beq pc 17 then some (.invokestatic 91, 0) else none) else (bif Nat.beq pc 20 then some (.ifCond .ne 6, 26) else none)) else (bif Nat.blt pc 25 then (bif Nat.beq pc 23 then some (.bipush (-2), 0) else none) else (bif Nat.beq pc 25 then some (.ireturn, 0) else none))) else (bif Nat.blt pc 28 then (bif Nat.blt pc 27 then (bif Nat.beq pc 26 then some (.iload_n 3, 0) else none) else (bif Nat.beq pc 27 then some (.iconst 1, 0) else none)) else (bif Nat.blt pc 31 then (bif Nat.beq pc 28 then some (.if_icmp .ne 13, 41) else none) else (bif Nat.blt pc 32 then (bif Nat.beq pc 31 then some (.aload_n 0, 0) else none) else (bif Nat.beq pc 32 then some (.getfield 31, 0) else none)))))) else (bif Nat.blt pc 50 then (bif Nat.blt pc 41 then (bif Nat.blt pc 37 then (bif Nat.blt pc 36 then (bif Nat.beq pc 35 then some (.iload_n 1, 0) else none) else (bif Nat.beq pc 36 then some (.iload_n 2, 0) else none)) else (bif Nat.blt pc 40 then (bif Nat.beq pc 37 then some (.invokevirtual 145, 0) else none) else (bif Nat.beq pc 40 then some (.ireturn, 0) else none))) else (bif Nat.blt pc 43 then (bif Nat.blt pc 42 then (bif Nat.beq pc 41 then some (.iload_n 3, 0) else none) else (bif Nat.beq pc 42 then some (.iconst 2, 0) else none)) else (bif Nat.blt pc 46 then (bif Nat.beq pc 43 then some (.if_icmp .ne 15, 58) else none) else (bif Nat.blt pc 47 then (bif Nat.beq pc 46 then some (.aload_n 0, 0) else none) else (bif Nat.beq pc 47 then some (.getfield 31, 0) else none))))) else (bif Nat.blt pc 58 then (bif Nat.blt pc 52 then (bif Nat.blt pc 51 then (bif Nat.beq pc 50 then some (.iload_n 1, 0) else none) else (bif Nat.beq pc 51 then some (.iload_n 2, 0) else none)) else (bif Nat.blt pc 55 then (bif Nat.beq pc 52 then some (.invokevirtual 148, 0) else none) else (bif Nat.beq pc 55 then some (.goto 9, 64) else none))) else (bif Nat.blt pc 60 then (bif Nat.blt pc 59 then (bif Nat.beq pc 58 then some (.aload_n 0, 0) else none) else (bif Nat.beq pc 59 then some (.iload_n 1, 0) else none)) else (bif Nat.blt pc 61 then (bif Nat.beq pc 60 then some (.iload_n 2, 0) else none) else (bif Nat.blt pc 64 then (bif Nat.beq pc 61 then some (.invokevirtual 151, 0) else none) else (bif Nat.beq pc 64 then some (.ireturn, 0) else none))))))
def MX6_at : MI := (yX6_at, cX6_at, 4, (some .int), 6, zTab 65 tX6_at)
theorem kX6_at : zTok MX6_at := zTok_of 65 tX6_at rfl (by decide +kernel)
theorem oX6_at : zokM MX6_at 3 = true := zokM_mk (z_in (List.mem_of_getElem? (i := 528) (by decide +kernel)) rfl) z_ini6 (by decide +kernel)
theorem iX6_at : zokI MX6_at = true := zokI_mk (z_in (List.mem_of_getElem? (i := 526) (by decide +kernel)) rfl) (z_in (List.mem_of_getElem? (i := 527) (by decide +kernel)) rfl)
def tX6_apart : Nat → Option (Instr × Nat) := fun pc => bif Nat.blt pc 40 then (bif Nat.blt pc 20 then (bif Nat.blt pc 9 then (bif Nat.blt pc 4 then (bif Nat.blt pc 1 then (bif Nat.beq pc 0 then some (.iload_n 1, 0) else none) else (bif Nat.beq pc 1 then some (.invokestatic 105, 0) else none)) else (bif Nat.blt pc 7 then (bif Nat.beq pc 4 then some (.ifCond .eq 24, 28) else none) else (bif Nat.blt pc 8 then (bif Nat.beq pc 7 then some (.aload_n 0, 0) else none) else (bif Nat.beq pc 8 then some (.iload_n 2, 0) else none)))) else (bif Nat.blt pc 15 then (bif Nat.blt pc 12 then (bif Nat.beq pc 9 then some (.invokevirtual 88, 0) else none) else (bif Nat.beq pc 12 then some (.ifCond .eq 16, 28) else none)) else (bif Nat.blt pc 16 then (bif Nat.beq pc 15 then some (.aload_n 0, 0) else none) else (bif Nat.blt pc 17 then (bif Nat.beq pc 16 then some (.iload_n 3, 0) else none) else (bif Nat.beq pc 17 then some (.invokevirtual 88, 0) else none))))) else (bif Nat.blt pc 30 then (bif Nat.blt pc 24 then (bif Nat.blt pc 23 then (bif Nat.beq pc 20 then some (.ifCond .eq 8, 28) else none) else (bif Nat.beq pc 23 then some (.iload_n 2, 0) else none)) else (bif Nat.blt pc 25 then (bif Nat.beq pc 24 then some (.iload_n 3, 0) else none) else (bif Nat.blt pc 28 then (bif Nat.beq pc 25 then some (.if_icmp .ne 6, 31) else none) else (bif Nat.beq pc 28 then some (.bipush (-2), 0) else none)))) else (bif Nat.blt pc 35 then (bif Nat.blt pc 31 then (bif Nat.beq pc 30 then some (.ireturn, 0) else none) else (bif Nat.blt pc 32 then (bif Nat.beq pc 31 then some (.aload_n 0, 0) else none) else (bif Nat.beq pc 32 then some (.getfield 31, 0) else none))) else (bif Nat.blt pc 36 then (bif Nat.beq pc 35 then some (.iload_n 1, 0) else none) else (bif Nat.blt pc 37 then (bif Nat.beq pc 36 then some (.iload_n 2, 0) else none) else (bif Nat.beq pc 37 then some (.invokevirtual 145, 0) else none)))))) else (bif Nat.blt pc 61 then (bif Nat.blt pc 48 then (bif Nat.blt pc 43 then (bif Nat.blt pc 42 then (bif Nat.beq pc 40 then some (.istore 4, 0) else none) else (bif Nat.beq pc 42 then some (.aload_n 0, 0) else none)) else (bif Nat.blt pc 46 then (bif Nat.beq pc 43 then some (.getfield 31, 0) else none) else (bif Nat.blt pc 47 then (bif Nat.beq pc 46 then some (.iload_n 1, 0) else none) else (bif Nat.beq pc 47 then some (.iload_n 3, 0) else none)))) else (bif Nat.blt pc 55 then (bif Nat.blt pc 51 then (bif Nat.beq pc 48 then some (.invokevirtual 145, 0) else none) else (bif Nat.blt pc 53 then (bif Nat.beq pc 51 then some (.istore 5, 0) else none) else (bif Nat.beq pc 53 then some (.iload 4, 0) else none))) else (bif Nat.blt pc 56 then (bif Nat.beq pc 55 then some (.iconst (-1), 0) else none) else (bif Nat.blt pc 59 then (bif Nat.beq pc 56 then some (.if_icmp .eq 9, 65) else none) else (bif Nat.beq pc 59 then some (.iload 5, 0) else none))))) else (bif Nat.blt pc 71 then (bif Nat.blt pc 65 then (bif Nat.blt pc 62 then (bif Nat.beq pc 61 then some (.iconst (-1), 0) else none) else (bif Nat.beq pc 62 then some (.if_icmp .ne 7, 69) else none)) else (bif Nat.blt pc 66 then (bif Nat.beq pc 65 then some (.iconst (-1), 0) else none) else (bif Nat.blt pc 69 then (bif Nat.beq pc 66 then some (.goto 13, 79) else none) else (bif Nat.beq pc 69 then some (.iload 4, 0) else none)))) else (bif Nat.blt pc 77 then (bif Nat.blt pc 73 then (bif Nat.beq pc 71 then some (.iload 5, 0) else none) else (bif Nat.blt pc 74 then (bif Nat.beq pc 73 then some (.isub, 0) else none) else (bif Nat.beq pc 74 then some (.invokestatic 154, 0) else none))) else (bif Nat.blt pc 78 then (bif Nat.beq pc 77 then some (.iconst 1, 0) else none) else (bif Nat.blt pc 79 then (bif Nat.beq pc 78 then some (.isub, 0) else none) else (bif Nat.beq pc 79 then some (.ireturn, 0) else none))))))
def MX6_apart : MI := (yX6_apart, cX6_apart, 6, (some .int), 6, zTab 80 tX6_apart)
theorem kX6_apart : zTok MX6_apart := zTok_of 80 tX6_apart rfl (by decide +kernel)
theorem oX6_apart : zokM MX6_apart 3 = true := zokM_mk (z_in (List.mem_of_getElem? (i := 544) (by decide +kernel)) rfl) z_ini6 (by decide +kernel)
theorem iX6_apart : zokI MX6_apart = true := zokI_mk (z_in (List.mem_of_getElem? (i := 542) (by decide +kernel)) rfl) (z_in (List.mem_of_getElem? (i := 543) (by decide +kernel)) rfl)
def tX6_done : Nat → Option (Instr × Nat) := fun pc => bif Nat.blt pc 28 then (bif Nat.blt pc 13 then (bif Nat.blt pc 5 then (bif Nat.blt pc 1 then (bif Nat.beq pc 0 then some (.aload_n 0, 0) else none) else (bif Nat.blt pc 2 then (bif Nat.beq pc 1 then some (.iload_n 1, 0) else none) else (bif Nat.beq pc 2 then some (.invokevirtual 88, 0) else none))) else (bif Nat.blt pc 9 then (bif Nat.blt pc 8 then (bif Nat.beq pc 5 then some (.ifCond .eq 11, 16) else none) else (bif Nat.beq pc 8 then some (.iload_n 2, 0) else none)) else (bif Nat.blt pc 10 then (bif Nat.beq pc 9 then some (.iconst 2, 0) else none) else (bif Nat.beq pc 10 then some (.invokestatic 91, 0) else none)))) else (bif Nat.blt pc 20 then (bif Nat.blt pc 18 then (bif Nat.blt pc 16 then (bif Nat.beq pc 13 then some (.ifCond .ne 6, 19) else none) else (bif Nat.beq pc 16 then some (.bipush (-2), 0) else none)) else (bif Nat.blt pc 19 then (bif Nat.beq pc 18 then some (.ireturn, 0) else none) else (bif Nat.beq pc 19 then some (.iload_n 2, 0) else none))) else (bif Nat.blt pc 24 then (bif Nat.blt pc 23 then (bif Nat.beq pc 20 then some (.ifCond .ne 12, 32) else none) else (bif Nat.beq pc 23 then some (.aload_n 0, 0) else none)) else (bif Nat.blt pc 27 then (bif Nat.beq pc 24 then some (.getfield 31, 0) else none) else (bif Nat.beq pc 27 then some (.iload_n 1, 0) else none))))) else (bif Nat.blt pc 41 then (bif Nat.blt pc 33 then (bif Nat.blt pc 31 then (bif Nat.beq pc 28 then some (.invokevirtual 159, 0) else none) else (bif Nat.blt pc 32 then (bif Nat.beq pc 31 then some (.ireturn, 0) else none) else (bif Nat.beq pc 32 then some (.iload_n 2, 0) else none))) else (bif Nat.blt pc 37 then (bif Nat.blt pc 34 then (bif Nat.beq pc 33 then some (.iconst 1, 0) else none) else (bif Nat.beq pc 34 then some (.if_icmp .ne 14, 48) else none)) else (bif Nat.blt pc 38 then (bif Nat.beq pc 37 then some (.aload_n 0, 0) else none) else (bif Nat.beq pc 38 then some (.getfield 31, 0) else none)))) else (bif Nat.blt pc 49 then (bif Nat.blt pc 45 then (bif Nat.blt pc 42 then (bif Nat.beq pc 41 then some (.iload_n 1, 0) else none) else (bif Nat.beq pc 42 then some (.invokevirtual 162, 0) else none)) else (bif Nat.blt pc 48 then (bif Nat.beq pc 45 then some (.goto 11, 56) else none) else (bif Nat.beq pc 48 then some (.aload_n 0, 0) else none))) else (bif Nat.blt pc 53 then (bif Nat.blt pc 52 then (bif Nat.beq pc 49 then some (.getfield 31, 0) else none) else (bif Nat.beq pc 52 then some (.iload_n 1, 0) else none)) else (bif Nat.blt pc 56 then (bif Nat.beq pc 53 then some (.invokevirtual 165, 0) else none) else (bif Nat.beq pc 56 then some (.ireturn, 0) else none)))))
def MX6_done : MI := (yX6_done, cX6_done, 3, (some .int), 6, zTab 57 tX6_done)
theorem kX6_done : zTok MX6_done := zTok_of 57 tX6_done rfl (by decide +kernel)
theorem oX6_done : zokM MX6_done 2 = true := zokM_mk (z_in (List.mem_of_getElem? (i := 551) (by decide +kernel)) rfl) z_ini6 (by decide +kernel)
theorem iX6_done : zokI MX6_done = true := zokI_mk (z_in (List.mem_of_getElem? (i := 549) (by decide +kernel)) rfl) (z_in (List.mem_of_getElem? (i := 550) (by decide +kernel)) rfl)
def tX6_alfred : Nat → Option (Instr × Nat) := fun pc => bif Nat.blt pc 34 then (bif Nat.blt pc 14 then (bif Nat.blt pc 8 then (bif Nat.blt pc 2 then (bif Nat.blt pc 1 then (bif Nat.beq pc 0 then some (.iload_n 1, 0) else none) else (bif Nat.beq pc 1 then some (.iconst 1, 0) else none)) else (bif Nat.blt pc 5 then (bif Nat.beq pc 2 then some (.invokestatic 91, 0) else none) else (bif Nat.beq pc 5 then some (.ifCond .ne 6, 11) else none))) else (bif Nat.blt pc 11 then (bif Nat.blt pc 10 then (bif Nat.beq pc 8 then some (.bipush (-2), 0) else none) else (bif Nat.beq pc 10 then some (.ireturn, 0) else none)) else (bif Nat.blt pc 12 then (bif Nat.beq pc 11 then some (.iconst (-1), 0) else none) else (bif Nat.blt pc 13 then (bif Nat.beq pc 12 then some (.istore_n 2, 0) else none) else (bif Nat.beq pc 13 then some (.iconst (-1), 0) else none))))) else (bif Nat.blt pc 21 then (bif Nat.blt pc 16 then (bif Nat.blt pc 15 then (bif Nat.beq pc 14 then some (.istore_n 3, 0) else none) else (bif Nat.beq pc 15 then some (.iconst 0, 0) else none)) else (bif Nat.blt pc 18 then (bif Nat.beq pc 16 then some (.istore 4, 0) else none) else (bif Nat.blt pc 20 then (bif Nat.beq pc 18 then some (.iload 4, 0) else none) else (bif Nat.beq pc 20 then some (.aload_n 0, 0) else none)))) else (bif Nat.blt pc 27 then (bif Nat.blt pc 24 then (bif Nat.beq pc 21 then some (.getfield 24, 0) else none) else (bif Nat.beq pc 24 then some (.invokevirtual 168, 0) else none)) else (bif Nat.blt pc 30 then (bif Nat.beq pc 27 then some (.if_icmp .ge 37, 64) else none) else (bif Nat.blt pc 31 then (bif Nat.beq pc 30 then some (.aload_n 0, 0) else none) else (bif Nat.beq pc 31 then some (.getfield 31, 0) else none)))))) else (bif Nat.blt pc 55 then (bif Nat.blt pc 46 then (bif Nat.blt pc 39 then (bif Nat.blt pc 36 then (bif Nat.beq pc 34 then some (.iload 4, 0) else none) else (bif Nat.beq pc 36 then some (.invokevirtual 171, 0) else none)) else (bif Nat.blt pc 41 then (bif Nat.beq pc 39 then some (.istore 5, 0) else none) else (bif Nat.blt pc 43 then (bif Nat.beq pc 41 then some (.iload 5, 0) else none) else (bif Nat.beq pc 43 then some (.ifCond .le 15, 58) else none)))) else (bif Nat.blt pc 49 then (bif Nat.blt pc 48 then (bif Nat.beq pc 46 then some (.iload 5, 0) else none) else (bif Nat.beq pc 48 then some (.iload_n 3, 0) else none)) else (bif Nat.blt pc 52 then (bif Nat.beq pc 49 then some (.if_icmp .le 9, 58) else none) else (bif Nat.blt pc 54 then (bif Nat.beq pc 52 then some (.iload 4, 0) else none) else (bif Nat.beq pc 54 then some (.istore_n 2, 0) else none))))) else (bif Nat.blt pc 65 then (bif Nat.blt pc 58 then (bif Nat.blt pc 57 then (bif Nat.beq pc 55 then some (.iload 5, 0) else none) else (bif Nat.beq pc 57 then some (.istore_n 3, 0) else none)) else (bif Nat.blt pc 61 then (bif Nat.beq pc 58 then some (.iinc 4 1, 0) else none) else (bif Nat.blt pc 64 then (bif Nat.beq pc 61 then some (.goto (-43), 18) else none) else (bif Nat.beq pc 64 then some (.iload_n 1, 0) else none)))) else (bif Nat.blt pc 69 then (bif Nat.blt pc 68 then (bif Nat.beq pc 65 then some (.ifCond .ne 7, 72) else none) else (bif Nat.beq pc 68 then some (.iload_n 2, 0) else none)) else (bif Nat.blt pc 72 then (bif Nat.beq pc 69 then some (.goto 4, 73) else none) else (bif Nat.blt pc 73 then (bif Nat.beq pc 72 then some (.iload_n 3, 0) else none) else (bif Nat.beq pc 73 then some (.ireturn, 0) else none))))))
def MX6_alfred : MI := (yX6_alfred, cX6_alfred, 6, (some .int), 6, zTab 74 tX6_alfred)
theorem kX6_alfred : zTok MX6_alfred := zTok_of 74 tX6_alfred rfl (by decide +kernel)
theorem oX6_alfred : zokM MX6_alfred 1 = true := zokM_mk (z_in (List.mem_of_getElem? (i := 569) (by decide +kernel)) rfl) z_ini6 (by decide +kernel)
theorem iX6_alfred : zokI MX6_alfred = true := zokI_mk (z_in (List.mem_of_getElem? (i := 567) (by decide +kernel)) rfl) (z_in (List.mem_of_getElem? (i := 568) (by decide +kernel)) rfl)
def tX6_kettle : Nat → Option (Instr × Nat) := fun pc => bif Nat.blt pc 22 then (bif Nat.blt pc 6 then (bif Nat.blt pc 3 then (bif Nat.blt pc 1 then (bif Nat.beq pc 0 then some (.iconst 0, 0) else none) else (bif Nat.blt pc 2 then (bif Nat.beq pc 1 then some (.istore_n 1, 0) else none) else (bif Nat.beq pc 2 then some (.iconst 0, 0) else none))) else (bif Nat.blt pc 4 then (bif Nat.beq pc 3 then some (.istore_n 2, 0) else none) else (bif Nat.blt pc 5 then (bif Nat.beq pc 4 then some (.iload_n 2, 0) else none) else (bif Nat.beq pc 5 then some (.aload_n 0, 0) else none)))) else (bif Nat.blt pc 15 then (bif Nat.blt pc 9 then (bif Nat.beq pc 6 then some (.getfield 24, 0) else none) else (bif Nat.blt pc 12 then (bif Nat.beq pc 9 then some (.invokevirtual 168, 0) else none) else (bif Nat.beq pc 12 then some (.if_icmp .ge 29, 41) else none))) else (bif Nat.blt pc 19 then (bif Nat.blt pc 16 then (bif Nat.beq pc 15 then some (.aload_n 0, 0) else none) else (bif Nat.beq pc 16 then some (.getfield 31, 0) else none)) else (bif Nat.blt pc 21 then (bif Nat.beq pc 19 then some (.bipush 23, 0) else none) else (bif Nat.beq pc 21 then some (.iload_n 2, 0) else none))))) else (bif Nat.blt pc 32 then (bif Nat.blt pc 29 then (bif Nat.blt pc 25 then (bif Nat.beq pc 22 then some (.invokevirtual 145, 0) else none) else (bif Nat.blt pc 26 then (bif Nat.beq pc 25 then some (.iconst (-1), 0) else none) else (bif Nat.beq pc 26 then some (.if_icmp .eq 9, 35) else none))) else (bif Nat.blt pc 30 then (bif Nat.beq pc 29 then some (.iload_n 1, 0) else none) else (bif Nat.blt pc 31 then (bif Nat.beq pc 30 then some (.iconst 1, 0) else none) else (bif Nat.beq pc 31 then some (.iload_n 2, 0) else none)))) else (bif Nat.blt pc 35 then (bif Nat.blt pc 33 then (bif Nat.beq pc 32 then some (.ishl, 0) else none) else (bif Nat.blt pc 34 then (bif Nat.beq pc 33 then some (.ior, 0) else none) else (bif Nat.beq pc 34 then some (.istore_n 1, 0) else none))) else (bif Nat.blt pc 41 then (bif Nat.blt pc 38 then (bif Nat.beq pc 35 then some (.iinc 2 1, 0) else none) else (bif Nat.beq pc 38 then some (.goto (-34), 4) else none)) else (bif Nat.blt pc 42 then (bif Nat.beq pc 41 then some (.iload_n 1, 0) else none) else (bif Nat.beq pc 42 then some (.ireturn, 0) else none)))))
def MX6_kettle : MI := (yX6_kettle, cX6_kettle, 3, (some .int), 6, zTab 43 tX6_kettle)
theorem kX6_kettle : zTok MX6_kettle := zTok_of 43 tX6_kettle rfl (by decide +kernel)
theorem oX6_kettle : zokM MX6_kettle 0 = true := zokM_mk (z_in (List.mem_of_getElem? (i := 578) (by decide +kernel)) rfl) z_ini6 (by decide +kernel)
theorem iX6_kettle : zokI MX6_kettle = true := zokI_mk (z_in (List.mem_of_getElem? (i := 576) (by decide +kernel)) rfl) (z_in (List.mem_of_getElem? (i := 577) (by decide +kernel)) rfl)
def tX6_come : Nat → Option (Instr × Nat) := fun pc => bif Nat.blt pc 59 then (bif Nat.blt pc 25 then (bif Nat.blt pc 13 then (bif Nat.blt pc 5 then (bif Nat.blt pc 1 then (bif Nat.beq pc 0 then some (.aload_n 0, 0) else none) else (bif Nat.blt pc 2 then (bif Nat.beq pc 1 then some (.iload_n 1, 0) else none) else (bif Nat.beq pc 2 then some (.invokevirtual 88, 0) else none))) else (bif Nat.blt pc 9 then (bif Nat.blt pc 8 then (bif Nat.beq pc 5 then some (.ifCond .eq 11, 16) else none) else (bif Nat.beq pc 8 then some (.iload_n 2, 0) else none)) else (bif Nat.blt pc 10 then (bif Nat.beq pc 9 then some (.iconst 1, 0) else none) else (bif Nat.beq pc 10 then some (.invokestatic 91, 0) else none)))) else (bif Nat.blt pc 20 then (bif Nat.blt pc 18 then (bif Nat.blt pc 16 then (bif Nat.beq pc 13 then some (.ifCond .ne 6, 19) else none) else (bif Nat.beq pc 16 then some (.bipush (-2), 0) else none)) else (bif Nat.blt pc 19 then (bif Nat.beq pc 18 then some (.ireturn, 0) else none) else (bif Nat.beq pc 19 then some (.iconst (-1), 0) else none))) else (bif Nat.blt pc 22 then (bif Nat.blt pc 21 then (bif Nat.beq pc 20 then some (.istore_n 3, 0) else none) else (bif Nat.beq pc 21 then some (.iconst (-1), 0) else none)) else (bif Nat.blt pc 24 then (bif Nat.beq pc 22 then some (.istore 4, 0) else none) else (bif Nat.beq pc 24 then some (.aload_n 0, 0) else none))))) else (bif Nat.blt pc 42 then (bif Nat.blt pc 35 then (bif Nat.blt pc 29 then (bif Nat.blt pc 28 then (bif Nat.beq pc 25 then some (.getfield 35, 0) else none) else (bif Nat.beq pc 28 then some (.aload_n 0, 0) else none)) else (bif Nat.blt pc 32 then (bif Nat.beq pc 29 then some (.getfield 24, 0) else none) else (bif Nat.beq pc 32 then some (.invokevirtual 174, 0) else none))) else (bif Nat.blt pc 38 then (bif Nat.blt pc 36 then (bif Nat.beq pc 35 then some (.iconst 0, 0) else none) else (bif Nat.beq pc 36 then some (.istore 5, 0) else none)) else (bif Nat.blt pc 40 then (bif Nat.beq pc 38 then some (.iload 5, 0) else none) else (bif Nat.beq pc 40 then some (.bipush 24, 0) else none)))) else (bif Nat.blt pc 50 then (bif Nat.blt pc 46 then (bif Nat.blt pc 45 then (bif Nat.beq pc 42 then some (.if_icmp .ge 71, 113) else none) else (bif Nat.beq pc 45 then some (.aload_n 0, 0) else none)) else (bif Nat.blt pc 49 then (bif Nat.beq pc 46 then some (.getfield 35, 0) else none) else (bif Nat.beq pc 49 then some (.iload_n 1, 0) else none))) else (bif Nat.blt pc 55 then (bif Nat.blt pc 52 then (bif Nat.beq pc 50 then some (.iload 5, 0) else none) else (bif Nat.beq pc 52 then some (.invokevirtual 178, 0) else none)) else (bif Nat.blt pc 56 then (bif Nat.beq pc 55 then some (.aload_n 0, 0) else none) else (bif Nat.beq pc 56 then some (.getfield 38, 0) else none)))))) else (bif Nat.blt pc 90 then (bif Nat.blt pc 75 then (bif Nat.blt pc 67 then (bif Nat.blt pc 63 then (bif Nat.blt pc 60 then (bif Nat.beq pc 59 then some (.aload_n 0, 0) else none) else (bif Nat.beq pc 60 then some (.getfield 35, 0) else none)) else (bif Nat.blt pc 64 then (bif Nat.beq pc 63 then some (.iconst (-1), 0) else none) else (bif Nat.beq pc 64 then some (.invokevirtual 182, 0) else none))) else (bif Nat.blt pc 71 then (bif Nat.blt pc 68 then (bif Nat.beq pc 67 then some (.aload_n 0, 0) else none) else (bif Nat.beq pc 68 then some (.getfield 38, 0) else none)) else (bif Nat.blt pc 72 then (bif Nat.beq pc 71 then some (.iload_n 1, 0) else none) else (bif Nat.beq pc 72 then some (.invokevirtual 186, 0) else none)))) else (bif Nat.blt pc 83 then (bif Nat.blt pc 79 then (bif Nat.blt pc 78 then (bif Nat.beq pc 75 then some (.ifCond .eq 32, 107) else none) else (bif Nat.beq pc 78 then some (.aload_n 0, 0) else none)) else (bif Nat.blt pc 82 then (bif Nat.beq pc 79 then some (.getfield 38, 0) else none) else (bif Nat.beq pc 82 then some (.iload_n 1, 0) else none))) else (bif Nat.blt pc 88 then (bif Nat.blt pc 86 then (bif Nat.beq pc 83 then some (.invokevirtual 162, 0) else none) else (bif Nat.beq pc 86 then some (.istore 6, 0) else none)) else (bif Nat.blt pc 89 then (bif Nat.beq pc 88 then some (.iload_n 3, 0) else none) else (bif Nat.beq pc 89 then some (.iconst (-1), 0) else none))))) else (bif Nat.blt pc 107 then (bif Nat.blt pc 100 then (bif Nat.blt pc 95 then (bif Nat.blt pc 93 then (bif Nat.beq pc 90 then some (.if_icmp .eq 10, 100) else none) else (bif Nat.beq pc 93 then some (.iload 6, 0) else none)) else (bif Nat.blt pc 97 then (bif Nat.beq pc 95 then some (.iload 4, 0) else none) else (bif Nat.beq pc 97 then some (.if_icmp .ge 10, 107) else none))) else (bif Nat.blt pc 103 then (bif Nat.blt pc 102 then (bif Nat.beq pc 100 then some (.iload 5, 0) else none) else (bif Nat.beq pc 102 then some (.istore_n 3, 0) else none)) else (bif Nat.blt pc 105 then (bif Nat.beq pc 103 then some (.iload 6, 0) else none) else (bif Nat.beq pc 105 then some (.istore 4, 0) else none)))) else (bif Nat.blt pc 117 then (bif Nat.blt pc 113 then (bif Nat.blt pc 110 then (bif Nat.beq pc 107 then some (.iinc 5 1, 0) else none) else (bif Nat.beq pc 110 then some (.goto (-72), 38) else none)) else (bif Nat.blt pc 114 then (bif Nat.beq pc 113 then some (.iload_n 2, 0) else none) else (bif Nat.beq pc 114 then some (.ifCond .ne 7, 121) else none))) else (bif Nat.blt pc 121 then (bif Nat.blt pc 118 then (bif Nat.beq pc 117 then some (.iload_n 3, 0) else none) else (bif Nat.beq pc 118 then some (.goto 5, 123) else none)) else (bif Nat.blt pc 123 then (bif Nat.beq pc 121 then some (.iload 4, 0) else none) else (bif Nat.beq pc 123 then some (.ireturn, 0) else none))))))
def MX6_come : MI := (yX6_come, cX6_come, 7, (some .int), 6, zTab 124 tX6_come)
theorem kX6_come : zTok MX6_come := zTok_of 124 tX6_come rfl (by decide +kernel)
theorem oX6_come : zokM MX6_come 2 = true := zokM_mk (z_in (List.mem_of_getElem? (i := 582) (by decide +kernel)) rfl) z_ini6 (by decide +kernel)
theorem iX6_come : zokI MX6_come = true := zokI_mk (z_in (List.mem_of_getElem? (i := 580) (by decide +kernel)) rfl) (z_in (List.mem_of_getElem? (i := 581) (by decide +kernel)) rfl)
def tX6_open : Nat → Option (Instr × Nat) := fun pc => bif Nat.blt pc 48 then (bif Nat.blt pc 23 then (bif Nat.blt pc 12 then (bif Nat.blt pc 7 then (bif Nat.blt pc 1 then (bif Nat.beq pc 0 then some (.iload_n 1, 0) else none) else (bif Nat.blt pc 4 then (bif Nat.beq pc 1 then some (.invokestatic 105, 0) else none) else (bif Nat.beq pc 4 then some (.ifCond .eq 11, 15) else none))) else (bif Nat.blt pc 8 then (bif Nat.beq pc 7 then some (.iload_n 2, 0) else none) else (bif Nat.blt pc 9 then (bif Nat.beq pc 8 then some (.iconst 1, 0) else none) else (bif Nat.beq pc 9 then some (.invokestatic 91, 0) else none)))) else (bif Nat.blt pc 18 then (bif Nat.blt pc 15 then (bif Nat.beq pc 12 then some (.ifCond .ne 6, 18) else none) else (bif Nat.blt pc 17 then (bif Nat.beq pc 15 then some (.bipush (-2), 0) else none) else (bif Nat.beq pc 17 then some (.ireturn, 0) else none))) else (bif Nat.blt pc 20 then (bif Nat.blt pc 19 then (bif Nat.beq pc 18 then some (.iconst (-1), 0) else none) else (bif Nat.beq pc 19 then some (.istore_n 3, 0) else none)) else (bif Nat.blt pc 21 then (bif Nat.beq pc 20 then some (.iconst (-1), 0) else none) else (bif Nat.beq pc 21 then some (.istore 4, 0) else none))))) else (bif Nat.blt pc 35 then (bif Nat.blt pc 28 then (bif Nat.blt pc 24 then (bif Nat.beq pc 23 then some (.aload_n 0, 0) else none) else (bif Nat.blt pc 27 then (bif Nat.beq pc 24 then some (.getfield 35, 0) else none) else (bif Nat.beq pc 27 then some (.aload_n 0, 0) else none))) else (bif Nat.blt pc 31 then (bif Nat.beq pc 28 then some (.getfield 24, 0) else none) else (bif Nat.blt pc 34 then (bif Nat.beq pc 31 then some (.invokevirtual 174, 0) else none) else (bif Nat.beq pc 34 then some (.iconst 0, 0) else none)))) else (bif Nat.blt pc 40 then (bif Nat.blt pc 37 then (bif Nat.beq pc 35 then some (.istore 5, 0) else none) else (bif Nat.blt pc 39 then (bif Nat.beq pc 37 then some (.iload 5, 0) else none) else (bif Nat.beq pc 39 then some (.iconst 4, 0) else none))) else (bif Nat.blt pc 44 then (bif Nat.blt pc 43 then (bif Nat.beq pc 40 then some (.if_icmp .ge 54, 94) else none) else (bif Nat.beq pc 43 then some (.aload_n 0, 0) else none)) else (bif Nat.blt pc 47 then (bif Nat.beq pc 44 then some (.getfield 35, 0) else none) else (bif Nat.beq pc 47 then some (.iload_n 1, 0) else none)))))) else (bif Nat.blt pc 76 then (bif Nat.blt pc 61 then (bif Nat.blt pc 54 then (bif Nat.blt pc 50 then (bif Nat.beq pc 48 then some (.iload 5, 0) else none) else (bif Nat.blt pc 53 then (bif Nat.beq pc 50 then some (.invokevirtual 189, 0) else none) else (bif Nat.beq pc 53 then some (.aload_n 0, 0) else none))) else (bif Nat.blt pc 57 then (bif Nat.beq pc 54 then some (.getfield 38, 0) else none) else (bif Nat.blt pc 58 then (bif Nat.beq pc 57 then some (.aload_n 0, 0) else none) else (bif Nat.beq pc 58 then some (.getfield 35, 0) else none)))) else (bif Nat.blt pc 66 then (bif Nat.blt pc 62 then (bif Nat.beq pc 61 then some (.iconst (-1), 0) else none) else (bif Nat.blt pc 65 then (bif Nat.beq pc 62 then some (.invokevirtual 182, 0) else none) else (bif Nat.beq pc 65 then some (.aload_n 0, 0) else none))) else (bif Nat.blt pc 72 then (bif Nat.blt pc 69 then (bif Nat.beq pc 66 then some (.getfield 38, 0) else none) else (bif Nat.beq pc 69 then some (.invokevirtual 192, 0) else none)) else (bif Nat.blt pc 74 then (bif Nat.beq pc 72 then some (.istore 6, 0) else none) else (bif Nat.beq pc 74 then some (.iload 6, 0) else none))))) else (bif Nat.blt pc 91 then (bif Nat.blt pc 83 then (bif Nat.blt pc 78 then (bif Nat.beq pc 76 then some (.iload 4, 0) else none) else (bif Nat.blt pc 81 then (bif Nat.beq pc 78 then some (.if_icmp .le 10, 88) else none) else (bif Nat.beq pc 81 then some (.iload 5, 0) else none))) else (bif Nat.blt pc 86 then (bif Nat.blt pc 84 then (bif Nat.beq pc 83 then some (.istore_n 3, 0) else none) else (bif Nat.beq pc 84 then some (.iload 6, 0) else none)) else (bif Nat.blt pc 88 then (bif Nat.beq pc 86 then some (.istore 4, 0) else none) else (bif Nat.beq pc 88 then some (.iinc 5 1, 0) else none)))) else (bif Nat.blt pc 98 then (bif Nat.blt pc 94 then (bif Nat.beq pc 91 then some (.goto (-54), 37) else none) else (bif Nat.blt pc 95 then (bif Nat.beq pc 94 then some (.iload_n 2, 0) else none) else (bif Nat.beq pc 95 then some (.ifCond .ne 7, 102) else none))) else (bif Nat.blt pc 102 then (bif Nat.blt pc 99 then (bif Nat.beq pc 98 then some (.iload_n 3, 0) else none) else (bif Nat.beq pc 99 then some (.goto 5, 104) else none)) else (bif Nat.blt pc 104 then (bif Nat.beq pc 102 then some (.iload 4, 0) else none) else (bif Nat.beq pc 104 then some (.ireturn, 0) else none))))))
def MX6_open : MI := (yX6_open, cX6_open, 7, (some .int), 6, zTab 105 tX6_open)
theorem kX6_open : zTok MX6_open := zTok_of 105 tX6_open rfl (by decide +kernel)
theorem oX6_open : zokM MX6_open 2 = true := zokM_mk (z_in (List.mem_of_getElem? (i := 598) (by decide +kernel)) rfl) z_ini6 (by decide +kernel)
theorem iX6_open : zokI MX6_open = true := zokI_mk (z_in (List.mem_of_getElem? (i := 596) (by decide +kernel)) rfl) (z_in (List.mem_of_getElem? (i := 597) (by decide +kernel)) rfl)
def tX6_let : Nat → Option (Instr × Nat) := fun pc => bif Nat.blt pc 57 then (bif Nat.blt pc 27 then (bif Nat.blt pc 15 then (bif Nat.blt pc 7 then (bif Nat.blt pc 1 then (bif Nat.beq pc 0 then some (.iload_n 1, 0) else none) else (bif Nat.blt pc 4 then (bif Nat.beq pc 1 then some (.invokestatic 105, 0) else none) else (bif Nat.beq pc 4 then some (.ifCond .eq 11, 15) else none))) else (bif Nat.blt pc 9 then (bif Nat.blt pc 8 then (bif Nat.beq pc 7 then some (.iload_n 2, 0) else none) else (bif Nat.beq pc 8 then some (.iconst 1, 0) else none)) else (bif Nat.blt pc 12 then (bif Nat.beq pc 9 then some (.invokestatic 91, 0) else none) else (bif Nat.beq pc 12 then some (.ifCond .ne 6, 18) else none)))) else (bif Nat.blt pc 20 then (bif Nat.blt pc 18 then (bif Nat.blt pc 17 then (bif Nat.beq pc 15 then some (.bipush (-2), 0) else none) else (bif Nat.beq pc 17 then some (.ireturn, 0) else none)) else (bif Nat.blt pc 19 then (bif Nat.beq pc 18 then some (.iconst (-1), 0) else none) else (bif Nat.beq pc 19 then some (.istore_n 3, 0) else none))) else (bif Nat.blt pc 23 then (bif Nat.blt pc 21 then (bif Nat.beq pc 20 then some (.iconst (-1), 0) else none) else (bif Nat.beq pc 21 then some (.istore 4, 0) else none)) else (bif Nat.blt pc 24 then (bif Nat.beq pc 23 then some (.aload_n 0, 0) else none) else (bif Nat.beq pc 24 then some (.getfield 35, 0) else none))))) else (bif Nat.blt pc 40 then (bif Nat.blt pc 34 then (bif Nat.blt pc 28 then (bif Nat.beq pc 27 then some (.aload_n 0, 0) else none) else (bif Nat.blt pc 31 then (bif Nat.beq pc 28 then some (.getfield 24, 0) else none) else (bif Nat.beq pc 31 then some (.invokevirtual 174, 0) else none))) else (bif Nat.blt pc 37 then (bif Nat.blt pc 35 then (bif Nat.beq pc 34 then some (.iconst 0, 0) else none) else (bif Nat.beq pc 35 then some (.istore 5, 0) else none)) else (bif Nat.blt pc 39 then (bif Nat.beq pc 37 then some (.iload 5, 0) else none) else (bif Nat.beq pc 39 then some (.aload_n 0, 0) else none)))) else (bif Nat.blt pc 50 then (bif Nat.blt pc 46 then (bif Nat.blt pc 43 then (bif Nat.beq pc 40 then some (.getfield 24, 0) else none) else (bif Nat.beq pc 43 then some (.invokevirtual 168, 0) else none)) else (bif Nat.blt pc 49 then (bif Nat.beq pc 46 then some (.if_icmp .ge 63, 109) else none) else (bif Nat.beq pc 49 then some (.aload_n 0, 0) else none))) else (bif Nat.blt pc 54 then (bif Nat.blt pc 53 then (bif Nat.beq pc 50 then some (.getfield 35, 0) else none) else (bif Nat.beq pc 53 then some (.iconst 1, 0) else none)) else (bif Nat.blt pc 55 then (bif Nat.beq pc 54 then some (.iload_n 1, 0) else none) else (bif Nat.beq pc 55 then some (.iload 5, 0) else none)))))) else (bif Nat.blt pc 89 then (bif Nat.blt pc 72 then (bif Nat.blt pc 64 then (bif Nat.blt pc 60 then (bif Nat.beq pc 57 then some (.invokevirtual 195, 0) else none) else (bif Nat.blt pc 61 then (bif Nat.beq pc 60 then some (.aload_n 0, 0) else none) else (bif Nat.beq pc 61 then some (.getfield 38, 0) else none))) else (bif Nat.blt pc 68 then (bif Nat.blt pc 65 then (bif Nat.beq pc 64 then some (.aload_n 0, 0) else none) else (bif Nat.beq pc 65 then some (.getfield 35, 0) else none)) else (bif Nat.blt pc 69 then (bif Nat.beq pc 68 then some (.iconst (-1), 0) else none) else (bif Nat.beq pc 69 then some (.invokevirtual 182, 0) else none)))) else (bif Nat.blt pc 80 then (bif Nat.blt pc 76 then (bif Nat.blt pc 73 then (bif Nat.beq pc 72 then some (.aload_n 0, 0) else none) else (bif Nat.beq pc 73 then some (.getfield 35, 0) else none)) else (bif Nat.blt pc 79 then (bif Nat.beq pc 76 then some (.invokevirtual 118, 0) else none) else (bif Nat.beq pc 79 then some (.pop, 0) else none))) else (bif Nat.blt pc 84 then (bif Nat.blt pc 81 then (bif Nat.beq pc 80 then some (.aload_n 0, 0) else none) else (bif Nat.beq pc 81 then some (.getfield 38, 0) else none)) else (bif Nat.blt pc 87 then (bif Nat.beq pc 84 then some (.invokevirtual 192, 0) else none) else (bif Nat.beq pc 87 then some (.istore 6, 0) else none))))) else (bif Nat.blt pc 103 then (bif Nat.blt pc 96 then (bif Nat.blt pc 91 then (bif Nat.beq pc 89 then some (.iload 6, 0) else none) else (bif Nat.blt pc 93 then (bif Nat.beq pc 91 then some (.iload 4, 0) else none) else (bif Nat.beq pc 93 then some (.if_icmp .le 10, 103) else none))) else (bif Nat.blt pc 99 then (bif Nat.blt pc 98 then (bif Nat.beq pc 96 then some (.iload 5, 0) else none) else (bif Nat.beq pc 98 then some (.istore_n 3, 0) else none)) else (bif Nat.blt pc 101 then (bif Nat.beq pc 99 then some (.iload 6, 0) else none) else (bif Nat.beq pc 101 then some (.istore 4, 0) else none)))) else (bif Nat.blt pc 113 then (bif Nat.blt pc 109 then (bif Nat.blt pc 106 then (bif Nat.beq pc 103 then some (.iinc 5 1, 0) else none) else (bif Nat.beq pc 106 then some (.goto (-69), 37) else none)) else (bif Nat.blt pc 110 then (bif Nat.beq pc 109 then some (.iload_n 2, 0) else none) else (bif Nat.beq pc 110 then some (.ifCond .ne 7, 117) else none))) else (bif Nat.blt pc 117 then (bif Nat.blt pc 114 then (bif Nat.beq pc 113 then some (.iload_n 3, 0) else none) else (bif Nat.beq pc 114 then some (.goto 5, 119) else none)) else (bif Nat.blt pc 119 then (bif Nat.beq pc 117 then some (.iload 4, 0) else none) else (bif Nat.beq pc 119 then some (.ireturn, 0) else none))))))
def MX6_let : MI := (yX6_let, cX6_let, 7, (some .int), 6, zTab 120 tX6_let)
theorem kX6_let : zTok MX6_let := zTok_of 120 tX6_let rfl (by decide +kernel)
theorem oX6_let : zokM MX6_let 2 = true := zokM_mk (z_in (List.mem_of_getElem? (i := 621) (by decide +kernel)) rfl) z_ini6 (by decide +kernel)
theorem iX6_let : zokI MX6_let = true := zokI_mk (z_in (List.mem_of_getElem? (i := 619) (by decide +kernel)) rfl) (z_in (List.mem_of_getElem? (i := 620) (by decide +kernel)) rfl)
def tX6_spare : Nat → Option (Instr × Nat) := fun pc => bif Nat.blt pc 22 then (bif Nat.blt pc 10 then (bif Nat.blt pc 5 then (bif Nat.blt pc 1 then (bif Nat.beq pc 0 then some (.iload_n 1, 0) else none) else (bif Nat.blt pc 2 then (bif Nat.beq pc 1 then some (.iconst (-1), 0) else none) else (bif Nat.beq pc 2 then some (.if_icmp .eq 14, 16) else none))) else (bif Nat.blt pc 6 then (bif Nat.beq pc 5 then some (.iload_n 1, 0) else none) else (bif Nat.blt pc 7 then (bif Nat.beq pc 6 then some (.iconst 1, 0) else none) else (bif Nat.beq pc 7 then some (.invokestatic 91, 0) else none)))) else (bif Nat.blt pc 16 then (bif Nat.blt pc 13 then (bif Nat.beq pc 10 then some (.ifCond .ne 6, 16) else none) else (bif Nat.blt pc 15 then (bif Nat.beq pc 13 then some (.bipush (-2), 0) else none) else (bif Nat.beq pc 15 then some (.ireturn, 0) else none))) else (bif Nat.blt pc 20 then (bif Nat.blt pc 17 then (bif Nat.beq pc 16 then some (.aload_n 0, 0) else none) else (bif Nat.beq pc 17 then some (.invokevirtual 199, 0) else none)) else (bif Nat.blt pc 21 then (bif Nat.beq pc 20 then some (.istore_n 2, 0) else none) else (bif Nat.beq pc 21 then some (.iload_n 2, 0) else none))))) else (bif Nat.blt pc 33 then (bif Nat.blt pc 27 then (bif Nat.blt pc 23 then (bif Nat.beq pc 22 then some (.iconst (-1), 0) else none) else (bif Nat.blt pc 26 then (bif Nat.beq pc 23 then some (.if_icmp .ne 5, 28) else none) else (bif Nat.beq pc 26 then some (.iconst (-1), 0) else none))) else (bif Nat.blt pc 29 then (bif Nat.blt pc 28 then (bif Nat.beq pc 27 then some (.ireturn, 0) else none) else (bif Nat.beq pc 28 then some (.iload_n 1, 0) else none)) else (bif Nat.blt pc 30 then (bif Nat.beq pc 29 then some (.iconst (-1), 0) else none) else (bif Nat.beq pc 30 then some (.if_icmp .ne 10, 40) else none)))) else (bif Nat.blt pc 40 then (bif Nat.blt pc 34 then (bif Nat.beq pc 33 then some (.iload_n 2, 0) else none) else (bif Nat.blt pc 37 then (bif Nat.beq pc 34 then some (.invokestatic 202, 0) else none) else (bif Nat.beq pc 37 then some (.goto 8, 45) else none))) else (bif Nat.blt pc 42 then (bif Nat.blt pc 41 then (bif Nat.beq pc 40 then some (.iload_n 2, 0) else none) else (bif Nat.beq pc 41 then some (.iload_n 1, 0) else none)) else (bif Nat.blt pc 45 then (bif Nat.beq pc 42 then some (.invokestatic 207, 0) else none) else (bif Nat.beq pc 45 then some (.ireturn, 0) else none)))))
def MX6_spare : MI := (yX6_spare, cX6_spare, 3, (some .int), 6, zTab 46 tX6_spare)
theorem kX6_spare : zTok MX6_spare := zTok_of 46 tX6_spare rfl (by decide +kernel)
theorem oX6_spare : zokM MX6_spare 1 = true := zokM_mk (z_in (List.mem_of_getElem? (i := 625) (by decide +kernel)) rfl) z_ini6 (by decide +kernel)
theorem iX6_spare : zokI MX6_spare = true := zokI_mk (z_in (List.mem_of_getElem? (i := 623) (by decide +kernel)) rfl) (z_in (List.mem_of_getElem? (i := 624) (by decide +kernel)) rfl)
def tX6_seen : Nat → Option (Instr × Nat) := fun pc => bif Nat.blt pc 28 then (bif Nat.blt pc 13 then (bif Nat.blt pc 7 then (bif Nat.blt pc 1 then (bif Nat.beq pc 0 then some (.iload_n 1, 0) else none) else (bif Nat.blt pc 4 then (bif Nat.beq pc 1 then some (.invokestatic 105, 0) else none) else (bif Nat.beq pc 4 then some (.ifCond .eq 21, 25) else none))) else (bif Nat.blt pc 8 then (bif Nat.beq pc 7 then some (.iload_n 2, 0) else none) else (bif Nat.blt pc 10 then (bif Nat.beq pc 8 then some (.bipush 11, 0) else none) else (bif Nat.beq pc 10 then some (.invokestatic 91, 0) else none)))) else (bif Nat.blt pc 19 then (bif Nat.blt pc 16 then (bif Nat.beq pc 13 then some (.ifCond .eq 12, 25) else none) else (bif Nat.blt pc 17 then (bif Nat.beq pc 16 then some (.iload_n 3, 0) else none) else (bif Nat.beq pc 17 then some (.bipush 12, 0) else none))) else (bif Nat.blt pc 25 then (bif Nat.blt pc 22 then (bif Nat.beq pc 19 then some (.invokestatic 91, 0) else none) else (bif Nat.beq pc 22 then some (.ifCond .ne 6, 28) else none)) else (bif Nat.blt pc 27 then (bif Nat.beq pc 25 then some (.bipush (-2), 0) else none) else (bif Nat.beq pc 27 then some (.ireturn, 0) else none))))) else (bif Nat.blt pc 38 then (bif Nat.blt pc 33 then (bif Nat.blt pc 29 then (bif Nat.beq pc 28 then some (.aload_n 0, 0) else none) else (bif Nat.blt pc 32 then (bif Nat.beq pc 29 then some (.getfield 44, 0) else none) else (bif Nat.beq pc 32 then some (.iload_n 1, 0) else none))) else (bif Nat.blt pc 34 then (bif Nat.beq pc 33 then some (.iload_n 2, 0) else none) else (bif Nat.blt pc 35 then (bif Nat.beq pc 34 then some (.iload_n 3, 0) else none) else (bif Nat.beq pc 35 then some (.invokevirtual 210, 0) else none)))) else (bif Nat.blt pc 45 then (bif Nat.blt pc 41 then (bif Nat.beq pc 38 then some (.ifCond .eq 13, 51) else none) else (bif Nat.blt pc 42 then (bif Nat.beq pc 41 then some (.aload_n 0, 0) else none) else (bif Nat.beq pc 42 then some (.getfield 44, 0) else none))) else (bif Nat.blt pc 51 then (bif Nat.blt pc 48 then (bif Nat.beq pc 45 then some (.invokevirtual 214, 0) else none) else (bif Nat.beq pc 48 then some (.goto 5, 53) else none)) else (bif Nat.blt pc 53 then (bif Nat.beq pc 51 then some (.bipush (-4), 0) else none) else (bif Nat.beq pc 53 then some (.ireturn, 0) else none)))))
def MX6_seen : MI := (yX6_seen, cX6_seen, 4, (some .int), 6, zTab 54 tX6_seen)
theorem kX6_seen : zTok MX6_seen := zTok_of 54 tX6_seen rfl (by decide +kernel)
theorem oX6_seen : zokM MX6_seen 3 = true := zokM_mk (z_in (List.mem_of_getElem? (i := 641) (by decide +kernel)) rfl) z_ini6 (by decide +kernel)
theorem iX6_seen : zokI MX6_seen = true := zokI_mk (z_in (List.mem_of_getElem? (i := 639) (by decide +kernel)) rfl) (z_in (List.mem_of_getElem? (i := 640) (by decide +kernel)) rfl)
def tX6_forget : Nat → Option (Instr × Nat) := fun pc => bif Nat.blt pc 8 then (bif Nat.blt pc 4 then (bif Nat.blt pc 1 then (bif Nat.beq pc 0 then some (.aload_n 0, 0) else none) else (bif Nat.beq pc 1 then some (.getfield 44, 0) else none)) else (bif Nat.blt pc 7 then (bif Nat.beq pc 4 then some (.invokevirtual 214, 0) else none) else (bif Nat.beq pc 7 then some (.istore_n 1, 0) else none))) else (bif Nat.blt pc 12 then (bif Nat.blt pc 9 then (bif Nat.beq pc 8 then some (.aload_n 0, 0) else none) else (bif Nat.beq pc 9 then some (.getfield 44, 0) else none)) else (bif Nat.blt pc 15 then (bif Nat.beq pc 12 then some (.invokevirtual 215, 0) else none) else (bif Nat.blt pc 16 then (bif Nat.beq pc 15 then some (.iload_n 1, 0) else none) else (bif Nat.beq pc 16 then some (.ireturn, 0) else none))))
def MX6_forget : MI := (yX6_forget, cX6_forget, 2, (some .int), 6, zTab 17 tX6_forget)
theorem kX6_forget : zTok MX6_forget := zTok_of 17 tX6_forget rfl (by decide +kernel)
theorem oX6_forget : zokM MX6_forget 0 = true := zokM_mk (z_in (List.mem_of_getElem? (i := 653) (by decide +kernel)) rfl) z_ini6 (by decide +kernel)
theorem iX6_forget : zokI MX6_forget = true := zokI_mk (z_in (List.mem_of_getElem? (i := 651) (by decide +kernel)) rfl) (z_in (List.mem_of_getElem? (i := 652) (by decide +kernel)) rfl)
def tX6_never : Nat → Option (Instr × Nat) := fun pc => bif Nat.blt pc 28 then (bif Nat.blt pc 15 then (bif Nat.blt pc 4 then (bif Nat.blt pc 2 then (bif Nat.blt pc 1 then (bif Nat.beq pc 0 then some (.iconst 0, 0) else none) else (bif Nat.beq pc 1 then some (.istore_n 1, 0) else none)) else (bif Nat.blt pc 3 then (bif Nat.beq pc 2 then some (.iconst 0, 0) else none) else (bif Nat.beq pc 3 then some (.istore_n 2, 0) else none))) else (bif Nat.blt pc 6 then (bif Nat.blt pc 5 then (bif Nat.beq pc 4 then some (.iload_n 2, 0) else none) else (bif Nat.beq pc 5 then some (.aload_n 0, 0) else none)) else (bif Nat.blt pc 9 then (bif Nat.beq pc 6 then some (.getfield 24, 0) else none) else (bif Nat.blt pc 12 then (bif Nat.beq pc 9 then some (.invokevirtual 121, 0) else none) else (bif Nat.beq pc 12 then some (.if_icmp .ge 47, 59) else none))))) else (bif Nat.blt pc 23 then (bif Nat.blt pc 19 then (bif Nat.blt pc 16 then (bif Nat.beq pc 15 then some (.aload_n 0, 0) else none) else (bif Nat.beq pc 16 then some (.getfield 38, 0) else none)) else (bif Nat.blt pc 20 then (bif Nat.beq pc 19 then some (.aload_n 0, 0) else none) else (bif Nat.beq pc 20 then some (.getfield 24, 0) else none))) else (bif Nat.blt pc 25 then (bif Nat.blt pc 24 then (bif Nat.beq pc 23 then some (.iconst (-1), 0) else none) else (bif Nat.beq pc 24 then some (.iconst 1, 0) else none)) else (bif Nat.blt pc 26 then (bif Nat.beq pc 25 then some (.iload_n 2, 0) else none) else (bif Nat.blt pc 27 then (bif Nat.beq pc 26 then some (.ishl, 0) else none) else (bif Nat.beq pc 27 then some (.iconst (-1), 0) else none)))))) else (bif Nat.blt pc 47 then (bif Nat.blt pc 34 then (bif Nat.blt pc 30 then (bif Nat.blt pc 29 then (bif Nat.beq pc 28 then some (.ixor, 0) else none) else (bif Nat.beq pc 29 then some (.iand, 0) else none)) else (bif Nat.blt pc 33 then (bif Nat.beq pc 30 then some (.invokevirtual 182, 0) else none) else (bif Nat.beq pc 33 then some (.aload_n 0, 0) else none))) else (bif Nat.blt pc 38 then (bif Nat.blt pc 37 then (bif Nat.beq pc 34 then some (.getfield 44, 0) else none) else (bif Nat.beq pc 37 then some (.aload_n 0, 0) else none)) else (bif Nat.blt pc 41 then (bif Nat.beq pc 38 then some (.getfield 38, 0) else none) else (bif Nat.blt pc 44 then (bif Nat.beq pc 41 then some (.invokevirtual 216, 0) else none) else (bif Nat.beq pc 44 then some (.ifCond .eq 9, 53) else none))))) else (bif Nat.blt pc 52 then (bif Nat.blt pc 49 then (bif Nat.blt pc 48 then (bif Nat.beq pc 47 then some (.iload_n 1, 0) else none) else (bif Nat.beq pc 48 then some (.iconst 1, 0) else none)) else (bif Nat.blt pc 50 then (bif Nat.beq pc 49 then some (.iload_n 2, 0) else none) else (bif Nat.blt pc 51 then (bif Nat.beq pc 50 then some (.ishl, 0) else none) else (bif Nat.beq pc 51 then some (.ior, 0) else none)))) else (bif Nat.blt pc 56 then (bif Nat.blt pc 53 then (bif Nat.beq pc 52 then some (.istore_n 1, 0) else none) else (bif Nat.beq pc 53 then some (.iinc 2 1, 0) else none)) else (bif Nat.blt pc 59 then (bif Nat.beq pc 56 then some (.goto (-52), 4) else none) else (bif Nat.blt pc 60 then (bif Nat.beq pc 59 then some (.iload_n 1, 0) else none) else (bif Nat.beq pc 60 then some (.ireturn, 0) else none))))))
def MX6_never : MI := (yX6_never, cX6_never, 3, (some .int), 6, zTab 61 tX6_never)
theorem kX6_never : zTok MX6_never := zTok_of 61 tX6_never rfl (by decide +kernel)
theorem oX6_never : zokM MX6_never 0 = true := zokM_mk (z_in (List.mem_of_getElem? (i := 661) (by decide +kernel)) rfl) z_ini6 (by decide +kernel)
theorem iX6_never : zokI MX6_never = true := zokI_mk (z_in (List.mem_of_getElem? (i := 659) (by decide +kernel)) rfl) (z_in (List.mem_of_getElem? (i := 660) (by decide +kernel)) rfl)
def tX6_was : Nat → Option (Instr × Nat) := fun pc => bif Nat.blt pc 19 then (bif Nat.blt pc 9 then (bif Nat.blt pc 2 then (bif Nat.blt pc 1 then (bif Nat.beq pc 0 then some (.aload_n 0, 0) else none) else (bif Nat.beq pc 1 then some (.iload_n 1, 0) else none)) else (bif Nat.blt pc 5 then (bif Nat.beq pc 2 then some (.invokevirtual 88, 0) else none) else (bif Nat.blt pc 8 then (bif Nat.beq pc 5 then some (.ifCond .eq 11, 16) else none) else (bif Nat.beq pc 8 then some (.iload_n 2, 0) else none)))) else (bif Nat.blt pc 13 then (bif Nat.blt pc 10 then (bif Nat.beq pc 9 then some (.iconst 1, 0) else none) else (bif Nat.beq pc 10 then some (.invokestatic 91, 0) else none)) else (bif Nat.blt pc 16 then (bif Nat.beq pc 13 then some (.ifCond .ne 6, 19) else none) else (bif Nat.blt pc 18 then (bif Nat.beq pc 16 then some (.bipush (-2), 0) else none) else (bif Nat.beq pc 18 then some (.ireturn, 0) else none))))) else (bif Nat.blt pc 28 then (bif Nat.blt pc 23 then (bif Nat.blt pc 20 then (bif Nat.beq pc 19 then some (.iload_n 2, 0) else none) else (bif Nat.beq pc 20 then some (.ifCond .ne 11, 31) else none)) else (bif Nat.blt pc 24 then (bif Nat.beq pc 23 then some (.aload_n 0, 0) else none) else (bif Nat.blt pc 25 then (bif Nat.beq pc 24 then some (.iload_n 1, 0) else none) else (bif Nat.beq pc 25 then some (.invokevirtual 220, 0) else none)))) else (bif Nat.blt pc 32 then (bif Nat.blt pc 31 then (bif Nat.beq pc 28 then some (.goto 8, 36) else none) else (bif Nat.beq pc 31 then some (.aload_n 0, 0) else none)) else (bif Nat.blt pc 33 then (bif Nat.beq pc 32 then some (.iload_n 1, 0) else none) else (bif Nat.blt pc 36 then (bif Nat.beq pc 33 then some (.invokevirtual 223, 0) else none) else (bif Nat.beq pc 36 then some (.ireturn, 0) else none)))))
def MX6_was : MI := (yX6_was, cX6_was, 3, (some .int), 6, zTab 37 tX6_was)
theorem kX6_was : zTok MX6_was := zTok_of 37 tX6_was rfl (by decide +kernel)
theorem oX6_was : zokM MX6_was 2 = true := zokM_mk (z_in (List.mem_of_getElem? (i := 670) (by decide +kernel)) rfl) z_ini6 (by decide +kernel)
theorem iX6_was : zokI MX6_was = true := zokI_mk (z_in (List.mem_of_getElem? (i := 668) (by decide +kernel)) rfl) (z_in (List.mem_of_getElem? (i := 669) (by decide +kernel)) rfl)
def tX6_ask : Nat → Option (Instr × Nat) := fun pc => bif Nat.blt pc 30 then (bif Nat.blt pc 16 then (bif Nat.blt pc 8 then (bif Nat.blt pc 2 then (bif Nat.blt pc 1 then (bif Nat.beq pc 0 then some (.aload_n 0, 0) else none) else (bif Nat.beq pc 1 then some (.iload_n 1, 0) else none)) else (bif Nat.blt pc 5 then (bif Nat.beq pc 2 then some (.invokevirtual 88, 0) else none) else (bif Nat.beq pc 5 then some (.ifCond .ne 6, 11) else none))) else (bif Nat.blt pc 11 then (bif Nat.blt pc 10 then (bif Nat.beq pc 8 then some (.bipush (-2), 0) else none) else (bif Nat.beq pc 10 then some (.ireturn, 0) else none)) else (bif Nat.blt pc 12 then (bif Nat.beq pc 11 then some (.aload_n 0, 0) else none) else (bif Nat.blt pc 13 then (bif Nat.beq pc 12 then some (.iload_n 1, 0) else none) else (bif Nat.beq pc 13 then some (.invokevirtual 223, 0) else none))))) else (bif Nat.blt pc 22 then (bif Nat.blt pc 20 then (bif Nat.blt pc 19 then (bif Nat.beq pc 16 then some (.invokestatic 202, 0) else none) else (bif Nat.beq pc 19 then some (.istore_n 2, 0) else none)) else (bif Nat.blt pc 21 then (bif Nat.beq pc 20 then some (.iconst 0, 0) else none) else (bif Nat.beq pc 21 then some (.istore_n 3, 0) else none))) else (bif Nat.blt pc 25 then (bif Nat.blt pc 23 then (bif Nat.beq pc 22 then some (.iload_n 2, 0) else none) else (bif Nat.beq pc 23 then some (.istore 4, 0) else none)) else (bif Nat.blt pc 26 then (bif Nat.beq pc 25 then some (.iconst 0, 0) else none) else (bif Nat.blt pc 28 then (bif Nat.beq pc 26 then some (.istore 5, 0) else none) else (bif Nat.beq pc 28 then some (.iload 5, 0) else none)))))) else (bif Nat.blt pc 48 then (bif Nat.blt pc 38 then (bif Nat.blt pc 35 then (bif Nat.blt pc 32 then (bif Nat.beq pc 30 then some (.bipush 24, 0) else none) else (bif Nat.beq pc 32 then some (.if_icmp .ge 32, 64) else none)) else (bif Nat.blt pc 36 then (bif Nat.beq pc 35 then some (.aload_n 0, 0) else none) else (bif Nat.beq pc 36 then some (.iload 5, 0) else none))) else (bif Nat.blt pc 42 then (bif Nat.blt pc 39 then (bif Nat.beq pc 38 then some (.iload_n 2, 0) else none) else (bif Nat.beq pc 39 then some (.invokevirtual 226, 0) else none)) else (bif Nat.blt pc 44 then (bif Nat.beq pc 42 then some (.istore 6, 0) else none) else (bif Nat.blt pc 46 then (bif Nat.beq pc 44 then some (.iload 6, 0) else none) else (bif Nat.beq pc 46 then some (.iload 4, 0) else none))))) else (bif Nat.blt pc 56 then (bif Nat.blt pc 53 then (bif Nat.blt pc 51 then (bif Nat.beq pc 48 then some (.if_icmp .ge 10, 58) else none) else (bif Nat.beq pc 51 then some (.iload 5, 0) else none)) else (bif Nat.blt pc 54 then (bif Nat.beq pc 53 then some (.istore_n 3, 0) else none) else (bif Nat.beq pc 54 then some (.iload 6, 0) else none))) else (bif Nat.blt pc 61 then (bif Nat.blt pc 58 then (bif Nat.beq pc 56 then some (.istore 4, 0) else none) else (bif Nat.beq pc 58 then some (.iinc 5 1, 0) else none)) else (bif Nat.blt pc 64 then (bif Nat.beq pc 61 then some (.goto (-33), 28) else none) else (bif Nat.blt pc 65 then (bif Nat.beq pc 64 then some (.iload_n 3, 0) else none) else (bif Nat.beq pc 65 then some (.ireturn, 0) else none))))))
def MX6_ask : MI := (yX6_ask, cX6_ask, 7, (some .int), 6, zTab 66 tX6_ask)
theorem kX6_ask : zTok MX6_ask := zTok_of 66 tX6_ask rfl (by decide +kernel)
theorem oX6_ask : zokM MX6_ask 1 = true := zokM_mk (z_in (List.mem_of_getElem? (i := 689) (by decide +kernel)) rfl) z_ini6 (by decide +kernel)
theorem iX6_ask : zokI MX6_ask = true := zokI_mk (z_in (List.mem_of_getElem? (i := 687) (by decide +kernel)) rfl) (z_in (List.mem_of_getElem? (i := 688) (by decide +kernel)) rfl)
def tX6_chance : Nat → Option (Instr × Nat) := fun pc => bif Nat.blt pc 59 then (bif Nat.blt pc 30 then (bif Nat.blt pc 14 then (bif Nat.blt pc 6 then (bif Nat.blt pc 1 then (bif Nat.beq pc 0 then some (.iload_n 1, 0) else none) else (bif Nat.blt pc 3 then (bif Nat.beq pc 1 then some (.bipush 16, 0) else none) else (bif Nat.beq pc 3 then some (.invokestatic 91, 0) else none))) else (bif Nat.blt pc 10 then (bif Nat.blt pc 9 then (bif Nat.beq pc 6 then some (.ifCond .eq 19, 25) else none) else (bif Nat.beq pc 9 then some (.aload_n 0, 0) else none)) else (bif Nat.blt pc 11 then (bif Nat.beq pc 10 then some (.iload_n 2, 0) else none) else (bif Nat.beq pc 11 then some (.invokevirtual 88, 0) else none)))) else (bif Nat.blt pc 22 then (bif Nat.blt pc 18 then (bif Nat.blt pc 17 then (bif Nat.beq pc 14 then some (.ifCond .eq 11, 25) else none) else (bif Nat.beq pc 17 then some (.iload_n 3, 0) else none)) else (bif Nat.blt pc 19 then (bif Nat.beq pc 18 then some (.iconst 1, 0) else none) else (bif Nat.beq pc 19 then some (.invokestatic 91, 0) else none))) else (bif Nat.blt pc 28 then (bif Nat.blt pc 25 then (bif Nat.beq pc 22 then some (.ifCond .ne 7, 29) else none) else (bif Nat.beq pc 25 then some (.ldc2_w 231, 0) else none)) else (bif Nat.blt pc 29 then (bif Nat.beq pc 28 then some (.lreturn, 0) else none) else (bif Nat.beq pc 29 then some (.aload_n 0, 0) else none))))) else (bif Nat.blt pc 45 then (bif Nat.blt pc 37 then (bif Nat.blt pc 33 then (bif Nat.beq pc 30 then some (.invokevirtual 233, 0) else none) else (bif Nat.blt pc 34 then (bif Nat.beq pc 33 then some (.aload_n 0, 0) else none) else (bif Nat.beq pc 34 then some (.getfield 24, 0) else none))) else (bif Nat.blt pc 42 then (bif Nat.blt pc 40 then (bif Nat.beq pc 37 then some (.invokevirtual 121, 0) else none) else (bif Nat.beq pc 40 then some (.istore 4, 0) else none)) else (bif Nat.blt pc 43 then (bif Nat.beq pc 42 then some (.lconst 0, 0) else none) else (bif Nat.beq pc 43 then some (.lstore 5, 0) else none)))) else (bif Nat.blt pc 51 then (bif Nat.blt pc 48 then (bif Nat.blt pc 46 then (bif Nat.beq pc 45 then some (.iconst 0, 0) else none) else (bif Nat.beq pc 46 then some (.istore 7, 0) else none)) else (bif Nat.blt pc 50 then (bif Nat.beq pc 48 then some (.iload 7, 0) else none) else (bif Nat.beq pc 50 then some (.iconst 1, 0) else none))) else (bif Nat.blt pc 54 then (bif Nat.blt pc 53 then (bif Nat.beq pc 51 then some (.iload 4, 0) else none) else (bif Nat.beq pc 53 then some (.ishl, 0) else none)) else (bif Nat.blt pc 57 then (bif Nat.beq pc 54 then some (.if_icmp .ge 47, 101) else none) else (bif Nat.beq pc 57 then some (.iload 7, 0) else none)))))) else (bif Nat.blt pc 84 then (bif Nat.blt pc 73 then (bif Nat.blt pc 64 then (bif Nat.blt pc 60 then (bif Nat.beq pc 59 then some (.aload_n 0, 0) else none) else (bif Nat.blt pc 63 then (bif Nat.beq pc 60 then some (.getfield 58, 0) else none) else (bif Nat.beq pc 63 then some (.arraylength, 0) else none))) else (bif Nat.blt pc 68 then (bif Nat.blt pc 67 then (bif Nat.beq pc 64 then some (.if_icmp .ge 37, 101) else none) else (bif Nat.beq pc 67 then some (.aload_n 0, 0) else none)) else (bif Nat.blt pc 71 then (bif Nat.beq pc 68 then some (.getfield 58, 0) else none) else (bif Nat.beq pc 71 then some (.iload 7, 0) else none)))) else (bif Nat.blt pc 77 then (bif Nat.blt pc 75 then (bif Nat.blt pc 74 then (bif Nat.beq pc 73 then some (.iaload, 0) else none) else (bif Nat.beq pc 74 then some (.iload_n 2, 0) else none)) else (bif Nat.blt pc 76 then (bif Nat.beq pc 75 then some (.ishr, 0) else none) else (bif Nat.beq pc 76 then some (.iconst 1, 0) else none))) else (bif Nat.blt pc 79 then (bif Nat.blt pc 78 then (bif Nat.beq pc 77 then some (.iand, 0) else none) else (bif Nat.beq pc 78 then some (.iconst 1, 0) else none)) else (bif Nat.blt pc 82 then (bif Nat.beq pc 79 then some (.if_icmp .ne 16, 95) else none) else (bif Nat.beq pc 82 then some (.lload 5, 0) else none))))) else (bif Nat.blt pc 98 then (bif Nat.blt pc 89 then (bif Nat.blt pc 86 then (bif Nat.beq pc 84 then some (.iload 7, 0) else none) else (bif Nat.blt pc 88 then (bif Nat.beq pc 86 then some (.iload 4, 0) else none) else (bif Nat.beq pc 88 then some (.iload_n 1, 0) else none))) else (bif Nat.blt pc 93 then (bif Nat.blt pc 92 then (bif Nat.beq pc 89 then some (.invokestatic 236, 0) else none) else (bif Nat.beq pc 92 then some (.ladd, 0) else none)) else (bif Nat.blt pc 95 then (bif Nat.beq pc 93 then some (.lstore 5, 0) else none) else (bif Nat.beq pc 95 then some (.iinc 7 1, 0) else none)))) else (bif Nat.blt pc 106 then (bif Nat.blt pc 103 then (bif Nat.blt pc 101 then (bif Nat.beq pc 98 then some (.goto (-50), 48) else none) else (bif Nat.beq pc 101 then some (.lload 5, 0) else none)) else (bif Nat.blt pc 104 then (bif Nat.beq pc 103 then some (.iconst 4, 0) else none) else (bif Nat.beq pc 104 then some (.iload 4, 0) else none))) else (bif Nat.blt pc 108 then (bif Nat.blt pc 107 then (bif Nat.beq pc 106 then some (.imul, 0) else none) else (bif Nat.beq pc 107 then some (.iload_n 3, 0) else none)) else (bif Nat.blt pc 111 then (bif Nat.beq pc 108 then some (.invokestatic 240, 0) else none) else (bif Nat.beq pc 111 then some (.lreturn, 0) else none))))))
def MX6_chance : MI := (yX6_chance, cX6_chance, 8, (some .long), 6, zTab 112 tX6_chance)
theorem kX6_chance : zTok MX6_chance := zTok_of 112 tX6_chance rfl (by decide +kernel)
theorem oX6_chance : zokM MX6_chance 3 = true := zokM_mk (z_in (List.mem_of_getElem? (i := 702) (by decide +kernel)) rfl) z_ini6 (by decide +kernel)
theorem iX6_chance : zokI MX6_chance = true := zokI_mk (z_in (List.mem_of_getElem? (i := 700) (by decide +kernel)) rfl) (z_in (List.mem_of_getElem? (i := 701) (by decide +kernel)) rfl)
def tX6_decades : Nat → Option (Instr × Nat) := fun pc => bif Nat.blt pc 77 then (bif Nat.blt pc 38 then (bif Nat.blt pc 19 then (bif Nat.blt pc 9 then (bif Nat.blt pc 3 then (bif Nat.blt pc 1 then (bif Nat.beq pc 0 then some (.iload_n 2, 0) else none) else (bif Nat.beq pc 1 then some (.bipush 8, 0) else none)) else (bif Nat.blt pc 6 then (bif Nat.beq pc 3 then some (.invokestatic 91, 0) else none) else (bif Nat.beq pc 6 then some (.ifCond .eq 11, 17) else none))) else (bif Nat.blt pc 11 then (bif Nat.blt pc 10 then (bif Nat.beq pc 9 then some (.iload_n 3, 0) else none) else (bif Nat.beq pc 10 then some (.iconst 1, 0) else none)) else (bif Nat.blt pc 14 then (bif Nat.beq pc 11 then some (.invokestatic 91, 0) else none) else (bif Nat.blt pc 17 then (bif Nat.beq pc 14 then some (.ifCond .ne 6, 20) else none) else (bif Nat.beq pc 17 then some (.bipush (-2), 0) else none))))) else (bif Nat.blt pc 25 then (bif Nat.blt pc 21 then (bif Nat.blt pc 20 then (bif Nat.beq pc 19 then some (.ireturn, 0) else none) else (bif Nat.beq pc 20 then some (.aload_n 0, 0) else none)) else (bif Nat.blt pc 24 then (bif Nat.beq pc 21 then some (.getfield 35, 0) else none) else (bif Nat.beq pc 24 then some (.aload_n 0, 0) else none))) else (bif Nat.blt pc 31 then (bif Nat.blt pc 28 then (bif Nat.beq pc 25 then some (.getfield 24, 0) else none) else (bif Nat.beq pc 28 then some (.invokevirtual 174, 0) else none)) else (bif Nat.blt pc 32 then (bif Nat.beq pc 31 then some (.aload_n 0, 0) else none) else (bif Nat.blt pc 35 then (bif Nat.beq pc 32 then some (.getfield 35, 0) else none) else (bif Nat.beq pc 35 then some (.invokevirtual 244, 0) else none)))))) else (bif Nat.blt pc 55 then (bif Nat.blt pc 47 then (bif Nat.blt pc 42 then (bif Nat.blt pc 39 then (bif Nat.beq pc 38 then some (.aload_n 0, 0) else none) else (bif Nat.beq pc 39 then some (.getfield 24, 0) else none)) else (bif Nat.blt pc 45 then (bif Nat.beq pc 42 then some (.invokevirtual 168, 0) else none) else (bif Nat.beq pc 45 then some (.istore 4, 0) else none))) else (bif Nat.blt pc 50 then (bif Nat.blt pc 48 then (bif Nat.beq pc 47 then some (.iload_n 1, 0) else none) else (bif Nat.beq pc 48 then some (.istore 5, 0) else none)) else (bif Nat.blt pc 51 then (bif Nat.beq pc 50 then some (.iconst 0, 0) else none) else (bif Nat.blt pc 53 then (bif Nat.beq pc 51 then some (.istore 6, 0) else none) else (bif Nat.beq pc 53 then some (.iload 6, 0) else none))))) else (bif Nat.blt pc 66 then (bif Nat.blt pc 59 then (bif Nat.blt pc 56 then (bif Nat.beq pc 55 then some (.iload_n 2, 0) else none) else (bif Nat.beq pc 56 then some (.if_icmp .ge 70, 126) else none)) else (bif Nat.blt pc 61 then (bif Nat.beq pc 59 then some (.iload 4, 0) else none) else (bif Nat.blt pc 64 then (bif Nat.beq pc 61 then some (.ifCond .le 65, 126) else none) else (bif Nat.beq pc 64 then some (.iload 5, 0) else none)))) else (bif Nat.blt pc 71 then (bif Nat.blt pc 69 then (bif Nat.beq pc 66 then some (.invokestatic 247, 0) else none) else (bif Nat.beq pc 69 then some (.istore 5, 0) else none)) else (bif Nat.blt pc 73 then (bif Nat.beq pc 71 then some (.iload 5, 0) else none) else (bif Nat.blt pc 74 then (bif Nat.beq pc 73 then some (.iconst 3, 0) else none) else (bif Nat.beq pc 74 then some (.invokestatic 250, 0) else none))))))) else (bif Nat.blt pc 120 then (bif Nat.blt pc 97 then (bif Nat.blt pc 86 then (bif Nat.blt pc 81 then (bif Nat.blt pc 79 then (bif Nat.beq pc 77 then some (.istore 7, 0) else none) else (bif Nat.beq pc 79 then some (.iload 5, 0) else none)) else (bif Nat.blt pc 84 then (bif Nat.beq pc 81 then some (.invokestatic 247, 0) else none) else (bif Nat.beq pc 84 then some (.istore 5, 0) else none))) else (bif Nat.blt pc 90 then (bif Nat.blt pc 88 then (bif Nat.beq pc 86 then some (.iload 5, 0) else none) else (bif Nat.beq pc 88 then some (.bipush 24, 0) else none)) else (bif Nat.blt pc 93 then (bif Nat.beq pc 90 then some (.invokestatic 250, 0) else none) else (bif Nat.blt pc 95 then (bif Nat.beq pc 93 then some (.istore 8, 0) else none) else (bif Nat.beq pc 95 then some (.iload 5, 0) else none))))) else (bif Nat.blt pc 108 then (bif Nat.blt pc 102 then (bif Nat.blt pc 100 then (bif Nat.beq pc 97 then some (.invokestatic 247, 0) else none) else (bif Nat.beq pc 100 then some (.istore 5, 0) else none)) else (bif Nat.blt pc 103 then (bif Nat.beq pc 102 then some (.aload_n 0, 0) else none) else (bif Nat.blt pc 106 then (bif Nat.beq pc 103 then some (.getfield 35, 0) else none) else (bif Nat.beq pc 106 then some (.iload 7, 0) else none)))) else (bif Nat.blt pc 112 then (bif Nat.blt pc 110 then (bif Nat.beq pc 108 then some (.iload 8, 0) else none) else (bif Nat.beq pc 110 then some (.iload 5, 0) else none)) else (bif Nat.blt pc 114 then (bif Nat.beq pc 112 then some (.iload 4, 0) else none) else (bif Nat.blt pc 117 then (bif Nat.beq pc 114 then some (.invokestatic 250, 0) else none) else (bif Nat.beq pc 117 then some (.invokevirtual 195, 0) else none)))))) else (bif Nat.blt pc 139 then (bif Nat.blt pc 130 then (bif Nat.blt pc 126 then (bif Nat.blt pc 123 then (bif Nat.beq pc 120 then some (.iinc 6 1, 0) else none) else (bif Nat.beq pc 123 then some (.goto (-70), 53) else none)) else (bif Nat.blt pc 127 then (bif Nat.beq pc 126 then some (.aload_n 0, 0) else none) else (bif Nat.beq pc 127 then some (.getfield 38, 0) else none))) else (bif Nat.blt pc 134 then (bif Nat.blt pc 131 then (bif Nat.beq pc 130 then some (.aload_n 0, 0) else none) else (bif Nat.beq pc 131 then some (.getfield 35, 0) else none)) else (bif Nat.blt pc 135 then (bif Nat.beq pc 134 then some (.iconst (-1), 0) else none) else (bif Nat.blt pc 138 then (bif Nat.beq pc 135 then some (.invokevirtual 182, 0) else none) else (bif Nat.beq pc 138 then some (.iload_n 3, 0) else none))))) else (bif Nat.blt pc 152 then (bif Nat.blt pc 143 then (bif Nat.blt pc 142 then (bif Nat.beq pc 139 then some (.ifCond .ne 13, 152) else none) else (bif Nat.beq pc 142 then some (.aload_n 0, 0) else none)) else (bif Nat.blt pc 146 then (bif Nat.beq pc 143 then some (.getfield 38, 0) else none) else (bif Nat.blt pc 149 then (bif Nat.beq pc 146 then some (.invokevirtual 192, 0) else none) else (bif Nat.beq pc 149 then some (.goto 12, 161) else none)))) else (bif Nat.blt pc 156 then (bif Nat.blt pc 153 then (bif Nat.beq pc 152 then some (.aload_n 0, 0) else none) else (bif Nat.beq pc 153 then some (.getfield 38, 0) else none)) else (bif Nat.blt pc 158 then (bif Nat.beq pc 156 then some (.bipush 23, 0) else none) else (bif Nat.blt pc 161 then (bif Nat.beq pc 158 then some (.invokevirtual 142, 0) else none) else (bif Nat.beq pc 161 then some (.ireturn, 0) else none)))))))
def MX6_decades : MI := (yX6_decades, cX6_decades, 9, (some .int), 6, zTab 162 tX6_decades)
theorem kX6_decades : zTok MX6_decades := zTok_of 162 tX6_decades rfl (by decide +kernel)
theorem oX6_decades : zokM MX6_decades 3 = true := zokM_mk (z_in (List.mem_of_getElem? (i := 719) (by decide +kernel)) rfl) z_ini6 (by decide +kernel)
theorem iX6_decades : zokI MX6_decades = true := zokI_mk (z_in (List.mem_of_getElem? (i := 717) (by decide +kernel)) rfl) (z_in (List.mem_of_getElem? (i := 718) (by decide +kernel)) rfl)
def tX6_sheet : Nat → Option (Instr × Nat) := fun pc => bif Nat.blt pc 27 then (bif Nat.blt pc 12 then (bif Nat.blt pc 5 then (bif Nat.blt pc 1 then (bif Nat.beq pc 0 then some (.aload_n 0, 0) else none) else (bif Nat.blt pc 2 then (bif Nat.beq pc 1 then some (.iload_n 1, 0) else none) else (bif Nat.beq pc 2 then some (.invokevirtual 124, 0) else none))) else (bif Nat.blt pc 7 then (bif Nat.beq pc 5 then some (.astore 4, 0) else none) else (bif Nat.blt pc 9 then (bif Nat.beq pc 7 then some (.aload 4, 0) else none) else (bif Nat.beq pc 9 then some (.ifnull 16, 25) else none)))) else (bif Nat.blt pc 19 then (bif Nat.blt pc 13 then (bif Nat.beq pc 12 then some (.iload_n 2, 0) else none) else (bif Nat.blt pc 16 then (bif Nat.beq pc 13 then some (.invokestatic 253, 0) else none) else (bif Nat.beq pc 16 then some (.ifCond .eq 9, 25) else none))) else (bif Nat.blt pc 22 then (bif Nat.blt pc 20 then (bif Nat.beq pc 19 then some (.iload_n 3, 0) else none) else (bif Nat.beq pc 20 then some (.bipush 60, 0) else none)) else (bif Nat.blt pc 25 then (bif Nat.beq pc 22 then some (.if_icmp .le 6, 28) else none) else (bif Nat.beq pc 25 then some (.bipush (-2), 0) else none))))) else (bif Nat.blt pc 37 then (bif Nat.blt pc 32 then (bif Nat.blt pc 28 then (bif Nat.beq pc 27 then some (.ireturn, 0) else none) else (bif Nat.blt pc 29 then (bif Nat.beq pc 28 then some (.iload_n 3, 0) else none) else (bif Nat.beq pc 29 then some (.ifCond .ge 9, 38) else none))) else (bif Nat.blt pc 33 then (bif Nat.beq pc 32 then some (.aload_n 0, 0) else none) else (bif Nat.blt pc 34 then (bif Nat.beq pc 33 then some (.iconst 5, 0) else none) else (bif Nat.beq pc 34 then some (.invokevirtual 131, 0) else none)))) else (bif Nat.blt pc 41 then (bif Nat.blt pc 38 then (bif Nat.beq pc 37 then some (.ireturn, 0) else none) else (bif Nat.blt pc 40 then (bif Nat.beq pc 38 then some (.aload 4, 0) else none) else (bif Nat.beq pc 40 then some (.iload_n 2, 0) else none))) else (bif Nat.blt pc 45 then (bif Nat.blt pc 42 then (bif Nat.beq pc 41 then some (.iload_n 3, 0) else none) else (bif Nat.beq pc 42 then some (.invokevirtual 256, 0) else none)) else (bif Nat.blt pc 46 then (bif Nat.beq pc 45 then some (.iload_n 3, 0) else none) else (bif Nat.beq pc 46 then some (.ireturn, 0) else none)))))
def MX6_sheet : MI := (yX6_sheet, cX6_sheet, 5, (some .int), 6, zTab 47 tX6_sheet)
theorem kX6_sheet : zTok MX6_sheet := zTok_of 47 tX6_sheet rfl (by decide +kernel)
theorem oX6_sheet : zokM MX6_sheet 3 = true := zokM_mk (z_in (List.mem_of_getElem? (i := 734) (by decide +kernel)) rfl) z_ini6 (by decide +kernel)
theorem iX6_sheet : zokI MX6_sheet = true := zokI_mk (z_in (List.mem_of_getElem? (i := 732) (by decide +kernel)) rfl) (z_in (List.mem_of_getElem? (i := 733) (by decide +kernel)) rfl)
def tX6_lose : Nat → Option (Instr × Nat) := fun pc => bif Nat.blt pc 20 then (bif Nat.blt pc 7 then (bif Nat.blt pc 2 then (bif Nat.blt pc 1 then (bif Nat.beq pc 0 then some (.aload_n 0, 0) else none) else (bif Nat.beq pc 1 then some (.iload_n 1, 0) else none)) else (bif Nat.blt pc 5 then (bif Nat.beq pc 2 then some (.invokevirtual 124, 0) else none) else (bif Nat.blt pc 6 then (bif Nat.beq pc 5 then some (.astore_n 2, 0) else none) else (bif Nat.beq pc 6 then some (.aload_n 2, 0) else none)))) else (bif Nat.blt pc 13 then (bif Nat.blt pc 10 then (bif Nat.beq pc 7 then some (.ifnonnull 6, 13) else none) else (bif Nat.blt pc 12 then (bif Nat.beq pc 10 then some (.bipush (-2), 0) else none) else (bif Nat.beq pc 12 then some (.ireturn, 0) else none))) else (bif Nat.blt pc 14 then (bif Nat.beq pc 13 then some (.aload_n 2, 0) else none) else (bif Nat.blt pc 17 then (bif Nat.beq pc 14 then some (.invokevirtual 128, 0) else none) else (bif Nat.beq pc 17 then some (.ifCond .eq 9, 26) else none))))) else (bif Nat.blt pc 27 then (bif Nat.blt pc 22 then (bif Nat.blt pc 21 then (bif Nat.beq pc 20 then some (.aload_n 0, 0) else none) else (bif Nat.beq pc 21 then some (.iconst 1, 0) else none)) else (bif Nat.blt pc 25 then (bif Nat.beq pc 22 then some (.invokevirtual 131, 0) else none) else (bif Nat.blt pc 26 then (bif Nat.beq pc 25 then some (.ireturn, 0) else none) else (bif Nat.beq pc 26 then some (.aload_n 2, 0) else none)))) else (bif Nat.blt pc 32 then (bif Nat.blt pc 30 then (bif Nat.beq pc 27 then some (.invokevirtual 134, 0) else none) else (bif Nat.blt pc 31 then (bif Nat.beq pc 30 then some (.istore_n 3, 0) else none) else (bif Nat.beq pc 31 then some (.aload_n 2, 0) else none))) else (bif Nat.blt pc 35 then (bif Nat.beq pc 32 then some (.invokevirtual 259, 0) else none) else (bif Nat.blt pc 36 then (bif Nat.beq pc 35 then some (.iload_n 3, 0) else none) else (bif Nat.beq pc 36 then some (.ireturn, 0) else none)))))
def MX6_lose : MI := (yX6_lose, cX6_lose, 4, (some .int), 6, zTab 37 tX6_lose)
theorem kX6_lose : zTok MX6_lose := zTok_of 37 tX6_lose rfl (by decide +kernel)
theorem oX6_lose : zokM MX6_lose 1 = true := zokM_mk (z_in (List.mem_of_getElem? (i := 747) (by decide +kernel)) rfl) z_ini6 (by decide +kernel)
theorem iX6_lose : zokI MX6_lose = true := zokI_mk (z_in (List.mem_of_getElem? (i := 745) (by decide +kernel)) rfl) (z_in (List.mem_of_getElem? (i := 746) (by decide +kernel)) rfl)
def tX6_put : Nat → Option (Instr × Nat) := fun pc => bif Nat.blt pc 26 then (bif Nat.blt pc 13 then (bif Nat.blt pc 5 then (bif Nat.blt pc 1 then (bif Nat.beq pc 0 then some (.aload_n 0, 0) else none) else (bif Nat.blt pc 2 then (bif Nat.beq pc 1 then some (.iload_n 1, 0) else none) else (bif Nat.beq pc 2 then some (.invokevirtual 124, 0) else none))) else (bif Nat.blt pc 9 then (bif Nat.blt pc 7 then (bif Nat.beq pc 5 then some (.astore 5, 0) else none) else (bif Nat.beq pc 7 then some (.aload 5, 0) else none)) else (bif Nat.blt pc 12 then (bif Nat.beq pc 9 then some (.ifnull 10, 19) else none) else (bif Nat.beq pc 12 then some (.iload_n 2, 0) else none)))) else (bif Nat.blt pc 21 then (bif Nat.blt pc 16 then (bif Nat.beq pc 13 then some (.invokestatic 253, 0) else none) else (bif Nat.blt pc 19 then (bif Nat.beq pc 16 then some (.ifCond .ne 6, 22) else none) else (bif Nat.beq pc 19 then some (.bipush (-2), 0) else none))) else (bif Nat.blt pc 24 then (bif Nat.blt pc 22 then (bif Nat.beq pc 21 then some (.ireturn, 0) else none) else (bif Nat.beq pc 22 then some (.aload 5, 0) else none)) else (bif Nat.blt pc 25 then (bif Nat.beq pc 24 then some (.iload_n 2, 0) else none) else (bif Nat.beq pc 25 then some (.iload_n 3, 0) else none))))) else (bif Nat.blt pc 42 then (bif Nat.blt pc 33 then (bif Nat.blt pc 29 then (bif Nat.beq pc 26 then some (.invokevirtual 262, 0) else none) else (bif Nat.blt pc 31 then (bif Nat.beq pc 29 then some (.istore 6, 0) else none) else (bif Nat.beq pc 31 then some (.iload 6, 0) else none))) else (bif Nat.blt pc 37 then (bif Nat.blt pc 36 then (bif Nat.beq pc 33 then some (.ifCond .eq 10, 43) else none) else (bif Nat.beq pc 36 then some (.aload_n 0, 0) else none)) else (bif Nat.blt pc 39 then (bif Nat.beq pc 37 then some (.iload 6, 0) else none) else (bif Nat.beq pc 39 then some (.invokevirtual 131, 0) else none)))) else (bif Nat.blt pc 46 then (bif Nat.blt pc 43 then (bif Nat.beq pc 42 then some (.ireturn, 0) else none) else (bif Nat.blt pc 45 then (bif Nat.beq pc 43 then some (.aload 5, 0) else none) else (bif Nat.beq pc 45 then some (.iload_n 3, 0) else none))) else (bif Nat.blt pc 51 then (bif Nat.blt pc 48 then (bif Nat.beq pc 46 then some (.iload 4, 0) else none) else (bif Nat.beq pc 48 then some (.invokevirtual 265, 0) else none)) else (bif Nat.blt pc 52 then (bif Nat.beq pc 51 then some (.iconst 1, 0) else none) else (bif Nat.beq pc 52 then some (.ireturn, 0) else none)))))
def MX6_put : MI := (yX6_put, cX6_put, 7, (some .int), 6, zTab 53 tX6_put)
theorem kX6_put : zTok MX6_put := zTok_of 53 tX6_put rfl (by decide +kernel)
theorem oX6_put : zokM MX6_put 4 = true := zokM_mk (z_in (List.mem_of_getElem? (i := 755) (by decide +kernel)) rfl) z_ini6 (by decide +kernel)
theorem iX6_put : zokI MX6_put = true := zokI_mk (z_in (List.mem_of_getElem? (i := 753) (by decide +kernel)) rfl) (z_in (List.mem_of_getElem? (i := 754) (by decide +kernel)) rfl)
def tX6_get : Nat → Option (Instr × Nat) := fun pc => bif Nat.blt pc 27 then (bif Nat.blt pc 13 then (bif Nat.blt pc 5 then (bif Nat.blt pc 1 then (bif Nat.beq pc 0 then some (.aload_n 0, 0) else none) else (bif Nat.blt pc 2 then (bif Nat.beq pc 1 then some (.iload_n 1, 0) else none) else (bif Nat.beq pc 2 then some (.invokevirtual 124, 0) else none))) else (bif Nat.blt pc 9 then (bif Nat.blt pc 7 then (bif Nat.beq pc 5 then some (.astore 4, 0) else none) else (bif Nat.beq pc 7 then some (.aload 4, 0) else none)) else (bif Nat.blt pc 12 then (bif Nat.beq pc 9 then some (.ifnull 10, 19) else none) else (bif Nat.beq pc 12 then some (.iload_n 2, 0) else none)))) else (bif Nat.blt pc 22 then (bif Nat.blt pc 16 then (bif Nat.beq pc 13 then some (.invokestatic 253, 0) else none) else (bif Nat.blt pc 19 then (bif Nat.beq pc 16 then some (.ifCond .ne 7, 23) else none) else (bif Nat.beq pc 19 then some (.ldc_w 268, 0) else none))) else (bif Nat.blt pc 25 then (bif Nat.blt pc 23 then (bif Nat.beq pc 22 then some (.ireturn, 0) else none) else (bif Nat.beq pc 23 then some (.aload 4, 0) else none)) else (bif Nat.blt pc 26 then (bif Nat.beq pc 25 then some (.iload_n 2, 0) else none) else (bif Nat.beq pc 26 then some (.iload_n 3, 0) else none))))) else (bif Nat.blt pc 43 then (bif Nat.blt pc 34 then (bif Nat.blt pc 30 then (bif Nat.beq pc 27 then some (.invokevirtual 262, 0) else none) else (bif Nat.blt pc 32 then (bif Nat.beq pc 30 then some (.istore 5, 0) else none) else (bif Nat.beq pc 32 then some (.iload 5, 0) else none))) else (bif Nat.blt pc 38 then (bif Nat.blt pc 37 then (bif Nat.beq pc 34 then some (.ifCond .eq 14, 48) else none) else (bif Nat.beq pc 37 then some (.aload_n 0, 0) else none)) else (bif Nat.blt pc 40 then (bif Nat.beq pc 38 then some (.iload 5, 0) else none) else (bif Nat.beq pc 40 then some (.invokevirtual 131, 0) else none)))) else (bif Nat.blt pc 48 then (bif Nat.blt pc 44 then (bif Nat.beq pc 43 then some (.pop, 0) else none) else (bif Nat.blt pc 47 then (bif Nat.beq pc 44 then some (.ldc_w 268, 0) else none) else (bif Nat.beq pc 47 then some (.ireturn, 0) else none))) else (bif Nat.blt pc 51 then (bif Nat.blt pc 50 then (bif Nat.beq pc 48 then some (.aload 4, 0) else none) else (bif Nat.beq pc 50 then some (.iload_n 3, 0) else none)) else (bif Nat.blt pc 54 then (bif Nat.beq pc 51 then some (.invokevirtual 135, 0) else none) else (bif Nat.beq pc 54 then some (.ireturn, 0) else none)))))
def MX6_get : MI := (yX6_get, cX6_get, 6, (some .int), 6, zTab 55 tX6_get)
theorem kX6_get : zTok MX6_get := zTok_of 55 tX6_get rfl (by decide +kernel)
theorem oX6_get : zokM MX6_get 3 = true := zokM_mk (z_in (List.mem_of_getElem? (i := 772) (by decide +kernel)) rfl) z_ini6 (by decide +kernel)
theorem iX6_get : zokI MX6_get = true := zokI_mk (z_in (List.mem_of_getElem? (i := 770) (by decide +kernel)) rfl) (z_in (List.mem_of_getElem? (i := 771) (by decide +kernel)) rfl)
def tX6_copy : Nat → Option (Instr × Nat) := fun pc => bif Nat.blt pc 56 then (bif Nat.blt pc 26 then (bif Nat.blt pc 9 then (bif Nat.blt pc 5 then (bif Nat.blt pc 1 then (bif Nat.beq pc 0 then some (.aload_n 0, 0) else none) else (bif Nat.blt pc 2 then (bif Nat.beq pc 1 then some (.iload_n 1, 0) else none) else (bif Nat.beq pc 2 then some (.invokevirtual 124, 0) else none))) else (bif Nat.blt pc 7 then (bif Nat.beq pc 5 then some (.astore 6, 0) else none) else (bif Nat.blt pc 8 then (bif Nat.beq pc 7 then some (.aload_n 0, 0) else none) else (bif Nat.beq pc 8 then some (.iload_n 3, 0) else none)))) else (bif Nat.blt pc 16 then (bif Nat.blt pc 12 then (bif Nat.beq pc 9 then some (.invokevirtual 124, 0) else none) else (bif Nat.blt pc 14 then (bif Nat.beq pc 12 then some (.astore 7, 0) else none) else (bif Nat.beq pc 14 then some (.aload 6, 0) else none))) else (bif Nat.blt pc 21 then (bif Nat.blt pc 19 then (bif Nat.beq pc 16 then some (.ifnull 8, 24) else none) else (bif Nat.beq pc 19 then some (.aload 7, 0) else none)) else (bif Nat.blt pc 24 then (bif Nat.beq pc 21 then some (.ifnonnull 6, 27) else none) else (bif Nat.beq pc 24 then some (.bipush (-2), 0) else none))))) else (bif Nat.blt pc 43 then (bif Nat.blt pc 32 then (bif Nat.blt pc 27 then (bif Nat.beq pc 26 then some (.ireturn, 0) else none) else (bif Nat.blt pc 29 then (bif Nat.beq pc 27 then some (.aload 6, 0) else none) else (bif Nat.beq pc 29 then some (.invokevirtual 128, 0) else none))) else (bif Nat.blt pc 37 then (bif Nat.blt pc 35 then (bif Nat.beq pc 32 then some (.ifCond .ne 11, 43) else none) else (bif Nat.beq pc 35 then some (.aload 7, 0) else none)) else (bif Nat.blt pc 40 then (bif Nat.beq pc 37 then some (.invokevirtual 128, 0) else none) else (bif Nat.beq pc 40 then some (.ifCond .eq 9, 49) else none)))) else (bif Nat.blt pc 48 then (bif Nat.blt pc 44 then (bif Nat.beq pc 43 then some (.aload_n 0, 0) else none) else (bif Nat.blt pc 45 then (bif Nat.beq pc 44 then some (.iconst 1, 0) else none) else (bif Nat.beq pc 45 then some (.invokevirtual 131, 0) else none))) else (bif Nat.blt pc 51 then (bif Nat.blt pc 49 then (bif Nat.beq pc 48 then some (.ireturn, 0) else none) else (bif Nat.beq pc 49 then some (.aload 6, 0) else none)) else (bif Nat.blt pc 54 then (bif Nat.beq pc 51 then some (.invokevirtual 269, 0) else none) else (bif Nat.beq pc 54 then some (.aload 7, 0) else none)))))) else (bif Nat.blt pc 85 then (bif Nat.blt pc 70 then (bif Nat.blt pc 63 then (bif Nat.blt pc 59 then (bif Nat.beq pc 56 then some (.invokevirtual 269, 0) else none) else (bif Nat.blt pc 62 then (bif Nat.beq pc 59 then some (.if_icmp .eq 9, 68) else none) else (bif Nat.beq pc 62 then some (.aload_n 0, 0) else none))) else (bif Nat.blt pc 67 then (bif Nat.blt pc 64 then (bif Nat.beq pc 63 then some (.iconst 4, 0) else none) else (bif Nat.beq pc 64 then some (.invokevirtual 131, 0) else none)) else (bif Nat.blt pc 68 then (bif Nat.beq pc 67 then some (.ireturn, 0) else none) else (bif Nat.beq pc 68 then some (.aload 6, 0) else none)))) else (bif Nat.blt pc 76 then (bif Nat.blt pc 71 then (bif Nat.beq pc 70 then some (.iload_n 2, 0) else none) else (bif Nat.blt pc 73 then (bif Nat.beq pc 71 then some (.iload 5, 0) else none) else (bif Nat.beq pc 73 then some (.invokevirtual 272, 0) else none))) else (bif Nat.blt pc 81 then (bif Nat.blt pc 79 then (bif Nat.beq pc 76 then some (.ifCond .eq 15, 91) else none) else (bif Nat.beq pc 79 then some (.aload 7, 0) else none)) else (bif Nat.blt pc 83 then (bif Nat.beq pc 81 then some (.iload 4, 0) else none) else (bif Nat.beq pc 83 then some (.iload 5, 0) else none))))) else (bif Nat.blt pc 99 then (bif Nat.blt pc 92 then (bif Nat.blt pc 88 then (bif Nat.beq pc 85 then some (.invokevirtual 272, 0) else none) else (bif Nat.blt pc 91 then (bif Nat.beq pc 88 then some (.ifCond .ne 9, 97) else none) else (bif Nat.beq pc 91 then some (.aload_n 0, 0) else none))) else (bif Nat.blt pc 96 then (bif Nat.blt pc 93 then (bif Nat.beq pc 92 then some (.iconst 2, 0) else none) else (bif Nat.beq pc 93 then some (.invokevirtual 131, 0) else none)) else (bif Nat.blt pc 97 then (bif Nat.beq pc 96 then some (.ireturn, 0) else none) else (bif Nat.beq pc 97 then some (.aload 7, 0) else none)))) else (bif Nat.blt pc 104 then (bif Nat.blt pc 101 then (bif Nat.beq pc 99 then some (.iload 4, 0) else none) else (bif Nat.blt pc 103 then (bif Nat.beq pc 101 then some (.aload 6, 0) else none) else (bif Nat.beq pc 103 then some (.iload_n 2, 0) else none))) else (bif Nat.blt pc 109 then (bif Nat.blt pc 106 then (bif Nat.beq pc 104 then some (.iload 5, 0) else none) else (bif Nat.beq pc 106 then some (.invokevirtual 275, 0) else none)) else (bif Nat.blt pc 110 then (bif Nat.beq pc 109 then some (.iconst 1, 0) else none) else (bif Nat.beq pc 110 then some (.ireturn, 0) else none))))))
def MX6_copy : MI := (yX6_copy, cX6_copy, 8, (some .int), 6, zTab 111 tX6_copy)
theorem kX6_copy : zTok MX6_copy := zTok_of 111 tX6_copy rfl (by decide +kernel)
theorem oX6_copy : zokM MX6_copy 5 = true := zokM_mk (z_in (List.mem_of_getElem? (i := 777) (by decide +kernel)) rfl) z_ini6 (by decide +kernel)
theorem iX6_copy : zokI MX6_copy = true := zokI_mk (z_in (List.mem_of_getElem? (i := 775) (by decide +kernel)) rfl) (z_in (List.mem_of_getElem? (i := 776) (by decide +kernel)) rfl)
def tX6_write : Nat → Option (Instr × Nat) := fun pc => bif Nat.blt pc 37 then (bif Nat.blt pc 19 then (bif Nat.blt pc 7 then (bif Nat.blt pc 2 then (bif Nat.blt pc 1 then (bif Nat.beq pc 0 then some (.aload_n 0, 0) else none) else (bif Nat.beq pc 1 then some (.iload_n 2, 0) else none)) else (bif Nat.blt pc 5 then (bif Nat.beq pc 2 then some (.invokevirtual 124, 0) else none) else (bif Nat.blt pc 6 then (bif Nat.beq pc 5 then some (.astore_n 3, 0) else none) else (bif Nat.beq pc 6 then some (.iload_n 1, 0) else none)))) else (bif Nat.blt pc 13 then (bif Nat.blt pc 10 then (bif Nat.beq pc 7 then some (.invokestatic 105, 0) else none) else (bif Nat.beq pc 10 then some (.ifCond .eq 7, 17) else none)) else (bif Nat.blt pc 14 then (bif Nat.beq pc 13 then some (.aload_n 3, 0) else none) else (bif Nat.blt pc 17 then (bif Nat.beq pc 14 then some (.ifnonnull 6, 20) else none) else (bif Nat.beq pc 17 then some (.bipush (-2), 0) else none))))) else (bif Nat.blt pc 28 then (bif Nat.blt pc 21 then (bif Nat.blt pc 20 then (bif Nat.beq pc 19 then some (.ireturn, 0) else none) else (bif Nat.beq pc 20 then some (.aload_n 3, 0) else none)) else (bif Nat.blt pc 24 then (bif Nat.beq pc 21 then some (.invokevirtual 128, 0) else none) else (bif Nat.blt pc 27 then (bif Nat.beq pc 24 then some (.ifCond .eq 9, 33) else none) else (bif Nat.beq pc 27 then some (.aload_n 0, 0) else none)))) else (bif Nat.blt pc 32 then (bif Nat.blt pc 29 then (bif Nat.beq pc 28 then some (.iconst 1, 0) else none) else (bif Nat.beq pc 29 then some (.invokevirtual 131, 0) else none)) else (bif Nat.blt pc 33 then (bif Nat.beq pc 32 then some (.ireturn, 0) else none) else (bif Nat.blt pc 34 then (bif Nat.beq pc 33 then some (.aload_n 3, 0) else none) else (bif Nat.beq pc 34 then some (.invokevirtual 134, 0) else none)))))) else (bif Nat.blt pc 57 then (bif Nat.blt pc 47 then (bif Nat.blt pc 42 then (bif Nat.blt pc 39 then (bif Nat.beq pc 37 then some (.bipush 12, 0) else none) else (bif Nat.beq pc 39 then some (.invokestatic 279, 0) else none)) else (bif Nat.blt pc 44 then (bif Nat.beq pc 42 then some (.istore 4, 0) else none) else (bif Nat.blt pc 45 then (bif Nat.beq pc 44 then some (.iconst 0, 0) else none) else (bif Nat.beq pc 45 then some (.istore 5, 0) else none)))) else (bif Nat.blt pc 51 then (bif Nat.blt pc 49 then (bif Nat.beq pc 47 then some (.iload 5, 0) else none) else (bif Nat.beq pc 49 then some (.iload 4, 0) else none)) else (bif Nat.blt pc 54 then (bif Nat.beq pc 51 then some (.if_icmp .ge 25, 76) else none) else (bif Nat.blt pc 55 then (bif Nat.beq pc 54 then some (.aload_n 3, 0) else none) else (bif Nat.beq pc 55 then some (.iload 5, 0) else none))))) else (bif Nat.blt pc 67 then (bif Nat.blt pc 61 then (bif Nat.blt pc 58 then (bif Nat.beq pc 57 then some (.aload_n 0, 0) else none) else (bif Nat.beq pc 58 then some (.getfield 31, 0) else none)) else (bif Nat.blt pc 62 then (bif Nat.beq pc 61 then some (.iload_n 1, 0) else none) else (bif Nat.blt pc 64 then (bif Nat.beq pc 62 then some (.iload 5, 0) else none) else (bif Nat.beq pc 64 then some (.invokevirtual 138, 0) else none)))) else (bif Nat.blt pc 73 then (bif Nat.blt pc 70 then (bif Nat.beq pc 67 then some (.invokevirtual 265, 0) else none) else (bif Nat.beq pc 70 then some (.iinc 5 1, 0) else none)) else (bif Nat.blt pc 76 then (bif Nat.beq pc 73 then some (.goto (-26), 47) else none) else (bif Nat.blt pc 78 then (bif Nat.beq pc 76 then some (.iload 4, 0) else none) else (bif Nat.beq pc 78 then some (.ireturn, 0) else none))))))
def MX6_write : MI := (yX6_write, cX6_write, 6, (some .int), 6, zTab 79 tX6_write)
theorem kX6_write : zTok MX6_write := zTok_of 79 tX6_write rfl (by decide +kernel)
theorem oX6_write : zokM MX6_write 2 = true := zokM_mk (z_in (List.mem_of_getElem? (i := 795) (by decide +kernel)) rfl) z_ini6 (by decide +kernel)
theorem iX6_write : zokI MX6_write = true := zokI_mk (z_in (List.mem_of_getElem? (i := 793) (by decide +kernel)) rfl) (z_in (List.mem_of_getElem? (i := 794) (by decide +kernel)) rfl)
def tX6_count : Nat → Option (Instr × Nat) := fun pc => bif Nat.blt pc 88 then (bif Nat.blt pc 68 then (bif Nat.blt pc 59 then (bif Nat.blt pc 52 then (bif Nat.blt pc 1 then (bif Nat.beq pc 0 then some (.iload_n 1, 0) else none) else (bif Nat.beq pc 1 then some (.tableswitch 122 0 8 #[51, 59, 67, 75, 83, 91, 99, 109, 117], 51) else none)) else (bif Nat.blt pc 53 then (bif Nat.beq pc 52 then some (.aload_n 0, 0) else none) else (bif Nat.blt pc 56 then (bif Nat.beq pc 53 then some (.getfield 24, 0) else none) else (bif Nat.beq pc 56 then some (.invokevirtual 168, 0) else none)))) else (bif Nat.blt pc 61 then (bif Nat.blt pc 60 then (bif Nat.beq pc 59 then some (.ireturn, 0) else none) else (bif Nat.beq pc 60 then some (.aload_n 0, 0) else none)) else (bif Nat.blt pc 64 then (bif Nat.beq pc 61 then some (.getfield 18, 0) else none) else (bif Nat.blt pc 67 then (bif Nat.beq pc 64 then some (.invokevirtual 282, 0) else none) else (bif Nat.beq pc 67 then some (.ireturn, 0) else none))))) else (bif Nat.blt pc 77 then (bif Nat.blt pc 72 then (bif Nat.blt pc 69 then (bif Nat.beq pc 68 then some (.aload_n 0, 0) else none) else (bif Nat.beq pc 69 then some (.getfield 14, 0) else none)) else (bif Nat.blt pc 75 then (bif Nat.beq pc 72 then some (.invokevirtual 74, 0) else none) else (bif Nat.blt pc 76 then (bif Nat.beq pc 75 then some (.ireturn, 0) else none) else (bif Nat.beq pc 76 then some (.aload_n 0, 0) else none)))) else (bif Nat.blt pc 83 then (bif Nat.blt pc 80 then (bif Nat.beq pc 77 then some (.getfield 18, 0) else none) else (bif Nat.beq pc 80 then some (.invokevirtual 74, 0) else none)) else (bif Nat.blt pc 84 then (bif Nat.beq pc 83 then some (.ireturn, 0) else none) else (bif Nat.blt pc 85 then (bif Nat.beq pc 84 then some (.aload_n 0, 0) else none) else (bif Nat.beq pc 85 then some (.getfield 24, 0) else none)))))) else (bif Nat.blt pc 109 then (bif Nat.blt pc 99 then (bif Nat.blt pc 92 then (bif Nat.blt pc 91 then (bif Nat.beq pc 88 then some (.invokevirtual 121, 0) else none) else (bif Nat.beq pc 91 then some (.ireturn, 0) else none)) else (bif Nat.blt pc 93 then (bif Nat.beq pc 92 then some (.aload_n 0, 0) else none) else (bif Nat.blt pc 96 then (bif Nat.beq pc 93 then some (.getfield 31, 0) else none) else (bif Nat.beq pc 96 then some (.invokevirtual 192, 0) else none)))) else (bif Nat.blt pc 101 then (bif Nat.blt pc 100 then (bif Nat.beq pc 99 then some (.ireturn, 0) else none) else (bif Nat.beq pc 100 then some (.aload_n 0, 0) else none)) else (bif Nat.blt pc 104 then (bif Nat.beq pc 101 then some (.getfield 31, 0) else none) else (bif Nat.blt pc 106 then (bif Nat.beq pc 104 then some (.bipush 23, 0) else none) else (bif Nat.beq pc 106 then some (.invokevirtual 142, 0) else none))))) else (bif Nat.blt pc 118 then (bif Nat.blt pc 111 then (bif Nat.blt pc 110 then (bif Nat.beq pc 109 then some (.ireturn, 0) else none) else (bif Nat.beq pc 110 then some (.aload_n 0, 0) else none)) else (bif Nat.blt pc 114 then (bif Nat.beq pc 111 then some (.getfield 44, 0) else none) else (bif Nat.blt pc 117 then (bif Nat.beq pc 114 then some (.invokevirtual 214, 0) else none) else (bif Nat.beq pc 117 then some (.ireturn, 0) else none)))) else (bif Nat.blt pc 122 then (bif Nat.blt pc 119 then (bif Nat.beq pc 118 then some (.aload_n 0, 0) else none) else (bif Nat.beq pc 119 then some (.getfield 285, 0) else none)) else (bif Nat.blt pc 123 then (bif Nat.beq pc 122 then some (.ireturn, 0) else none) else (bif Nat.blt pc 125 then (bif Nat.beq pc 123 then some (.bipush (-2), 0) else none) else (bif Nat.beq pc 125 then some (.ireturn, 0) else none))))))
def MX6_count : MI := (yX6_count, cX6_count, 2, (some .int), 6, zTab 126 tX6_count)
theorem kX6_count : zTok MX6_count := zTok_of 126 tX6_count rfl (by decide +kernel)
theorem oX6_count : zokM MX6_count 1 = true := zokM_mk (z_in (List.mem_of_getElem? (i := 800) (by decide +kernel)) rfl) z_ini6 (by decide +kernel)
theorem iX6_count : zokI MX6_count = true := zokI_mk (z_in (List.mem_of_getElem? (i := 798) (by decide +kernel)) rfl) (z_in (List.mem_of_getElem? (i := 799) (by decide +kernel)) rfl)
def tX6_digest : Nat → Option (Instr × Nat) := fun pc => bif Nat.blt pc 146 then (bif Nat.blt pc 72 then (bif Nat.blt pc 39 then (bif Nat.blt pc 18 then (bif Nat.blt pc 7 then (bif Nat.blt pc 4 then (bif Nat.blt pc 3 then (bif Nat.beq pc 0 then some (.ldc2_w 289, 0) else none) else (bif Nat.beq pc 3 then some (.lstore_n 1, 0) else none)) else (bif Nat.blt pc 5 then (bif Nat.beq pc 4 then some (.iconst 0, 0) else none) else (bif Nat.blt pc 6 then (bif Nat.beq pc 5 then some (.istore_n 3, 0) else none) else (bif Nat.beq pc 6 then some (.iload_n 3, 0) else none)))) else (bif Nat.blt pc 13 then (bif Nat.blt pc 9 then (bif Nat.beq pc 7 then some (.bipush 7, 0) else none) else (bif Nat.blt pc 12 then (bif Nat.beq pc 9 then some (.if_icmp .gt 20, 29) else none) else (bif Nat.beq pc 12 then some (.lload_n 1, 0) else none))) else (bif Nat.blt pc 14 then (bif Nat.beq pc 13 then some (.aload_n 0, 0) else none) else (bif Nat.blt pc 15 then (bif Nat.beq pc 14 then some (.iload_n 3, 0) else none) else (bif Nat.beq pc 15 then some (.invokevirtual 291, 0) else none))))) else (bif Nat.blt pc 29 then (bif Nat.blt pc 22 then (bif Nat.blt pc 19 then (bif Nat.beq pc 18 then some (.i2l, 0) else none) else (bif Nat.beq pc 19 then some (.invokestatic 294, 0) else none)) else (bif Nat.blt pc 23 then (bif Nat.beq pc 22 then some (.lstore_n 1, 0) else none) else (bif Nat.blt pc 26 then (bif Nat.beq pc 23 then some (.iinc 3 1, 0) else none) else (bif Nat.beq pc 26 then some (.goto (-20), 6) else none)))) else (bif Nat.blt pc 32 then (bif Nat.blt pc 30 then (bif Nat.beq pc 29 then some (.lload_n 1, 0) else none) else (bif Nat.blt pc 31 then (bif Nat.beq pc 30 then some (.aload_n 0, 0) else none) else (bif Nat.beq pc 31 then some (.iconst 0, 0) else none))) else (bif Nat.blt pc 35 then (bif Nat.beq pc 32 then some (.invokevirtual 298, 0) else none) else (bif Nat.blt pc 36 then (bif Nat.beq pc 35 then some (.i2l, 0) else none) else (bif Nat.beq pc 36 then some (.invokestatic 294, 0) else none)))))) else (bif Nat.blt pc 54 then (bif Nat.blt pc 46 then (bif Nat.blt pc 41 then (bif Nat.blt pc 40 then (bif Nat.beq pc 39 then some (.lstore_n 1, 0) else none) else (bif Nat.beq pc 40 then some (.lload_n 1, 0) else none)) else (bif Nat.blt pc 42 then (bif Nat.beq pc 41 then some (.aload_n 0, 0) else none) else (bif Nat.blt pc 43 then (bif Nat.beq pc 42 then some (.iconst 1, 0) else none) else (bif Nat.beq pc 43 then some (.invokevirtual 298, 0) else none)))) else (bif Nat.blt pc 51 then (bif Nat.blt pc 47 then (bif Nat.beq pc 46 then some (.i2l, 0) else none) else (bif Nat.blt pc 50 then (bif Nat.beq pc 47 then some (.invokestatic 294, 0) else none) else (bif Nat.beq pc 50 then some (.lstore_n 1, 0) else none))) else (bif Nat.blt pc 52 then (bif Nat.beq pc 51 then some (.iconst 0, 0) else none) else (bif Nat.blt pc 53 then (bif Nat.beq pc 52 then some (.istore_n 3, 0) else none) else (bif Nat.beq pc 53 then some (.iload_n 3, 0) else none))))) else (bif Nat.blt pc 62 then (bif Nat.blt pc 59 then (bif Nat.blt pc 56 then (bif Nat.beq pc 54 then some (.bipush 24, 0) else none) else (bif Nat.beq pc 56 then some (.if_icmp .ge 55, 111) else none)) else (bif Nat.blt pc 60 then (bif Nat.beq pc 59 then some (.lload_n 1, 0) else none) else (bif Nat.blt pc 61 then (bif Nat.beq pc 60 then some (.aload_n 0, 0) else none) else (bif Nat.beq pc 61 then some (.iload_n 3, 0) else none)))) else (bif Nat.blt pc 69 then (bif Nat.blt pc 65 then (bif Nat.beq pc 62 then some (.invokevirtual 301, 0) else none) else (bif Nat.blt pc 66 then (bif Nat.beq pc 65 then some (.i2l, 0) else none) else (bif Nat.beq pc 66 then some (.invokestatic 294, 0) else none))) else (bif Nat.blt pc 70 then (bif Nat.beq pc 69 then some (.lstore_n 1, 0) else none) else (bif Nat.blt pc 71 then (bif Nat.beq pc 70 then some (.lload_n 1, 0) else none) else (bif Nat.beq pc 71 then some (.aload_n 0, 0) else none))))))) else (bif Nat.blt pc 108 then (bif Nat.blt pc 89 then (bif Nat.blt pc 81 then (bif Nat.blt pc 76 then (bif Nat.blt pc 73 then (bif Nat.beq pc 72 then some (.iload_n 3, 0) else none) else (bif Nat.beq pc 73 then some (.invokevirtual 304, 0) else none)) else (bif Nat.blt pc 77 then (bif Nat.beq pc 76 then some (.i2l, 0) else none) else (bif Nat.blt pc 80 then (bif Nat.beq pc 77 then some (.invokestatic 294, 0) else none) else (bif Nat.beq pc 80 then some (.lstore_n 1, 0) else none)))) else (bif Nat.blt pc 84 then (bif Nat.blt pc 82 then (bif Nat.beq pc 81 then some (.lload_n 1, 0) else none) else (bif Nat.blt pc 83 then (bif Nat.beq pc 82 then some (.aload_n 0, 0) else none) else (bif Nat.beq pc 83 then some (.iload_n 3, 0) else none))) else (bif Nat.blt pc 85 then (bif Nat.beq pc 84 then some (.iconst 0, 0) else none) else (bif Nat.blt pc 88 then (bif Nat.beq pc 85 then some (.invokevirtual 307, 0) else none) else (bif Nat.beq pc 88 then some (.i2l, 0) else none))))) else (bif Nat.blt pc 96 then (bif Nat.blt pc 93 then (bif Nat.blt pc 92 then (bif Nat.beq pc 89 then some (.invokestatic 294, 0) else none) else (bif Nat.beq pc 92 then some (.lstore_n 1, 0) else none)) else (bif Nat.blt pc 94 then (bif Nat.beq pc 93 then some (.lload_n 1, 0) else none) else (bif Nat.blt pc 95 then (bif Nat.beq pc 94 then some (.aload_n 0, 0) else none) else (bif Nat.beq pc 95 then some (.iload_n 3, 0) else none)))) else (bif Nat.blt pc 101 then (bif Nat.blt pc 97 then (bif Nat.beq pc 96 then some (.iconst 4, 0) else none) else (bif Nat.blt pc 100 then (bif Nat.beq pc 97 then some (.invokevirtual 307, 0) else none) else (bif Nat.beq pc 100 then some (.i2l, 0) else none))) else (bif Nat.blt pc 104 then (bif Nat.beq pc 101 then some (.invokestatic 294, 0) else none) else (bif Nat.blt pc 105 then (bif Nat.beq pc 104 then some (.lstore_n 1, 0) else none) else (bif Nat.beq pc 105 then some (.iinc 3 1, 0) else none)))))) else (bif Nat.blt pc 127 then (bif Nat.blt pc 115 then (bif Nat.blt pc 112 then (bif Nat.blt pc 111 then (bif Nat.beq pc 108 then some (.goto (-55), 53) else none) else (bif Nat.beq pc 111 then some (.iconst 0, 0) else none)) else (bif Nat.blt pc 113 then (bif Nat.beq pc 112 then some (.istore_n 3, 0) else none) else (bif Nat.blt pc 114 then (bif Nat.beq pc 113 then some (.iload_n 3, 0) else none) else (bif Nat.beq pc 114 then some (.aload_n 0, 0) else none)))) else (bif Nat.blt pc 124 then (bif Nat.blt pc 118 then (bif Nat.beq pc 115 then some (.getfield 24, 0) else none) else (bif Nat.blt pc 121 then (bif Nat.beq pc 118 then some (.invokevirtual 168, 0) else none) else (bif Nat.beq pc 121 then some (.if_icmp .ge 23, 144) else none))) else (bif Nat.blt pc 125 then (bif Nat.beq pc 124 then some (.aload_n 0, 0) else none) else (bif Nat.blt pc 126 then (bif Nat.beq pc 125 then some (.lload_n 1, 0) else none) else (bif Nat.beq pc 126 then some (.iload_n 3, 0) else none))))) else (bif Nat.blt pc 134 then (bif Nat.blt pc 131 then (bif Nat.blt pc 130 then (bif Nat.beq pc 127 then some (.invokevirtual 310, 0) else none) else (bif Nat.beq pc 130 then some (.lstore_n 1, 0) else none)) else (bif Nat.blt pc 132 then (bif Nat.beq pc 131 then some (.aload_n 0, 0) else none) else (bif Nat.blt pc 133 then (bif Nat.beq pc 132 then some (.lload_n 1, 0) else none) else (bif Nat.beq pc 133 then some (.iload_n 3, 0) else none)))) else (bif Nat.blt pc 141 then (bif Nat.blt pc 137 then (bif Nat.beq pc 134 then some (.invokevirtual 314, 0) else none) else (bif Nat.blt pc 138 then (bif Nat.beq pc 137 then some (.lstore_n 1, 0) else none) else (bif Nat.beq pc 138 then some (.iinc 3 1, 0) else none))) else (bif Nat.blt pc 144 then (bif Nat.beq pc 141 then some (.goto (-28), 113) else none) else (bif Nat.blt pc 145 then (bif Nat.beq pc 144 then some (.lload_n 1, 0) else none) else (bif Nat.beq pc 145 then some (.aload_n 0, 0) else none)))))))) else (bif Nat.blt pc 217 then (bif Nat.blt pc 181 then (bif Nat.blt pc 165 then (bif Nat.blt pc 155 then (bif Nat.blt pc 150 then (bif Nat.blt pc 147 then (bif Nat.beq pc 146 then some (.iconst 0, 0) else none) else (bif Nat.beq pc 147 then some (.invokevirtual 317, 0) else none)) else (bif Nat.blt pc 151 then (bif Nat.beq pc 150 then some (.i2l, 0) else none) else (bif Nat.blt pc 154 then (bif Nat.beq pc 151 then some (.invokestatic 294, 0) else none) else (bif Nat.beq pc 154 then some (.lstore_n 1, 0) else none)))) else (bif Nat.blt pc 158 then (bif Nat.blt pc 156 then (bif Nat.beq pc 155 then some (.lload_n 1, 0) else none) else (bif Nat.blt pc 157 then (bif Nat.beq pc 156 then some (.aload_n 0, 0) else none) else (bif Nat.beq pc 157 then some (.iconst 1, 0) else none))) else (bif Nat.blt pc 161 then (bif Nat.beq pc 158 then some (.invokevirtual 317, 0) else none) else (bif Nat.blt pc 162 then (bif Nat.beq pc 161 then some (.i2l, 0) else none) else (bif Nat.beq pc 162 then some (.invokestatic 294, 0) else none))))) else (bif Nat.blt pc 172 then (bif Nat.blt pc 167 then (bif Nat.blt pc 166 then (bif Nat.beq pc 165 then some (.lstore_n 1, 0) else none) else (bif Nat.beq pc 166 then some (.lload_n 1, 0) else none)) else (bif Nat.blt pc 168 then (bif Nat.beq pc 167 then some (.aload_n 0, 0) else none) else (bif Nat.blt pc 171 then (bif Nat.beq pc 168 then some (.invokevirtual 320, 0) else none) else (bif Nat.beq pc 171 then some (.i2l, 0) else none)))) else (bif Nat.blt pc 177 then (bif Nat.blt pc 175 then (bif Nat.beq pc 172 then some (.invokestatic 294, 0) else none) else (bif Nat.blt pc 176 then (bif Nat.beq pc 175 then some (.lstore_n 1, 0) else none) else (bif Nat.beq pc 176 then some (.lload_n 1, 0) else none))) else (bif Nat.blt pc 178 then (bif Nat.beq pc 177 then some (.aload_n 0, 0) else none) else (bif Nat.blt pc 180 then (bif Nat.beq pc 178 then some (.bipush 8, 0) else none) else (bif Nat.beq pc 180 then some (.iconst 0, 0) else none)))))) else (bif Nat.blt pc 201 then (bif Nat.blt pc 190 then (bif Nat.blt pc 185 then (bif Nat.blt pc 184 then (bif Nat.beq pc 181 then some (.invokevirtual 323, 0) else none) else (bif Nat.beq pc 184 then some (.i2l, 0) else none)) else (bif Nat.blt pc 188 then (bif Nat.beq pc 185 then some (.invokestatic 294, 0) else none) else (bif Nat.blt pc 189 then (bif Nat.beq pc 188 then some (.lstore_n 1, 0) else none) else (bif Nat.beq pc 189 then some (.lload_n 1, 0) else none)))) else (bif Nat.blt pc 194 then (bif Nat.blt pc 191 then (bif Nat.beq pc 190 then some (.aload_n 0, 0) else none) else (bif Nat.blt pc 193 then (bif Nat.beq pc 191 then some (.bipush 8, 0) else none) else (bif Nat.beq pc 193 then some (.iconst 1, 0) else none))) else (bif Nat.blt pc 197 then (bif Nat.beq pc 194 then some (.invokevirtual 323, 0) else none) else (bif Nat.blt pc 198 then (bif Nat.beq pc 197 then some (.i2l, 0) else none) else (bif Nat.beq pc 198 then some (.invokestatic 294, 0) else none))))) else (bif Nat.blt pc 207 then (bif Nat.blt pc 203 then (bif Nat.blt pc 202 then (bif Nat.beq pc 201 then some (.lstore_n 1, 0) else none) else (bif Nat.beq pc 202 then some (.lload_n 1, 0) else none)) else (bif Nat.blt pc 204 then (bif Nat.beq pc 203 then some (.aload_n 0, 0) else none) else (bif Nat.blt pc 206 then (bif Nat.beq pc 204 then some (.bipush 8, 0) else none) else (bif Nat.beq pc 206 then some (.iconst 0, 0) else none)))) else (bif Nat.blt pc 214 then (bif Nat.blt pc 210 then (bif Nat.beq pc 207 then some (.invokevirtual 326, 0) else none) else (bif Nat.blt pc 211 then (bif Nat.beq pc 210 then some (.i2l, 0) else none) else (bif Nat.beq pc 211 then some (.invokestatic 294, 0) else none))) else (bif Nat.blt pc 215 then (bif Nat.beq pc 214 then some (.lstore_n 1, 0) else none) else (bif Nat.blt pc 216 then (bif Nat.beq pc 215 then some (.lload_n 1, 0) else none) else (bif Nat.beq pc 216 then some (.aload_n 0, 0) else none))))))) else (bif Nat.blt pc 252 then (bif Nat.blt pc 235 then (bif Nat.blt pc 227 then (bif Nat.blt pc 220 then (bif Nat.blt pc 219 then (bif Nat.beq pc 217 then some (.bipush 8, 0) else none) else (bif Nat.beq pc 219 then some (.iconst 1, 0) else none)) else (bif Nat.blt pc 223 then (bif Nat.beq pc 220 then some (.invokevirtual 326, 0) else none) else (bif Nat.blt pc 224 then (bif Nat.beq pc 223 then some (.i2l, 0) else none) else (bif Nat.beq pc 224 then some (.invokestatic 294, 0) else none)))) else (bif Nat.blt pc 230 then (bif Nat.blt pc 228 then (bif Nat.beq pc 227 then some (.lstore_n 1, 0) else none) else (bif Nat.blt pc 229 then (bif Nat.beq pc 228 then some (.lload_n 1, 0) else none) else (bif Nat.beq pc 229 then some (.aload_n 0, 0) else none))) else (bif Nat.blt pc 231 then (bif Nat.beq pc 230 then some (.iconst (-1), 0) else none) else (bif Nat.blt pc 234 then (bif Nat.beq pc 231 then some (.invokevirtual 329, 0) else none) else (bif Nat.beq pc 234 then some (.i2l, 0) else none))))) else (bif Nat.blt pc 242 then (bif Nat.blt pc 239 then (bif Nat.blt pc 238 then (bif Nat.beq pc 235 then some (.invokestatic 294, 0) else none) else (bif Nat.beq pc 238 then some (.lstore_n 1, 0) else none)) else (bif Nat.blt pc 240 then (bif Nat.beq pc 239 then some (.lload_n 1, 0) else none) else (bif Nat.blt pc 241 then (bif Nat.beq pc 240 then some (.aload_n 0, 0) else none) else (bif Nat.beq pc 241 then some (.iconst 0, 0) else none)))) else (bif Nat.blt pc 249 then (bif Nat.blt pc 245 then (bif Nat.beq pc 242 then some (.invokevirtual 329, 0) else none) else (bif Nat.blt pc 246 then (bif Nat.beq pc 245 then some (.i2l, 0) else none) else (bif Nat.beq pc 246 then some (.invokestatic 294, 0) else none))) else (bif Nat.blt pc 250 then (bif Nat.beq pc 249 then some (.lstore_n 1, 0) else none) else (bif Nat.blt pc 251 then (bif Nat.beq pc 250 then some (.lload_n 1, 0) else none) else (bif Nat.beq pc 251 then some (.aload_n 0, 0) else none)))))) else (bif Nat.blt pc 271 then (bif Nat.blt pc 261 then (bif Nat.blt pc 256 then (bif Nat.blt pc 255 then (bif Nat.beq pc 252 then some (.invokevirtual 332, 0) else none) else (bif Nat.beq pc 255 then some (.i2l, 0) else none)) else (bif Nat.blt pc 259 then (bif Nat.beq pc 256 then some (.invokestatic 294, 0) else none) else (bif Nat.blt pc 260 then (bif Nat.beq pc 259 then some (.lstore_n 1, 0) else none) else (bif Nat.beq pc 260 then some (.lload_n 1, 0) else none)))) else (bif Nat.blt pc 266 then (bif Nat.blt pc 262 then (bif Nat.beq pc 261 then some (.aload_n 0, 0) else none) else (bif Nat.blt pc 264 then (bif Nat.beq pc 262 then some (.bipush 7, 0) else none) else (bif Nat.beq pc 264 then some (.bipush 6, 0) else none))) else (bif Nat.blt pc 267 then (bif Nat.beq pc 266 then some (.iconst 0, 0) else none) else (bif Nat.blt pc 270 then (bif Nat.beq pc 267 then some (.invokevirtual 335, 0) else none) else (bif Nat.beq pc 270 then some (.i2l, 0) else none))))) else (bif Nat.blt pc 279 then (bif Nat.blt pc 275 then (bif Nat.blt pc 274 then (bif Nat.beq pc 271 then some (.invokestatic 294, 0) else none) else (bif Nat.beq pc 274 then some (.lstore_n 1, 0) else none)) else (bif Nat.blt pc 276 then (bif Nat.beq pc 275 then some (.lload_n 1, 0) else none) else (bif Nat.blt pc 277 then (bif Nat.beq pc 276 then some (.aload_n 0, 0) else none) else (bif Nat.beq pc 277 then some (.bipush 7, 0) else none)))) else (bif Nat.blt pc 285 then (bif Nat.blt pc 281 then (bif Nat.beq pc 279 then some (.bipush 6, 0) else none) else (bif Nat.blt pc 282 then (bif Nat.beq pc 281 then some (.iconst 1, 0) else none) else (bif Nat.beq pc 282 then some (.invokevirtual 335, 0) else none))) else (bif Nat.blt pc 286 then (bif Nat.beq pc 285 then some (.i2l, 0) else none) else (bif Nat.blt pc 289 then (bif Nat.beq pc 286 then some (.invokestatic 294, 0) else none) else (bif Nat.beq pc 289 then some (.lreturn, 0) else none))))))))
def MX6_digest : MI := (yX6_digest, cX6_digest, 4, (some .long), 6, zTab 290 tX6_digest)
theorem kX6_digest : zTok MX6_digest := zTok_of 290 tX6_digest rfl (by decide +kernel)
theorem oX6_digest : zokM MX6_digest 0 = true := zokM_mk (z_in (List.mem_of_getElem? (i := 805) (by decide +kernel)) rfl) z_ini6 (by decide +kernel)
theorem iX6_digest : zokI MX6_digest = true := zokI_mk (z_in (List.mem_of_getElem? (i := 803) (by decide +kernel)) rfl) (z_in (List.mem_of_getElem? (i := 804) (by decide +kernel)) rfl)
def tX6_isFrom0To : Nat → Option (Instr × Nat) := fun pc => bif Nat.blt pc 6 then (bif Nat.blt pc 4 then (bif Nat.blt pc 1 then (bif Nat.beq pc 0 then some (.iload_n 0, 0) else none) else (bif Nat.beq pc 1 then some (.ifCond .lt 12, 13) else none)) else (bif Nat.blt pc 5 then (bif Nat.beq pc 4 then some (.iload_n 0, 0) else none) else (bif Nat.beq pc 5 then some (.iload_n 1, 0) else none))) else (bif Nat.blt pc 10 then (bif Nat.blt pc 9 then (bif Nat.beq pc 6 then some (.if_icmp .gt 7, 13) else none) else (bif Nat.beq pc 9 then some (.iconst 1, 0) else none)) else (bif Nat.blt pc 13 then (bif Nat.beq pc 10 then some (.goto 4, 14) else none) else (bif Nat.blt pc 14 then (bif Nat.beq pc 13 then some (.iconst 0, 0) else none) else (bif Nat.beq pc 14 then some (.ireturn, 0) else none))))
def MX6_isFrom0To : MI := (yX6_isFrom0To, cX6_isFrom0To, 2, (some .boolean), 6, zTab 15 tX6_isFrom0To)
theorem kX6_isFrom0To : zTok MX6_isFrom0To := zTok_of 15 tX6_isFrom0To rfl (by decide +kernel)
theorem oX6_isFrom0To : zokM MX6_isFrom0To 2 = true := zokM_mk (z_in (List.mem_of_getElem? (i := 441) (by decide +kernel)) rfl) z_ini6 (by decide +kernel)
theorem iX6_isFrom0To : zokS MX6_isFrom0To = true := zokS_mk (z_in (List.mem_of_getElem? (i := 440) (by decide +kernel)) rfl)
def tX6_isMinute : Nat → Option (Instr × Nat) := fun pc => bif Nat.blt pc 3 then (bif Nat.blt pc 1 then (bif Nat.beq pc 0 then some (.iload_n 0, 0) else none) else (bif Nat.beq pc 1 then some (.bipush 23, 0) else none)) else (bif Nat.blt pc 6 then (bif Nat.beq pc 3 then some (.invokestatic 91, 0) else none) else (bif Nat.beq pc 6 then some (.ireturn, 0) else none))
def MX6_isMinute : MI := (yX6_isMinute, cX6_isMinute, 1, (some .boolean), 6, zTab 7 tX6_isMinute)
theorem kX6_isMinute : zTok MX6_isMinute := zTok_of 7 tX6_isMinute rfl (by decide +kernel)
theorem oX6_isMinute : zokM MX6_isMinute 1 = true := zokM_mk (z_in (List.mem_of_getElem? (i := 458) (by decide +kernel)) rfl) z_ini6 (by decide +kernel)
theorem iX6_isMinute : zokS MX6_isMinute = true := zokS_mk (z_in (List.mem_of_getElem? (i := 457) (by decide +kernel)) rfl)
def tX6_isForm : Nat → Option (Instr × Nat) := fun pc => bif Nat.blt pc 2 then (bif Nat.blt pc 1 then (bif Nat.beq pc 0 then some (.iload_n 0, 0) else none) else (bif Nat.beq pc 1 then some (.iconst 2, 0) else none)) else (bif Nat.blt pc 5 then (bif Nat.beq pc 2 then some (.invokestatic 91, 0) else none) else (bif Nat.beq pc 5 then some (.ireturn, 0) else none))
def MX6_isForm : MI := (yX6_isForm, cX6_isForm, 1, (some .boolean), 6, zTab 6 tX6_isForm)
theorem kX6_isForm : zTok MX6_isForm := zTok_of 6 tX6_isForm rfl (by decide +kernel)
theorem oX6_isForm : zokM MX6_isForm 1 = true := zokM_mk (z_in (List.mem_of_getElem? (i := 737) (by decide +kernel)) rfl) z_ini6 (by decide +kernel)
theorem iX6_isForm : zokS MX6_isForm = true := zokS_mk (z_in (List.mem_of_getElem? (i := 736) (by decide +kernel)) rfl)
def tX6_isPerson : Nat → Option (Instr × Nat) := fun pc => bif Nat.blt pc 8 then (bif Nat.blt pc 2 then (bif Nat.blt pc 1 then (bif Nat.beq pc 0 then some (.iload_n 1, 0) else none) else (bif Nat.beq pc 1 then some (.aload_n 0, 0) else none)) else (bif Nat.blt pc 5 then (bif Nat.beq pc 2 then some (.getfield 24, 0) else none) else (bif Nat.beq pc 5 then some (.invokevirtual 168, 0) else none))) else (bif Nat.blt pc 10 then (bif Nat.blt pc 9 then (bif Nat.beq pc 8 then some (.iconst 1, 0) else none) else (bif Nat.beq pc 9 then some (.isub, 0) else none)) else (bif Nat.blt pc 13 then (bif Nat.beq pc 10 then some (.invokestatic 91, 0) else none) else (bif Nat.beq pc 13 then some (.ireturn, 0) else none)))
def MX6_isPerson : MI := (yX6_isPerson, cX6_isPerson, 2, (some .boolean), 6, zTab 14 tX6_isPerson)
theorem kX6_isPerson : zTok MX6_isPerson := zTok_of 14 tX6_isPerson rfl (by decide +kernel)
theorem oX6_isPerson : zokM MX6_isPerson 1 = true := zokM_mk (z_in (List.mem_of_getElem? (i := 437) (by decide +kernel)) rfl) z_ini6 (by decide +kernel)
theorem iX6_isPerson : zokI MX6_isPerson = true := zokI_mk (z_in (List.mem_of_getElem? (i := 436) (by decide +kernel)) rfl) (z_in (List.mem_of_getElem? (i := 9) (by decide +kernel)) rfl)
def tX6_textOf : Nat → Option (Instr × Nat) := fun pc => bif Nat.blt pc 10 then (bif Nat.blt pc 5 then (bif Nat.blt pc 1 then (bif Nat.beq pc 0 then some (.iload_n 1, 0) else none) else (bif Nat.blt pc 4 then (bif Nat.beq pc 1 then some (.ifCond .ne 8, 9) else none) else (bif Nat.beq pc 4 then some (.aload_n 0, 0) else none))) else (bif Nat.blt pc 8 then (bif Nat.beq pc 5 then some (.getfield 14, 0) else none) else (bif Nat.blt pc 9 then (bif Nat.beq pc 8 then some (.areturn, 0) else none) else (bif Nat.beq pc 9 then some (.iload_n 1, 0) else none)))) else (bif Nat.blt pc 15 then (bif Nat.blt pc 11 then (bif Nat.beq pc 10 then some (.iconst 1, 0) else none) else (bif Nat.blt pc 14 then (bif Nat.beq pc 11 then some (.if_icmp .ne 10, 21) else none) else (bif Nat.beq pc 14 then some (.aload_n 0, 0) else none))) else (bif Nat.blt pc 21 then (bif Nat.blt pc 18 then (bif Nat.beq pc 15 then some (.getfield 18, 0) else none) else (bif Nat.beq pc 18 then some (.goto 4, 22) else none)) else (bif Nat.blt pc 22 then (bif Nat.beq pc 21 then some (.aconst_null, 0) else none) else (bif Nat.beq pc 22 then some (.areturn, 0) else none))))
def MX6_textOf : MI := (yX6_textOf, cX6_textOf, 2, (some (.object "MiddleQueue$Text")), 6, zTab 23 tX6_textOf)
theorem kX6_textOf : zTok MX6_textOf := zTok_of 23 tX6_textOf rfl (by decide +kernel)
theorem oX6_textOf : zokM MX6_textOf 1 = true := zokM_mk (z_in (List.mem_of_getElem? (i := 400) (by decide +kernel)) rfl) z_ini6 (by decide +kernel)
theorem iX6_textOf : zokI MX6_textOf = true := zokI_mk (z_in (List.mem_of_getElem? (i := 399) (by decide +kernel)) rfl) (z_in (List.mem_of_getElem? (i := 8) (by decide +kernel)) rfl)
def tX6_sheetOf : Nat → Option (Instr × Nat) := fun pc => bif Nat.blt pc 13 then (bif Nat.blt pc 5 then (bif Nat.blt pc 1 then (bif Nat.beq pc 0 then some (.iload_n 1, 0) else none) else (bif Nat.blt pc 4 then (bif Nat.beq pc 1 then some (.ifCond .lt 21, 22) else none) else (bif Nat.beq pc 4 then some (.iload_n 1, 0) else none))) else (bif Nat.blt pc 9 then (bif Nat.blt pc 6 then (bif Nat.beq pc 5 then some (.aload_n 0, 0) else none) else (bif Nat.beq pc 6 then some (.getfield 50, 0) else none)) else (bif Nat.blt pc 10 then (bif Nat.beq pc 9 then some (.arraylength, 0) else none) else (bif Nat.beq pc 10 then some (.if_icmp .ge 12, 22) else none)))) else (bif Nat.blt pc 18 then (bif Nat.blt pc 14 then (bif Nat.beq pc 13 then some (.aload_n 0, 0) else none) else (bif Nat.blt pc 17 then (bif Nat.beq pc 14 then some (.getfield 50, 0) else none) else (bif Nat.beq pc 17 then some (.iload_n 1, 0) else none))) else (bif Nat.blt pc 22 then (bif Nat.blt pc 19 then (bif Nat.beq pc 18 then some (.aaload, 0) else none) else (bif Nat.beq pc 19 then some (.goto 4, 23) else none)) else (bif Nat.blt pc 23 then (bif Nat.beq pc 22 then some (.aconst_null, 0) else none) else (bif Nat.beq pc 23 then some (.areturn, 0) else none))))
def MX6_sheetOf : MI := (yX6_sheetOf, cX6_sheetOf, 2, (some (.object "MiddleQueue$Sheet")), 6, zTab 24 tX6_sheetOf)
theorem kX6_sheetOf : zTok MX6_sheetOf := zTok_of 24 tX6_sheetOf rfl (by decide +kernel)
theorem oX6_sheetOf : zokM MX6_sheetOf 1 = true := zokM_mk (z_in (List.mem_of_getElem? (i := 488) (by decide +kernel)) rfl) z_ini6 (by decide +kernel)
theorem iX6_sheetOf : zokI MX6_sheetOf = true := zokI_mk (z_in (List.mem_of_getElem? (i := 487) (by decide +kernel)) rfl) (z_in (List.mem_of_getElem? (i := 11) (by decide +kernel)) rfl)
def tX6_found : Nat → Option (Instr × Nat) := fun pc => bif Nat.blt pc 5 then (bif Nat.blt pc 1 then (bif Nat.beq pc 0 then some (.aload_n 0, 0) else none) else (bif Nat.blt pc 2 then (bif Nat.beq pc 1 then some (.iload_n 1, 0) else none) else (bif Nat.beq pc 2 then some (.putfield 285, 0) else none))) else (bif Nat.blt pc 8 then (bif Nat.blt pc 7 then (bif Nat.beq pc 5 then some (.bipush (-10), 0) else none) else (bif Nat.beq pc 7 then some (.iload_n 1, 0) else none)) else (bif Nat.blt pc 9 then (bif Nat.beq pc 8 then some (.isub, 0) else none) else (bif Nat.beq pc 9 then some (.ireturn, 0) else none)))
def MX6_found : MI := (yX6_found, cX6_found, 2, (some .int), 6, zTab 10 tX6_found)
theorem kX6_found : zTok MX6_found := zTok_of 10 tX6_found rfl (by decide +kernel)
theorem oX6_found : zokM MX6_found 1 = true := zokM_mk (z_in (List.mem_of_getElem? (i := 496) (by decide +kernel)) rfl) z_ini6 (by decide +kernel)
theorem iX6_found : zokI MX6_found = true := zokI_mk (z_in (List.mem_of_getElem? (i := 495) (by decide +kernel)) rfl) (z_in (List.mem_of_getElem? (i := 12) (by decide +kernel)) rfl)
def tX6_settle : Nat → Option (Instr × Nat) := fun pc => bif Nat.blt pc 12 then (bif Nat.blt pc 5 then (bif Nat.blt pc 1 then (bif Nat.beq pc 0 then some (.aload_n 0, 0) else none) else (bif Nat.blt pc 4 then (bif Nat.beq pc 1 then some (.getfield 24, 0) else none) else (bif Nat.beq pc 4 then some (.aload_n 0, 0) else none))) else (bif Nat.blt pc 8 then (bif Nat.beq pc 5 then some (.getfield 14, 0) else none) else (bif Nat.blt pc 11 then (bif Nat.beq pc 8 then some (.invokevirtual 338, 0) else none) else (bif Nat.beq pc 11 then some (.aload_n 0, 0) else none)))) else (bif Nat.blt pc 19 then (bif Nat.blt pc 15 then (bif Nat.beq pc 12 then some (.getfield 24, 0) else none) else (bif Nat.blt pc 16 then (bif Nat.beq pc 15 then some (.aload_n 0, 0) else none) else (bif Nat.beq pc 16 then some (.getfield 18, 0) else none))) else (bif Nat.blt pc 23 then (bif Nat.blt pc 22 then (bif Nat.beq pc 19 then some (.invokevirtual 342, 0) else none) else (bif Nat.beq pc 22 then some (.aload_n 0, 0) else none)) else (bif Nat.blt pc 26 then (bif Nat.beq pc 23 then some (.invokevirtual 115, 0) else none) else (bif Nat.beq pc 26 then some (.return_, 0) else none))))
def MX6_settle : MI := (yX6_settle, cX6_settle, 1, none, 6, zTab 27 tX6_settle)
theorem kX6_settle : zTok MX6_settle := zTok_of 27 tX6_settle rfl (by decide +kernel)
theorem oX6_settle : zokM MX6_settle 0 = true := zokM_mk (z_in (List.mem_of_getElem? (i := 217) (by decide +kernel)) rfl) z_ini6 (by decide +kernel)
theorem iX6_settle : zokI MX6_settle = true := zokI_mk (z_in (List.mem_of_getElem? (i := 216) (by decide +kernel)) rfl) (z_in (List.mem_of_getElem? (i := 0) (by decide +kernel)) rfl)
def tX6_happen : Nat → Option (Instr × Nat) := fun pc => bif Nat.blt pc 9 then (bif Nat.blt pc 4 then (bif Nat.blt pc 1 then (bif Nat.beq pc 0 then some (.aload_n 0, 0) else none) else (bif Nat.beq pc 1 then some (.getfield 31, 0) else none)) else (bif Nat.blt pc 5 then (bif Nat.beq pc 4 then some (.aload_n 0, 0) else none) else (bif Nat.blt pc 8 then (bif Nat.beq pc 5 then some (.getfield 24, 0) else none) else (bif Nat.beq pc 8 then some (.iconst (-1), 0) else none)))) else (bif Nat.blt pc 13 then (bif Nat.blt pc 12 then (bif Nat.beq pc 9 then some (.invokevirtual 182, 0) else none) else (bif Nat.beq pc 12 then some (.aload_n 0, 0) else none)) else (bif Nat.blt pc 14 then (bif Nat.beq pc 13 then some (.iconst 0, 0) else none) else (bif Nat.blt pc 17 then (bif Nat.beq pc 14 then some (.putfield 345, 0) else none) else (bif Nat.beq pc 17 then some (.return_, 0) else none))))
def MX6_happen : MI := (yX6_happen, cX6_happen, 1, none, 6, zTab 18 tX6_happen)
theorem kX6_happen : zTok MX6_happen := zTok_of 18 tX6_happen rfl (by decide +kernel)
theorem oX6_happen : zokM MX6_happen 0 = true := zokM_mk (z_in (List.mem_of_getElem? (i := 278) (by decide +kernel)) rfl) z_ini6 (by decide +kernel)
theorem iX6_happen : zokI MX6_happen = true := zokI_mk (z_in (List.mem_of_getElem? (i := 277) (by decide +kernel)) rfl) (z_in (List.mem_of_getElem? (i := 3) (by decide +kernel)) rfl)
def tX6_takeEvent : Nat → Option (Instr × Nat) := fun pc => bif Nat.blt pc 31 then (bif Nat.blt pc 15 then (bif Nat.blt pc 5 then (bif Nat.blt pc 1 then (bif Nat.beq pc 0 then some (.iload_n 1, 0) else none) else (bif Nat.blt pc 2 then (bif Nat.beq pc 1 then some (.iconst 2, 0) else none) else (bif Nat.beq pc 2 then some (.invokestatic 91, 0) else none))) else (bif Nat.blt pc 9 then (bif Nat.blt pc 8 then (bif Nat.beq pc 5 then some (.ifCond .eq 19, 24) else none) else (bif Nat.beq pc 8 then some (.iload_n 2, 0) else none)) else (bif Nat.blt pc 12 then (bif Nat.beq pc 9 then some (.invokestatic 105, 0) else none) else (bif Nat.beq pc 12 then some (.ifCond .eq 12, 24) else none)))) else (bif Nat.blt pc 24 then (bif Nat.blt pc 18 then (bif Nat.blt pc 16 then (bif Nat.beq pc 15 then some (.iload_n 3, 0) else none) else (bif Nat.beq pc 16 then some (.bipush 11, 0) else none)) else (bif Nat.blt pc 21 then (bif Nat.beq pc 18 then some (.invokestatic 91, 0) else none) else (bif Nat.beq pc 21 then some (.ifCond .ne 6, 27) else none))) else (bif Nat.blt pc 27 then (bif Nat.blt pc 26 then (bif Nat.beq pc 24 then some (.bipush (-2), 0) else none) else (bif Nat.beq pc 26 then some (.ireturn, 0) else none)) else (bif Nat.blt pc 28 then (bif Nat.beq pc 27 then some (.aload_n 0, 0) else none) else (bif Nat.beq pc 28 then some (.getfield 24, 0) else none))))) else (bif Nat.blt pc 46 then (bif Nat.blt pc 39 then (bif Nat.blt pc 34 then (bif Nat.beq pc 31 then some (.invokevirtual 121, 0) else none) else (bif Nat.blt pc 36 then (bif Nat.beq pc 34 then some (.bipush 8, 0) else none) else (bif Nat.beq pc 36 then some (.if_icmp .lt 6, 42) else none))) else (bif Nat.blt pc 42 then (bif Nat.blt pc 41 then (bif Nat.beq pc 39 then some (.bipush (-4), 0) else none) else (bif Nat.beq pc 41 then some (.ireturn, 0) else none)) else (bif Nat.blt pc 43 then (bif Nat.beq pc 42 then some (.aload_n 0, 0) else none) else (bif Nat.beq pc 43 then some (.getfield 24, 0) else none)))) else (bif Nat.blt pc 52 then (bif Nat.blt pc 48 then (bif Nat.blt pc 47 then (bif Nat.beq pc 46 then some (.iload_n 1, 0) else none) else (bif Nat.beq pc 47 then some (.iload_n 2, 0) else none)) else (bif Nat.blt pc 49 then (bif Nat.beq pc 48 then some (.iload_n 3, 0) else none) else (bif Nat.beq pc 49 then some (.invokevirtual 195, 0) else none))) else (bif Nat.blt pc 56 then (bif Nat.blt pc 53 then (bif Nat.beq pc 52 then some (.aload_n 0, 0) else none) else (bif Nat.beq pc 53 then some (.getfield 24, 0) else none)) else (bif Nat.blt pc 59 then (bif Nat.beq pc 56 then some (.invokevirtual 121, 0) else none) else (bif Nat.beq pc 59 then some (.ireturn, 0) else none)))))
def MX6_takeEvent : MI := (yX6_takeEvent, cX6_takeEvent, 4, (some .int), 6, zTab 60 tX6_takeEvent)
theorem kX6_takeEvent : zTok MX6_takeEvent := zTok_of 60 tX6_takeEvent rfl (by decide +kernel)
theorem oX6_takeEvent : zokM MX6_takeEvent 3 = true := zokM_mk (z_in (List.mem_of_getElem? (i := 467) (by decide +kernel)) rfl) z_ini6 (by decide +kernel)
theorem iX6_takeEvent : zokI MX6_takeEvent = true := zokI_mk (z_in (List.mem_of_getElem? (i := 466) (by decide +kernel)) rfl) (z_in (List.mem_of_getElem? (i := 10) (by decide +kernel)) rfl)
def tX6_stateOf : Nat → Option (Instr × Nat) := fun pc => bif Nat.blt pc 23 then (bif Nat.blt pc 12 then (bif Nat.blt pc 5 then (bif Nat.blt pc 1 then (bif Nat.beq pc 0 then some (.iload_n 1, 0) else none) else (bif Nat.blt pc 2 then (bif Nat.beq pc 1 then some (.aload_n 0, 0) else none) else (bif Nat.beq pc 2 then some (.getfield 24, 0) else none))) else (bif Nat.blt pc 6 then (bif Nat.beq pc 5 then some (.iload_n 2, 0) else none) else (bif Nat.blt pc 9 then (bif Nat.beq pc 6 then some (.invokevirtual 95, 0) else none) else (bif Nat.beq pc 9 then some (.if_icmp .ge 5, 14) else none)))) else (bif Nat.blt pc 15 then (bif Nat.blt pc 13 then (bif Nat.beq pc 12 then some (.iconst 0, 0) else none) else (bif Nat.blt pc 14 then (bif Nat.beq pc 13 then some (.ireturn, 0) else none) else (bif Nat.beq pc 14 then some (.aload_n 0, 0) else none))) else (bif Nat.blt pc 19 then (bif Nat.blt pc 18 then (bif Nat.beq pc 15 then some (.getfield 31, 0) else none) else (bif Nat.beq pc 18 then some (.iload_n 1, 0) else none)) else (bif Nat.blt pc 20 then (bif Nat.beq pc 19 then some (.iload_n 2, 0) else none) else (bif Nat.beq pc 20 then some (.invokevirtual 148, 0) else none))))) else (bif Nat.blt pc 34 then (bif Nat.blt pc 28 then (bif Nat.blt pc 26 then (bif Nat.beq pc 23 then some (.ifCond .ne 5, 28) else none) else (bif Nat.blt pc 27 then (bif Nat.beq pc 26 then some (.iconst 2, 0) else none) else (bif Nat.beq pc 27 then some (.ireturn, 0) else none))) else (bif Nat.blt pc 32 then (bif Nat.blt pc 29 then (bif Nat.beq pc 28 then some (.aload_n 0, 0) else none) else (bif Nat.beq pc 29 then some (.getfield 31, 0) else none)) else (bif Nat.blt pc 33 then (bif Nat.beq pc 32 then some (.iload_n 1, 0) else none) else (bif Nat.beq pc 33 then some (.iload_n 2, 0) else none)))) else (bif Nat.blt pc 41 then (bif Nat.blt pc 37 then (bif Nat.beq pc 34 then some (.invokevirtual 145, 0) else none) else (bif Nat.blt pc 38 then (bif Nat.beq pc 37 then some (.iconst (-1), 0) else none) else (bif Nat.beq pc 38 then some (.if_icmp .ne 7, 45) else none))) else (bif Nat.blt pc 45 then (bif Nat.blt pc 42 then (bif Nat.beq pc 41 then some (.iconst 3, 0) else none) else (bif Nat.beq pc 42 then some (.goto 4, 46) else none)) else (bif Nat.blt pc 46 then (bif Nat.beq pc 45 then some (.iconst 1, 0) else none) else (bif Nat.beq pc 46 then some (.ireturn, 0) else none)))))
def MX6_stateOf : MI := (yX6_stateOf, cX6_stateOf, 3, (some .int), 6, zTab 47 tX6_stateOf)
theorem kX6_stateOf : zTok MX6_stateOf := zTok_of 47 tX6_stateOf rfl (by decide +kernel)
theorem oX6_stateOf : zokM MX6_stateOf 2 = true := zokM_mk (z_in (List.mem_of_getElem? (i := 540) (by decide +kernel)) rfl) z_ini6 (by decide +kernel)
theorem iX6_stateOf : zokI MX6_stateOf = true := zokI_mk (z_in (List.mem_of_getElem? (i := 539) (by decide +kernel)) rfl) (z_in (List.mem_of_getElem? (i := 13) (by decide +kernel)) rfl)
def tX6_sparedEvents : Nat → Option (Instr × Nat) := fun pc => bif Nat.blt pc 49 then (bif Nat.blt pc 25 then (bif Nat.blt pc 11 then (bif Nat.blt pc 5 then (bif Nat.blt pc 1 then (bif Nat.beq pc 0 then some (.aload_n 0, 0) else none) else (bif Nat.blt pc 2 then (bif Nat.beq pc 1 then some (.iconst 0, 0) else none) else (bif Nat.beq pc 2 then some (.invokevirtual 349, 0) else none))) else (bif Nat.blt pc 9 then (bif Nat.blt pc 8 then (bif Nat.beq pc 5 then some (.ifCond .eq 5, 10) else none) else (bif Nat.beq pc 8 then some (.iconst 0, 0) else none)) else (bif Nat.blt pc 10 then (bif Nat.beq pc 9 then some (.ireturn, 0) else none) else (bif Nat.beq pc 10 then some (.aload_n 0, 0) else none)))) else (bif Nat.blt pc 19 then (bif Nat.blt pc 17 then (bif Nat.blt pc 14 then (bif Nat.beq pc 11 then some (.getfield 24, 0) else none) else (bif Nat.beq pc 14 then some (.invokevirtual 121, 0) else none)) else (bif Nat.blt pc 18 then (bif Nat.beq pc 17 then some (.istore_n 1, 0) else none) else (bif Nat.beq pc 18 then some (.iconst 0, 0) else none))) else (bif Nat.blt pc 21 then (bif Nat.blt pc 20 then (bif Nat.beq pc 19 then some (.istore_n 2, 0) else none) else (bif Nat.beq pc 20 then some (.iload_n 2, 0) else none)) else (bif Nat.blt pc 22 then (bif Nat.beq pc 21 then some (.iload_n 1, 0) else none) else (bif Nat.beq pc 22 then some (.if_icmp .ge 23, 45) else none))))) else (bif Nat.blt pc 37 then (bif Nat.blt pc 29 then (bif Nat.blt pc 27 then (bif Nat.blt pc 26 then (bif Nat.beq pc 25 then some (.aload_n 0, 0) else none) else (bif Nat.beq pc 26 then some (.iconst 1, 0) else none)) else (bif Nat.blt pc 28 then (bif Nat.beq pc 27 then some (.iload_n 2, 0) else none) else (bif Nat.beq pc 28 then some (.ishl, 0) else none))) else (bif Nat.blt pc 35 then (bif Nat.blt pc 32 then (bif Nat.beq pc 29 then some (.invokevirtual 349, 0) else none) else (bif Nat.beq pc 32 then some (.ifCond .eq 7, 39) else none)) else (bif Nat.blt pc 36 then (bif Nat.beq pc 35 then some (.iconst 1, 0) else none) else (bif Nat.beq pc 36 then some (.iload_n 2, 0) else none)))) else (bif Nat.blt pc 45 then (bif Nat.blt pc 39 then (bif Nat.blt pc 38 then (bif Nat.beq pc 37 then some (.ishl, 0) else none) else (bif Nat.beq pc 38 then some (.ireturn, 0) else none)) else (bif Nat.blt pc 42 then (bif Nat.beq pc 39 then some (.iinc 2 1, 0) else none) else (bif Nat.beq pc 42 then some (.goto (-22), 20) else none))) else (bif Nat.blt pc 47 then (bif Nat.blt pc 46 then (bif Nat.beq pc 45 then some (.iconst 0, 0) else none) else (bif Nat.beq pc 46 then some (.istore_n 2, 0) else none)) else (bif Nat.blt pc 48 then (bif Nat.beq pc 47 then some (.iload_n 2, 0) else none) else (bif Nat.beq pc 48 then some (.iload_n 1, 0) else none)))))) else (bif Nat.blt pc 69 then (bif Nat.blt pc 61 then (bif Nat.blt pc 55 then (bif Nat.blt pc 53 then (bif Nat.blt pc 52 then (bif Nat.beq pc 49 then some (.if_icmp .ge 46, 95) else none) else (bif Nat.beq pc 52 then some (.iload_n 2, 0) else none)) else (bif Nat.blt pc 54 then (bif Nat.beq pc 53 then some (.iconst 1, 0) else none) else (bif Nat.beq pc 54 then some (.iadd, 0) else none))) else (bif Nat.blt pc 57 then (bif Nat.blt pc 56 then (bif Nat.beq pc 55 then some (.istore_n 3, 0) else none) else (bif Nat.beq pc 56 then some (.iload_n 3, 0) else none)) else (bif Nat.blt pc 58 then (bif Nat.beq pc 57 then some (.iload_n 1, 0) else none) else (bif Nat.beq pc 58 then some (.if_icmp .ge 31, 89) else none)))) else (bif Nat.blt pc 65 then (bif Nat.blt pc 63 then (bif Nat.blt pc 62 then (bif Nat.beq pc 61 then some (.aload_n 0, 0) else none) else (bif Nat.beq pc 62 then some (.iconst 1, 0) else none)) else (bif Nat.blt pc 64 then (bif Nat.beq pc 63 then some (.iload_n 2, 0) else none) else (bif Nat.beq pc 64 then some (.ishl, 0) else none))) else (bif Nat.blt pc 67 then (bif Nat.blt pc 66 then (bif Nat.beq pc 65 then some (.iconst 1, 0) else none) else (bif Nat.beq pc 66 then some (.iload_n 3, 0) else none)) else (bif Nat.blt pc 68 then (bif Nat.beq pc 67 then some (.ishl, 0) else none) else (bif Nat.beq pc 68 then some (.ior, 0) else none))))) else (bif Nat.blt pc 81 then (bif Nat.blt pc 77 then (bif Nat.blt pc 75 then (bif Nat.blt pc 72 then (bif Nat.beq pc 69 then some (.invokevirtual 349, 0) else none) else (bif Nat.beq pc 72 then some (.ifCond .eq 11, 83) else none)) else (bif Nat.blt pc 76 then (bif Nat.beq pc 75 then some (.iconst 1, 0) else none) else (bif Nat.beq pc 76 then some (.iload_n 2, 0) else none))) else (bif Nat.blt pc 79 then (bif Nat.blt pc 78 then (bif Nat.beq pc 77 then some (.ishl, 0) else none) else (bif Nat.beq pc 78 then some (.iconst 1, 0) else none)) else (bif Nat.blt pc 80 then (bif Nat.beq pc 79 then some (.iload_n 3, 0) else none) else (bif Nat.beq pc 80 then some (.ishl, 0) else none)))) else (bif Nat.blt pc 89 then (bif Nat.blt pc 83 then (bif Nat.blt pc 82 then (bif Nat.beq pc 81 then some (.ior, 0) else none) else (bif Nat.beq pc 82 then some (.ireturn, 0) else none)) else (bif Nat.blt pc 86 then (bif Nat.beq pc 83 then some (.iinc 3 1, 0) else none) else (bif Nat.beq pc 86 then some (.goto (-30), 56) else none))) else (bif Nat.blt pc 95 then (bif Nat.blt pc 92 then (bif Nat.beq pc 89 then some (.iinc 2 1, 0) else none) else (bif Nat.beq pc 92 then some (.goto (-45), 47) else none)) else (bif Nat.blt pc 96 then (bif Nat.beq pc 95 then some (.iconst (-1), 0) else none) else (bif Nat.beq pc 96 then some (.ireturn, 0) else none))))))
def MX6_sparedEvents : MI := (yX6_sparedEvents, cX6_sparedEvents, 4, (some .int), 6, zTab 97 tX6_sparedEvents)
theorem kX6_sparedEvents : zTok MX6_sparedEvents := zTok_of 97 tX6_sparedEvents rfl (by decide +kernel)
theorem oX6_sparedEvents : zokM MX6_sparedEvents 0 = true := zokM_mk (z_in (List.mem_of_getElem? (i := 629) (by decide +kernel)) rfl) z_ini6 (by decide +kernel)
theorem iX6_sparedEvents : zokI MX6_sparedEvents = true := zokI_mk (z_in (List.mem_of_getElem? (i := 628) (by decide +kernel)) rfl) (z_in (List.mem_of_getElem? (i := 14) (by decide +kernel)) rfl)
def tX6_endsEmptyWithout : Nat → Option (Instr × Nat) := fun pc => bif Nat.blt pc 13 then (bif Nat.blt pc 8 then (bif Nat.blt pc 4 then (bif Nat.blt pc 1 then (bif Nat.beq pc 0 then some (.aload_n 0, 0) else none) else (bif Nat.beq pc 1 then some (.getfield 38, 0) else none)) else (bif Nat.blt pc 5 then (bif Nat.beq pc 4 then some (.aload_n 0, 0) else none) else (bif Nat.beq pc 5 then some (.getfield 24, 0) else none))) else (bif Nat.blt pc 10 then (bif Nat.blt pc 9 then (bif Nat.beq pc 8 then some (.iconst (-1), 0) else none) else (bif Nat.beq pc 9 then some (.iload_n 1, 0) else none)) else (bif Nat.blt pc 11 then (bif Nat.beq pc 10 then some (.iconst (-1), 0) else none) else (bif Nat.blt pc 12 then (bif Nat.beq pc 11 then some (.ixor, 0) else none) else (bif Nat.beq pc 12 then some (.iand, 0) else none))))) else (bif Nat.blt pc 25 then (bif Nat.blt pc 17 then (bif Nat.blt pc 16 then (bif Nat.beq pc 13 then some (.invokevirtual 182, 0) else none) else (bif Nat.beq pc 16 then some (.aload_n 0, 0) else none)) else (bif Nat.blt pc 20 then (bif Nat.beq pc 17 then some (.getfield 38, 0) else none) else (bif Nat.blt pc 22 then (bif Nat.beq pc 20 then some (.bipush 23, 0) else none) else (bif Nat.beq pc 22 then some (.invokevirtual 142, 0) else none)))) else (bif Nat.blt pc 29 then (bif Nat.blt pc 28 then (bif Nat.beq pc 25 then some (.ifCond .ne 7, 32) else none) else (bif Nat.beq pc 28 then some (.iconst 1, 0) else none)) else (bif Nat.blt pc 32 then (bif Nat.beq pc 29 then some (.goto 4, 33) else none) else (bif Nat.blt pc 33 then (bif Nat.beq pc 32 then some (.iconst 0, 0) else none) else (bif Nat.beq pc 33 then some (.ireturn, 0) else none)))))
def MX6_endsEmptyWithout : MI := (yX6_endsEmptyWithout, cX6_endsEmptyWithout, 2, (some .boolean), 6, zTab 34 tX6_endsEmptyWithout)
theorem kX6_endsEmptyWithout : zTok MX6_endsEmptyWithout := zTok_of 34 tX6_endsEmptyWithout rfl (by decide +kernel)
theorem oX6_endsEmptyWithout : zokM MX6_endsEmptyWithout 1 = true := zokM_mk (z_in (List.mem_of_getElem? (i := 633) (by decide +kernel)) rfl) z_ini6 (by decide +kernel)
theorem iX6_endsEmptyWithout : zokI MX6_endsEmptyWithout = true := zokI_mk (z_in (List.mem_of_getElem? (i := 632) (by decide +kernel)) rfl) (z_in (List.mem_of_getElem? (i := 15) (by decide +kernel)) rfl)
def tX6_nthBit : Nat → Option (Instr × Nat) := fun pc => bif Nat.blt pc 15 then (bif Nat.blt pc 7 then (bif Nat.blt pc 3 then (bif Nat.blt pc 1 then (bif Nat.beq pc 0 then some (.iconst 0, 0) else none) else (bif Nat.blt pc 2 then (bif Nat.beq pc 1 then some (.istore_n 2, 0) else none) else (bif Nat.beq pc 2 then some (.iconst 0, 0) else none))) else (bif Nat.blt pc 4 then (bif Nat.beq pc 3 then some (.istore_n 3, 0) else none) else (bif Nat.blt pc 5 then (bif Nat.beq pc 4 then some (.iload_n 3, 0) else none) else (bif Nat.beq pc 5 then some (.bipush 8, 0) else none)))) else (bif Nat.blt pc 12 then (bif Nat.blt pc 10 then (bif Nat.beq pc 7 then some (.if_icmp .ge 28, 35) else none) else (bif Nat.blt pc 11 then (bif Nat.beq pc 10 then some (.iload_n 0, 0) else none) else (bif Nat.beq pc 11 then some (.iload_n 3, 0) else none))) else (bif Nat.blt pc 13 then (bif Nat.beq pc 12 then some (.ishr, 0) else none) else (bif Nat.blt pc 14 then (bif Nat.beq pc 13 then some (.iconst 1, 0) else none) else (bif Nat.beq pc 14 then some (.iand, 0) else none))))) else (bif Nat.blt pc 25 then (bif Nat.blt pc 20 then (bif Nat.blt pc 16 then (bif Nat.beq pc 15 then some (.iconst 1, 0) else none) else (bif Nat.blt pc 19 then (bif Nat.beq pc 16 then some (.if_icmp .ne 13, 29) else none) else (bif Nat.beq pc 19 then some (.iload_n 2, 0) else none))) else (bif Nat.blt pc 21 then (bif Nat.beq pc 20 then some (.iload_n 1, 0) else none) else (bif Nat.blt pc 24 then (bif Nat.beq pc 21 then some (.if_icmp .ne 5, 26) else none) else (bif Nat.beq pc 24 then some (.iload_n 3, 0) else none)))) else (bif Nat.blt pc 32 then (bif Nat.blt pc 26 then (bif Nat.beq pc 25 then some (.ireturn, 0) else none) else (bif Nat.blt pc 29 then (bif Nat.beq pc 26 then some (.iinc 2 1, 0) else none) else (bif Nat.beq pc 29 then some (.iinc 3 1, 0) else none))) else (bif Nat.blt pc 35 then (bif Nat.beq pc 32 then some (.goto (-28), 4) else none) else (bif Nat.blt pc 36 then (bif Nat.beq pc 35 then some (.iconst (-1), 0) else none) else (bif Nat.beq pc 36 then some (.ireturn, 0) else none)))))
def MX6_nthBit : MI := (yX6_nthBit, cX6_nthBit, 4, (some .int), 6, zTab 37 tX6_nthBit)
theorem kX6_nthBit : zTok MX6_nthBit := zTok_of 37 tX6_nthBit rfl (by decide +kernel)
theorem oX6_nthBit : zokM MX6_nthBit 2 = true := zokM_mk (z_in (List.mem_of_getElem? (i := 637) (by decide +kernel)) rfl) z_ini6 (by decide +kernel)
theorem iX6_nthBit : zokS MX6_nthBit = true := zokS_mk (z_in (List.mem_of_getElem? (i := 636) (by decide +kernel)) rfl)
def tX6_fittingSorts : Nat → Option (Instr × Nat) := fun pc => bif Nat.blt pc 33 then (bif Nat.blt pc 15 then (bif Nat.blt pc 6 then (bif Nat.blt pc 2 then (bif Nat.blt pc 1 then (bif Nat.beq pc 0 then some (.iconst 0, 0) else none) else (bif Nat.beq pc 1 then some (.istore_n 2, 0) else none)) else (bif Nat.blt pc 3 then (bif Nat.beq pc 2 then some (.aload_n 0, 0) else none) else (bif Nat.beq pc 3 then some (.getfield 35, 0) else none))) else (bif Nat.blt pc 10 then (bif Nat.blt pc 7 then (bif Nat.beq pc 6 then some (.aload_n 0, 0) else none) else (bif Nat.beq pc 7 then some (.getfield 24, 0) else none)) else (bif Nat.blt pc 13 then (bif Nat.beq pc 10 then some (.invokevirtual 174, 0) else none) else (bif Nat.blt pc 14 then (bif Nat.beq pc 13 then some (.iconst 0, 0) else none) else (bif Nat.beq pc 14 then some (.istore_n 3, 0) else none))))) else (bif Nat.blt pc 24 then (bif Nat.blt pc 17 then (bif Nat.blt pc 16 then (bif Nat.beq pc 15 then some (.iload_n 3, 0) else none) else (bif Nat.beq pc 16 then some (.iconst 3, 0) else none)) else (bif Nat.blt pc 20 then (bif Nat.beq pc 17 then some (.if_icmp .ge 50, 67) else none) else (bif Nat.blt pc 21 then (bif Nat.beq pc 20 then some (.aload_n 0, 0) else none) else (bif Nat.beq pc 21 then some (.getfield 35, 0) else none)))) else (bif Nat.blt pc 26 then (bif Nat.blt pc 25 then (bif Nat.beq pc 24 then some (.iload_n 1, 0) else none) else (bif Nat.beq pc 25 then some (.iload_n 3, 0) else none)) else (bif Nat.blt pc 29 then (bif Nat.beq pc 26 then some (.invokevirtual 352, 0) else none) else (bif Nat.blt pc 30 then (bif Nat.beq pc 29 then some (.aload_n 0, 0) else none) else (bif Nat.beq pc 30 then some (.getfield 38, 0) else none)))))) else (bif Nat.blt pc 55 then (bif Nat.blt pc 42 then (bif Nat.blt pc 37 then (bif Nat.blt pc 34 then (bif Nat.beq pc 33 then some (.aload_n 0, 0) else none) else (bif Nat.beq pc 34 then some (.getfield 35, 0) else none)) else (bif Nat.blt pc 38 then (bif Nat.beq pc 37 then some (.iconst (-1), 0) else none) else (bif Nat.blt pc 41 then (bif Nat.beq pc 38 then some (.invokevirtual 182, 0) else none) else (bif Nat.beq pc 41 then some (.aload_n 0, 0) else none)))) else (bif Nat.blt pc 46 then (bif Nat.blt pc 45 then (bif Nat.beq pc 42 then some (.getfield 44, 0) else none) else (bif Nat.beq pc 45 then some (.aload_n 0, 0) else none)) else (bif Nat.blt pc 49 then (bif Nat.beq pc 46 then some (.getfield 38, 0) else none) else (bif Nat.blt pc 52 then (bif Nat.beq pc 49 then some (.invokevirtual 216, 0) else none) else (bif Nat.beq pc 52 then some (.ifCond .eq 9, 61) else none))))) else (bif Nat.blt pc 60 then (bif Nat.blt pc 57 then (bif Nat.blt pc 56 then (bif Nat.beq pc 55 then some (.iload_n 2, 0) else none) else (bif Nat.beq pc 56 then some (.iconst 1, 0) else none)) else (bif Nat.blt pc 58 then (bif Nat.beq pc 57 then some (.iload_n 3, 0) else none) else (bif Nat.blt pc 59 then (bif Nat.beq pc 58 then some (.ishl, 0) else none) else (bif Nat.beq pc 59 then some (.ior, 0) else none)))) else (bif Nat.blt pc 64 then (bif Nat.blt pc 61 then (bif Nat.beq pc 60 then some (.istore_n 2, 0) else none) else (bif Nat.beq pc 61 then some (.iinc 3 1, 0) else none)) else (bif Nat.blt pc 67 then (bif Nat.beq pc 64 then some (.goto (-49), 15) else none) else (bif Nat.blt pc 68 then (bif Nat.beq pc 67 then some (.iload_n 2, 0) else none) else (bif Nat.beq pc 68 then some (.ireturn, 0) else none))))))
def MX6_fittingSorts : MI := (yX6_fittingSorts, cX6_fittingSorts, 4, (some .int), 6, zTab 69 tX6_fittingSorts)
theorem kX6_fittingSorts : zTok MX6_fittingSorts := zTok_of 69 tX6_fittingSorts rfl (by decide +kernel)
theorem oX6_fittingSorts : zokM MX6_fittingSorts 1 = true := zokM_mk (z_in (List.mem_of_getElem? (i := 674) (by decide +kernel)) rfl) z_ini6 (by decide +kernel)
theorem iX6_fittingSorts : zokI MX6_fittingSorts = true := zokI_mk (z_in (List.mem_of_getElem? (i := 673) (by decide +kernel)) rfl) (z_in (List.mem_of_getElem? (i := 16) (by decide +kernel)) rfl)
def tX6_fittingParcels : Nat → Option (Instr × Nat) := fun pc => bif Nat.blt pc 40 then (bif Nat.blt pc 18 then (bif Nat.blt pc 5 then (bif Nat.blt pc 2 then (bif Nat.blt pc 1 then (bif Nat.beq pc 0 then some (.iconst 0, 0) else none) else (bif Nat.beq pc 1 then some (.istore_n 2, 0) else none)) else (bif Nat.blt pc 3 then (bif Nat.beq pc 2 then some (.iconst 0, 0) else none) else (bif Nat.blt pc 4 then (bif Nat.beq pc 3 then some (.istore_n 3, 0) else none) else (bif Nat.beq pc 4 then some (.aload_n 0, 0) else none)))) else (bif Nat.blt pc 12 then (bif Nat.blt pc 8 then (bif Nat.beq pc 5 then some (.getfield 35, 0) else none) else (bif Nat.blt pc 9 then (bif Nat.beq pc 8 then some (.aload_n 0, 0) else none) else (bif Nat.beq pc 9 then some (.getfield 24, 0) else none))) else (bif Nat.blt pc 15 then (bif Nat.beq pc 12 then some (.invokevirtual 174, 0) else none) else (bif Nat.blt pc 16 then (bif Nat.beq pc 15 then some (.iconst 1, 0) else none) else (bif Nat.beq pc 16 then some (.istore 4, 0) else none))))) else (bif Nat.blt pc 29 then (bif Nat.blt pc 22 then (bif Nat.blt pc 20 then (bif Nat.beq pc 18 then some (.iload 4, 0) else none) else (bif Nat.beq pc 20 then some (.bipush 9, 0) else none)) else (bif Nat.blt pc 25 then (bif Nat.beq pc 22 then some (.if_icmp .gt 60, 82) else none) else (bif Nat.blt pc 26 then (bif Nat.beq pc 25 then some (.aload_n 0, 0) else none) else (bif Nat.beq pc 26 then some (.getfield 35, 0) else none)))) else (bif Nat.blt pc 35 then (bif Nat.blt pc 30 then (bif Nat.beq pc 29 then some (.iload_n 1, 0) else none) else (bif Nat.blt pc 32 then (bif Nat.beq pc 30 then some (.iload 4, 0) else none) else (bif Nat.beq pc 32 then some (.invokevirtual 355, 0) else none))) else (bif Nat.blt pc 36 then (bif Nat.beq pc 35 then some (.aload_n 0, 0) else none) else (bif Nat.blt pc 39 then (bif Nat.beq pc 36 then some (.getfield 38, 0) else none) else (bif Nat.beq pc 39 then some (.aload_n 0, 0) else none)))))) else (bif Nat.blt pc 63 then (bif Nat.blt pc 51 then (bif Nat.blt pc 44 then (bif Nat.blt pc 43 then (bif Nat.beq pc 40 then some (.getfield 35, 0) else none) else (bif Nat.beq pc 43 then some (.iconst (-1), 0) else none)) else (bif Nat.blt pc 47 then (bif Nat.beq pc 44 then some (.invokevirtual 182, 0) else none) else (bif Nat.blt pc 48 then (bif Nat.beq pc 47 then some (.aload_n 0, 0) else none) else (bif Nat.beq pc 48 then some (.getfield 44, 0) else none)))) else (bif Nat.blt pc 58 then (bif Nat.blt pc 52 then (bif Nat.beq pc 51 then some (.aload_n 0, 0) else none) else (bif Nat.blt pc 55 then (bif Nat.beq pc 52 then some (.getfield 38, 0) else none) else (bif Nat.beq pc 55 then some (.invokevirtual 216, 0) else none))) else (bif Nat.blt pc 61 then (bif Nat.beq pc 58 then some (.ifCond .eq 18, 76) else none) else (bif Nat.blt pc 62 then (bif Nat.beq pc 61 then some (.iload_n 2, 0) else none) else (bif Nat.beq pc 62 then some (.iconst 1, 0) else none))))) else (bif Nat.blt pc 70 then (bif Nat.blt pc 67 then (bif Nat.blt pc 65 then (bif Nat.beq pc 63 then some (.iload 4, 0) else none) else (bif Nat.blt pc 66 then (bif Nat.beq pc 65 then some (.ishl, 0) else none) else (bif Nat.beq pc 66 then some (.ior, 0) else none))) else (bif Nat.blt pc 68 then (bif Nat.beq pc 67 then some (.istore_n 2, 0) else none) else (bif Nat.blt pc 69 then (bif Nat.beq pc 68 then some (.aload_n 0, 0) else none) else (bif Nat.beq pc 69 then some (.iload_n 3, 0) else none)))) else (bif Nat.blt pc 79 then (bif Nat.blt pc 73 then (bif Nat.beq pc 70 then some (.invokevirtual 358, 0) else none) else (bif Nat.blt pc 76 then (bif Nat.beq pc 73 then some (.iinc 3 1, 0) else none) else (bif Nat.beq pc 76 then some (.iinc 4 1, 0) else none))) else (bif Nat.blt pc 82 then (bif Nat.beq pc 79 then some (.goto (-61), 18) else none) else (bif Nat.blt pc 83 then (bif Nat.beq pc 82 then some (.iload_n 2, 0) else none) else (bif Nat.beq pc 83 then some (.ireturn, 0) else none))))))
def MX6_fittingParcels : MI := (yX6_fittingParcels, cX6_fittingParcels, 5, (some .int), 6, zTab 84 tX6_fittingParcels)
theorem kX6_fittingParcels : zTok MX6_fittingParcels := zTok_of 84 tX6_fittingParcels rfl (by decide +kernel)
theorem oX6_fittingParcels : zokM MX6_fittingParcels 1 = true := zokM_mk (z_in (List.mem_of_getElem? (i := 679) (by decide +kernel)) rfl) z_ini6 (by decide +kernel)
theorem iX6_fittingParcels : zokI MX6_fittingParcels = true := zokI_mk (z_in (List.mem_of_getElem? (i := 678) (by decide +kernel)) rfl) (z_in (List.mem_of_getElem? (i := 17) (by decide +kernel)) rfl)
def tX6_keepStanding : Nat → Option (Instr × Nat) := fun pc => bif Nat.blt pc 20 then (bif Nat.blt pc 11 then (bif Nat.blt pc 3 then (bif Nat.blt pc 1 then (bif Nat.beq pc 0 then some (.iconst 0, 0) else none) else (bif Nat.blt pc 2 then (bif Nat.beq pc 1 then some (.istore_n 2, 0) else none) else (bif Nat.beq pc 2 then some (.iload_n 2, 0) else none))) else (bif Nat.blt pc 8 then (bif Nat.blt pc 5 then (bif Nat.beq pc 3 then some (.bipush 24, 0) else none) else (bif Nat.beq pc 5 then some (.if_icmp .ge 43, 48) else none)) else (bif Nat.blt pc 9 then (bif Nat.beq pc 8 then some (.iload_n 1, 0) else none) else (bif Nat.beq pc 9 then some (.bipush 24, 0) else none)))) else (bif Nat.blt pc 14 then (bif Nat.blt pc 12 then (bif Nat.beq pc 11 then some (.imul, 0) else none) else (bif Nat.blt pc 13 then (bif Nat.beq pc 12 then some (.iload_n 2, 0) else none) else (bif Nat.beq pc 13 then some (.iadd, 0) else none))) else (bif Nat.blt pc 16 then (bif Nat.blt pc 15 then (bif Nat.beq pc 14 then some (.istore_n 3, 0) else none) else (bif Nat.beq pc 15 then some (.iload_n 3, 0) else none)) else (bif Nat.blt pc 19 then (bif Nat.beq pc 16 then some (.ifCond .lt 26, 42) else none) else (bif Nat.beq pc 19 then some (.iload_n 3, 0) else none))))) else (bif Nat.blt pc 33 then (bif Nat.blt pc 25 then (bif Nat.blt pc 21 then (bif Nat.beq pc 20 then some (.aload_n 0, 0) else none) else (bif Nat.blt pc 24 then (bif Nat.beq pc 21 then some (.getfield 54, 0) else none) else (bif Nat.beq pc 24 then some (.arraylength, 0) else none))) else (bif Nat.blt pc 29 then (bif Nat.blt pc 28 then (bif Nat.beq pc 25 then some (.if_icmp .ge 17, 42) else none) else (bif Nat.beq pc 28 then some (.aload_n 0, 0) else none)) else (bif Nat.blt pc 32 then (bif Nat.beq pc 29 then some (.getfield 54, 0) else none) else (bif Nat.beq pc 32 then some (.iload_n 3, 0) else none)))) else (bif Nat.blt pc 41 then (bif Nat.blt pc 37 then (bif Nat.blt pc 34 then (bif Nat.beq pc 33 then some (.aload_n 0, 0) else none) else (bif Nat.beq pc 34 then some (.getfield 38, 0) else none)) else (bif Nat.blt pc 38 then (bif Nat.beq pc 37 then some (.iload_n 2, 0) else none) else (bif Nat.beq pc 38 then some (.invokevirtual 362, 0) else none))) else (bif Nat.blt pc 45 then (bif Nat.blt pc 42 then (bif Nat.beq pc 41 then some (.lastore, 0) else none) else (bif Nat.beq pc 42 then some (.iinc 2 1, 0) else none)) else (bif Nat.blt pc 48 then (bif Nat.beq pc 45 then some (.goto (-43), 2) else none) else (bif Nat.beq pc 48 then some (.return_, 0) else none)))))
def MX6_keepStanding : MI := (yX6_keepStanding, cX6_keepStanding, 4, none, 6, zTab 49 tX6_keepStanding)
theorem kX6_keepStanding : zTok MX6_keepStanding := zTok_of 49 tX6_keepStanding rfl (by decide +kernel)
theorem oX6_keepStanding : zokM MX6_keepStanding 1 = true := zokM_mk (z_in (List.mem_of_getElem? (i := 684) (by decide +kernel)) rfl) z_ini6 (by decide +kernel)
theorem iX6_keepStanding : zokI MX6_keepStanding = true := zokI_mk (z_in (List.mem_of_getElem? (i := 683) (by decide +kernel)) rfl) (z_in (List.mem_of_getElem? (i := 18) (by decide +kernel)) rfl)
def tX6_standing : Nat → Option (Instr × Nat) := fun pc => bif Nat.blt pc 13 then (bif Nat.blt pc 6 then (bif Nat.blt pc 3 then (bif Nat.blt pc 1 then (bif Nat.beq pc 0 then some (.iload_n 1, 0) else none) else (bif Nat.beq pc 1 then some (.bipush 24, 0) else none)) else (bif Nat.blt pc 4 then (bif Nat.beq pc 3 then some (.imul, 0) else none) else (bif Nat.blt pc 5 then (bif Nat.beq pc 4 then some (.iload_n 2, 0) else none) else (bif Nat.beq pc 5 then some (.iadd, 0) else none)))) else (bif Nat.blt pc 8 then (bif Nat.blt pc 7 then (bif Nat.beq pc 6 then some (.istore_n 3, 0) else none) else (bif Nat.beq pc 7 then some (.iload_n 3, 0) else none)) else (bif Nat.blt pc 11 then (bif Nat.beq pc 8 then some (.ifCond .lt 21, 29) else none) else (bif Nat.blt pc 12 then (bif Nat.beq pc 11 then some (.iload_n 3, 0) else none) else (bif Nat.beq pc 12 then some (.aload_n 0, 0) else none))))) else (bif Nat.blt pc 24 then (bif Nat.blt pc 17 then (bif Nat.blt pc 16 then (bif Nat.beq pc 13 then some (.getfield 54, 0) else none) else (bif Nat.beq pc 16 then some (.arraylength, 0) else none)) else (bif Nat.blt pc 20 then (bif Nat.beq pc 17 then some (.if_icmp .ge 12, 29) else none) else (bif Nat.blt pc 21 then (bif Nat.beq pc 20 then some (.aload_n 0, 0) else none) else (bif Nat.beq pc 21 then some (.getfield 54, 0) else none)))) else (bif Nat.blt pc 26 then (bif Nat.blt pc 25 then (bif Nat.beq pc 24 then some (.iload_n 3, 0) else none) else (bif Nat.beq pc 25 then some (.laload, 0) else none)) else (bif Nat.blt pc 29 then (bif Nat.beq pc 26 then some (.goto 4, 30) else none) else (bif Nat.blt pc 30 then (bif Nat.beq pc 29 then some (.lconst 0, 0) else none) else (bif Nat.beq pc 30 then some (.lreturn, 0) else none)))))
def MX6_standing : MI := (yX6_standing, cX6_standing, 4, (some .long), 6, zTab 31 tX6_standing)
theorem kX6_standing : zTok MX6_standing := zTok_of 31 tX6_standing rfl (by decide +kernel)
theorem oX6_standing : zokM MX6_standing 2 = true := zokM_mk (z_in (List.mem_of_getElem? (i := 697) (by decide +kernel)) rfl) z_ini6 (by decide +kernel)
theorem iX6_standing : zokI MX6_standing = true := zokI_mk (z_in (List.mem_of_getElem? (i := 696) (by decide +kernel)) rfl) (z_in (List.mem_of_getElem? (i := 20) (by decide +kernel)) rfl)
def tX6_mostAlike : Nat → Option (Instr × Nat) := fun pc => bif Nat.blt pc 27 then (bif Nat.blt pc 12 then (bif Nat.blt pc 5 then (bif Nat.blt pc 2 then (bif Nat.blt pc 1 then (bif Nat.beq pc 0 then some (.iconst 0, 0) else none) else (bif Nat.beq pc 1 then some (.istore_n 3, 0) else none)) else (bif Nat.blt pc 3 then (bif Nat.beq pc 2 then some (.iconst 0, 0) else none) else (bif Nat.beq pc 3 then some (.istore 4, 0) else none))) else (bif Nat.blt pc 8 then (bif Nat.blt pc 7 then (bif Nat.beq pc 5 then some (.iload 4, 0) else none) else (bif Nat.beq pc 7 then some (.iload_n 2, 0) else none)) else (bif Nat.blt pc 11 then (bif Nat.beq pc 8 then some (.if_icmp .ge 55, 63) else none) else (bif Nat.beq pc 11 then some (.iconst 0, 0) else none)))) else (bif Nat.blt pc 19 then (bif Nat.blt pc 15 then (bif Nat.blt pc 14 then (bif Nat.beq pc 12 then some (.istore 5, 0) else none) else (bif Nat.beq pc 14 then some (.iconst 0, 0) else none)) else (bif Nat.blt pc 17 then (bif Nat.beq pc 15 then some (.istore 6, 0) else none) else (bif Nat.beq pc 17 then some (.iload 6, 0) else none))) else (bif Nat.blt pc 23 then (bif Nat.blt pc 20 then (bif Nat.beq pc 19 then some (.iload_n 2, 0) else none) else (bif Nat.beq pc 20 then some (.if_icmp .ge 30, 50) else none)) else (bif Nat.blt pc 24 then (bif Nat.beq pc 23 then some (.aload_n 0, 0) else none) else (bif Nat.blt pc 26 then (bif Nat.beq pc 24 then some (.iload 4, 0) else none) else (bif Nat.beq pc 26 then some (.iload_n 1, 0) else none)))))) else (bif Nat.blt pc 47 then (bif Nat.blt pc 34 then (bif Nat.blt pc 31 then (bif Nat.blt pc 30 then (bif Nat.beq pc 27 then some (.invokevirtual 366, 0) else none) else (bif Nat.beq pc 30 then some (.aload_n 0, 0) else none)) else (bif Nat.blt pc 33 then (bif Nat.beq pc 31 then some (.iload 6, 0) else none) else (bif Nat.beq pc 33 then some (.iload_n 1, 0) else none))) else (bif Nat.blt pc 38 then (bif Nat.blt pc 37 then (bif Nat.beq pc 34 then some (.invokevirtual 366, 0) else none) else (bif Nat.beq pc 37 then some (.lcmp, 0) else none)) else (bif Nat.blt pc 41 then (bif Nat.beq pc 38 then some (.ifCond .ne 6, 44) else none) else (bif Nat.blt pc 44 then (bif Nat.beq pc 41 then some (.iinc 5 1, 0) else none) else (bif Nat.beq pc 44 then some (.iinc 6 1, 0) else none))))) else (bif Nat.blt pc 56 then (bif Nat.blt pc 51 then (bif Nat.blt pc 50 then (bif Nat.beq pc 47 then some (.goto (-30), 17) else none) else (bif Nat.beq pc 50 then some (.iload_n 3, 0) else none)) else (bif Nat.blt pc 53 then (bif Nat.beq pc 51 then some (.iload 5, 0) else none) else (bif Nat.beq pc 53 then some (.invokestatic 370, 0) else none))) else (bif Nat.blt pc 60 then (bif Nat.blt pc 57 then (bif Nat.beq pc 56 then some (.istore_n 3, 0) else none) else (bif Nat.beq pc 57 then some (.iinc 4 1, 0) else none)) else (bif Nat.blt pc 63 then (bif Nat.beq pc 60 then some (.goto (-55), 5) else none) else (bif Nat.blt pc 64 then (bif Nat.beq pc 63 then some (.iload_n 3, 0) else none) else (bif Nat.beq pc 64 then some (.ireturn, 0) else none))))))
def MX6_mostAlike : MI := (yX6_mostAlike, cX6_mostAlike, 7, (some .int), 6, zTab 65 tX6_mostAlike)
theorem kX6_mostAlike : zTok MX6_mostAlike := zTok_of 65 tX6_mostAlike rfl (by decide +kernel)
theorem oX6_mostAlike : zokM MX6_mostAlike 2 = true := zokM_mk (z_in (List.mem_of_getElem? (i := 693) (by decide +kernel)) rfl) z_ini6 (by decide +kernel)
theorem iX6_mostAlike : zokI MX6_mostAlike = true := zokI_mk (z_in (List.mem_of_getElem? (i := 692) (by decide +kernel)) rfl) (z_in (List.mem_of_getElem? (i := 19) (by decide +kernel)) rfl)
def tX6_learnServed : Nat → Option (Instr × Nat) := fun pc => bif Nat.blt pc 31 then (bif Nat.blt pc 17 then (bif Nat.blt pc 8 then (bif Nat.blt pc 4 then (bif Nat.blt pc 1 then (bif Nat.beq pc 0 then some (.aload_n 0, 0) else none) else (bif Nat.beq pc 1 then some (.getfield 345, 0) else none)) else (bif Nat.blt pc 7 then (bif Nat.beq pc 4 then some (.ifCond .eq 4, 8) else none) else (bif Nat.beq pc 7 then some (.return_, 0) else none))) else (bif Nat.blt pc 10 then (bif Nat.blt pc 9 then (bif Nat.beq pc 8 then some (.iconst 1, 0) else none) else (bif Nat.beq pc 9 then some (.aload_n 0, 0) else none)) else (bif Nat.blt pc 13 then (bif Nat.beq pc 10 then some (.getfield 24, 0) else none) else (bif Nat.blt pc 16 then (bif Nat.beq pc 13 then some (.invokevirtual 121, 0) else none) else (bif Nat.beq pc 16 then some (.ishl, 0) else none))))) else (bif Nat.blt pc 22 then (bif Nat.blt pc 19 then (bif Nat.blt pc 18 then (bif Nat.beq pc 17 then some (.istore_n 1, 0) else none) else (bif Nat.beq pc 18 then some (.iconst 0, 0) else none)) else (bif Nat.blt pc 20 then (bif Nat.beq pc 19 then some (.istore_n 2, 0) else none) else (bif Nat.blt pc 21 then (bif Nat.beq pc 20 then some (.iload_n 2, 0) else none) else (bif Nat.beq pc 21 then some (.iload_n 1, 0) else none)))) else (bif Nat.blt pc 26 then (bif Nat.blt pc 25 then (bif Nat.beq pc 22 then some (.if_icmp .ge 43, 65) else none) else (bif Nat.beq pc 25 then some (.iload_n 2, 0) else none)) else (bif Nat.blt pc 27 then (bif Nat.beq pc 26 then some (.aload_n 0, 0) else none) else (bif Nat.blt pc 30 then (bif Nat.beq pc 27 then some (.getfield 58, 0) else none) else (bif Nat.beq pc 30 then some (.arraylength, 0) else none)))))) else (bif Nat.blt pc 51 then (bif Nat.blt pc 42 then (bif Nat.blt pc 35 then (bif Nat.blt pc 34 then (bif Nat.beq pc 31 then some (.if_icmp .ge 34, 65) else none) else (bif Nat.beq pc 34 then some (.aload_n 0, 0) else none)) else (bif Nat.blt pc 38 then (bif Nat.beq pc 35 then some (.getfield 38, 0) else none) else (bif Nat.blt pc 39 then (bif Nat.beq pc 38 then some (.aload_n 0, 0) else none) else (bif Nat.beq pc 39 then some (.getfield 24, 0) else none)))) else (bif Nat.blt pc 46 then (bif Nat.blt pc 43 then (bif Nat.beq pc 42 then some (.iload_n 2, 0) else none) else (bif Nat.beq pc 43 then some (.invokevirtual 182, 0) else none)) else (bif Nat.blt pc 47 then (bif Nat.beq pc 46 then some (.aload_n 0, 0) else none) else (bif Nat.blt pc 50 then (bif Nat.beq pc 47 then some (.getfield 58, 0) else none) else (bif Nat.beq pc 50 then some (.iload_n 2, 0) else none))))) else (bif Nat.blt pc 62 then (bif Nat.blt pc 55 then (bif Nat.blt pc 52 then (bif Nat.beq pc 51 then some (.aload_n 0, 0) else none) else (bif Nat.beq pc 52 then some (.getfield 38, 0) else none)) else (bif Nat.blt pc 58 then (bif Nat.beq pc 55 then some (.invokevirtual 373, 0) else none) else (bif Nat.blt pc 59 then (bif Nat.beq pc 58 then some (.iastore, 0) else none) else (bif Nat.beq pc 59 then some (.iinc 2 1, 0) else none)))) else (bif Nat.blt pc 66 then (bif Nat.blt pc 65 then (bif Nat.beq pc 62 then some (.goto (-42), 20) else none) else (bif Nat.beq pc 65 then some (.aload_n 0, 0) else none)) else (bif Nat.blt pc 67 then (bif Nat.beq pc 66 then some (.iconst 1, 0) else none) else (bif Nat.blt pc 70 then (bif Nat.beq pc 67 then some (.putfield 345, 0) else none) else (bif Nat.beq pc 70 then some (.return_, 0) else none))))))
def MX6_learnServed : MI := (yX6_learnServed, cX6_learnServed, 3, none, 6, zTab 71 tX6_learnServed)
theorem kX6_learnServed : zTok MX6_learnServed := zTok_of 71 tX6_learnServed rfl (by decide +kernel)
theorem oX6_learnServed : zokM MX6_learnServed 0 = true := zokM_mk (z_in (List.mem_of_getElem? (i := 707) (by decide +kernel)) rfl) z_ini6 (by decide +kernel)
theorem iX6_learnServed : zokI MX6_learnServed = true := zokI_mk (z_in (List.mem_of_getElem? (i := 706) (by decide +kernel)) rfl) (z_in (List.mem_of_getElem? (i := 21) (by decide +kernel)) rfl)
def tX6_weight : Nat → Option (Instr × Nat) := fun pc => bif Nat.blt pc 19 then (bif Nat.blt pc 11 then (bif Nat.blt pc 3 then (bif Nat.blt pc 1 then (bif Nat.beq pc 0 then some (.lconst 1, 0) else none) else (bif Nat.blt pc 2 then (bif Nat.beq pc 1 then some (.lstore_n 3, 0) else none) else (bif Nat.beq pc 2 then some (.iconst 0, 0) else none))) else (bif Nat.blt pc 7 then (bif Nat.blt pc 5 then (bif Nat.beq pc 3 then some (.istore 5, 0) else none) else (bif Nat.beq pc 5 then some (.iload 5, 0) else none)) else (bif Nat.blt pc 8 then (bif Nat.beq pc 7 then some (.iload_n 1, 0) else none) else (bif Nat.beq pc 8 then some (.if_icmp .ge 32, 40) else none)))) else (bif Nat.blt pc 15 then (bif Nat.blt pc 12 then (bif Nat.beq pc 11 then some (.lload_n 3, 0) else none) else (bif Nat.blt pc 13 then (bif Nat.beq pc 12 then some (.iload_n 0, 0) else none) else (bif Nat.beq pc 13 then some (.iload 5, 0) else none))) else (bif Nat.blt pc 17 then (bif Nat.blt pc 16 then (bif Nat.beq pc 15 then some (.ishr, 0) else none) else (bif Nat.beq pc 16 then some (.iconst 1, 0) else none)) else (bif Nat.blt pc 18 then (bif Nat.beq pc 17 then some (.iand, 0) else none) else (bif Nat.beq pc 18 then some (.iconst 1, 0) else none))))) else (bif Nat.blt pc 31 then (bif Nat.blt pc 24 then (bif Nat.blt pc 22 then (bif Nat.beq pc 19 then some (.if_icmp .ne 8, 27) else none) else (bif Nat.blt pc 23 then (bif Nat.beq pc 22 then some (.iload_n 2, 0) else none) else (bif Nat.beq pc 23 then some (.i2l, 0) else none))) else (bif Nat.blt pc 29 then (bif Nat.blt pc 27 then (bif Nat.beq pc 24 then some (.goto 8, 32) else none) else (bif Nat.beq pc 27 then some (.bipush 16, 0) else none)) else (bif Nat.blt pc 30 then (bif Nat.beq pc 29 then some (.iload_n 2, 0) else none) else (bif Nat.beq pc 30 then some (.isub, 0) else none)))) else (bif Nat.blt pc 34 then (bif Nat.blt pc 32 then (bif Nat.beq pc 31 then some (.i2l, 0) else none) else (bif Nat.blt pc 33 then (bif Nat.beq pc 32 then some (.lmul, 0) else none) else (bif Nat.beq pc 33 then some (.lstore_n 3, 0) else none))) else (bif Nat.blt pc 40 then (bif Nat.blt pc 37 then (bif Nat.beq pc 34 then some (.iinc 5 1, 0) else none) else (bif Nat.beq pc 37 then some (.goto (-32), 5) else none)) else (bif Nat.blt pc 41 then (bif Nat.beq pc 40 then some (.lload_n 3, 0) else none) else (bif Nat.beq pc 41 then some (.lreturn, 0) else none)))))
def MX6_weight : MI := (yX6_weight, cX6_weight, 6, (some .long), 6, zTab 42 tX6_weight)
theorem kX6_weight : zTok MX6_weight := zTok_of 42 tX6_weight rfl (by decide +kernel)
theorem oX6_weight : zokM MX6_weight 3 = true := zokM_mk (z_in (List.mem_of_getElem? (i := 711) (by decide +kernel)) rfl) z_ini6 (by decide +kernel)
theorem iX6_weight : zokS MX6_weight = true := zokS_mk (z_in (List.mem_of_getElem? (i := 710) (by decide +kernel)) rfl)
def tX6_inLowestTerms : Nat → Option (Instr × Nat) := fun pc => bif Nat.blt pc 33 then (bif Nat.blt pc 16 then (bif Nat.blt pc 7 then (bif Nat.blt pc 2 then (bif Nat.blt pc 1 then (bif Nat.beq pc 0 then some (.lload_n 0, 0) else none) else (bif Nat.beq pc 1 then some (.lconst 0, 0) else none)) else (bif Nat.blt pc 3 then (bif Nat.beq pc 2 then some (.lcmp, 0) else none) else (bif Nat.blt pc 6 then (bif Nat.beq pc 3 then some (.ifCond .ne 13, 16) else none) else (bif Nat.beq pc 6 then some (.iload_n 3, 0) else none)))) else (bif Nat.blt pc 11 then (bif Nat.blt pc 10 then (bif Nat.beq pc 7 then some (.ifCond .ne 7, 14) else none) else (bif Nat.beq pc 10 then some (.lconst 0, 0) else none)) else (bif Nat.blt pc 14 then (bif Nat.beq pc 11 then some (.goto 4, 15) else none) else (bif Nat.blt pc 15 then (bif Nat.beq pc 14 then some (.lconst 1, 0) else none) else (bif Nat.beq pc 15 then some (.lreturn, 0) else none))))) else (bif Nat.blt pc 23 then (bif Nat.blt pc 19 then (bif Nat.blt pc 17 then (bif Nat.beq pc 16 then some (.lload_n 0, 0) else none) else (bif Nat.beq pc 17 then some (.lstore 4, 0) else none)) else (bif Nat.blt pc 20 then (bif Nat.beq pc 19 then some (.iload_n 2, 0) else none) else (bif Nat.blt pc 22 then (bif Nat.beq pc 20 then some (.istore 6, 0) else none) else (bif Nat.beq pc 22 then some (.iconst 0, 0) else none)))) else (bif Nat.blt pc 27 then (bif Nat.blt pc 25 then (bif Nat.beq pc 23 then some (.istore 7, 0) else none) else (bif Nat.beq pc 25 then some (.iload 7, 0) else none)) else (bif Nat.blt pc 28 then (bif Nat.beq pc 27 then some (.iload_n 2, 0) else none) else (bif Nat.blt pc 31 then (bif Nat.beq pc 28 then some (.if_icmp .ge 29, 57) else none) else (bif Nat.beq pc 31 then some (.lload 4, 0) else none)))))) else (bif Nat.blt pc 51 then (bif Nat.blt pc 40 then (bif Nat.blt pc 35 then (bif Nat.blt pc 34 then (bif Nat.beq pc 33 then some (.lconst 1, 0) else none) else (bif Nat.beq pc 34 then some (.land, 0) else none)) else (bif Nat.blt pc 36 then (bif Nat.beq pc 35 then some (.lconst 0, 0) else none) else (bif Nat.blt pc 37 then (bif Nat.beq pc 36 then some (.lcmp, 0) else none) else (bif Nat.beq pc 37 then some (.ifCond .ne 20, 57) else none)))) else (bif Nat.blt pc 45 then (bif Nat.blt pc 42 then (bif Nat.beq pc 40 then some (.lload 4, 0) else none) else (bif Nat.beq pc 42 then some (.ldc2_w 376, 0) else none)) else (bif Nat.blt pc 46 then (bif Nat.beq pc 45 then some (.ldiv, 0) else none) else (bif Nat.blt pc 48 then (bif Nat.beq pc 46 then some (.lstore 4, 0) else none) else (bif Nat.beq pc 48 then some (.iinc 6 (-1), 0) else none))))) else (bif Nat.blt pc 63 then (bif Nat.blt pc 57 then (bif Nat.blt pc 54 then (bif Nat.beq pc 51 then some (.iinc 7 1, 0) else none) else (bif Nat.beq pc 54 then some (.goto (-29), 25) else none)) else (bif Nat.blt pc 58 then (bif Nat.beq pc 57 then some (.iload_n 3, 0) else none) else (bif Nat.blt pc 61 then (bif Nat.beq pc 58 then some (.ifCond .ne 8, 66) else none) else (bif Nat.beq pc 61 then some (.lload 4, 0) else none)))) else (bif Nat.blt pc 67 then (bif Nat.blt pc 66 then (bif Nat.beq pc 63 then some (.goto 7, 70) else none) else (bif Nat.beq pc 66 then some (.lconst 1, 0) else none)) else (bif Nat.blt pc 69 then (bif Nat.beq pc 67 then some (.iload 6, 0) else none) else (bif Nat.blt pc 70 then (bif Nat.beq pc 69 then some (.lshl, 0) else none) else (bif Nat.beq pc 70 then some (.lreturn, 0) else none))))))
def MX6_inLowestTerms : MI := (yX6_inLowestTerms, cX6_inLowestTerms, 8, (some .long), 6, zTab 71 tX6_inLowestTerms)
theorem kX6_inLowestTerms : zTok MX6_inLowestTerms := zTok_of 71 tX6_inLowestTerms rfl (by decide +kernel)
theorem oX6_inLowestTerms : zokM MX6_inLowestTerms 3 = true := zokM_mk (z_in (List.mem_of_getElem? (i := 714) (by decide +kernel)) rfl) z_ini6 (by decide +kernel)
theorem iX6_inLowestTerms : zokS MX6_inLowestTerms = true := zokS_mk (z_in (List.mem_of_getElem? (i := 713) (by decide +kernel)) rfl)
def tX6_nextSeed : Nat → Option (Instr × Nat) := fun pc => bif Nat.blt pc 5 then (bif Nat.blt pc 3 then (bif Nat.beq pc 0 then some (.ldc_w 378, 0) else none) else (bif Nat.blt pc 4 then (bif Nat.beq pc 3 then some (.iload_n 0, 0) else none) else (bif Nat.beq pc 4 then some (.imul, 0) else none))) else (bif Nat.blt pc 8 then (bif Nat.beq pc 5 then some (.sipush 12345, 0) else none) else (bif Nat.blt pc 9 then (bif Nat.beq pc 8 then some (.iadd, 0) else none) else (bif Nat.beq pc 9 then some (.ireturn, 0) else none)))
def MX6_nextSeed : MI := (yX6_nextSeed, cX6_nextSeed, 1, (some .int), 6, zTab 10 tX6_nextSeed)
theorem kX6_nextSeed : zTok MX6_nextSeed := zTok_of 10 tX6_nextSeed rfl (by decide +kernel)
theorem oX6_nextSeed : zokM MX6_nextSeed 1 = true := zokM_mk (z_in (List.mem_of_getElem? (i := 726) (by decide +kernel)) rfl) z_ini6 (by decide +kernel)
theorem iX6_nextSeed : zokS MX6_nextSeed = true := zokS_mk (z_in (List.mem_of_getElem? (i := 725) (by decide +kernel)) rfl)
def tX6_lot : Nat → Option (Instr × Nat) := fun pc => bif Nat.blt pc 8 then (bif Nat.blt pc 4 then (bif Nat.blt pc 1 then (bif Nat.beq pc 0 then some (.iload_n 1, 0) else none) else (bif Nat.beq pc 1 then some (.ifCond .le 12, 13) else none)) else (bif Nat.blt pc 5 then (bif Nat.beq pc 4 then some (.iload_n 0, 0) else none) else (bif Nat.blt pc 7 then (bif Nat.beq pc 5 then some (.bipush 16, 0) else none) else (bif Nat.beq pc 7 then some (.iushr, 0) else none)))) else (bif Nat.blt pc 10 then (bif Nat.blt pc 9 then (bif Nat.beq pc 8 then some (.iload_n 1, 0) else none) else (bif Nat.beq pc 9 then some (.irem, 0) else none)) else (bif Nat.blt pc 13 then (bif Nat.beq pc 10 then some (.goto 4, 14) else none) else (bif Nat.blt pc 14 then (bif Nat.beq pc 13 then some (.iconst 0, 0) else none) else (bif Nat.beq pc 14 then some (.ireturn, 0) else none))))
def MX6_lot : MI := (yX6_lot, cX6_lot, 2, (some .int), 6, zTab 15 tX6_lot)
theorem kX6_lot : zTok MX6_lot := zTok_of 15 tX6_lot rfl (by decide +kernel)
theorem oX6_lot : zokM MX6_lot 2 = true := zokM_mk (z_in (List.mem_of_getElem? (i := 730) (by decide +kernel)) rfl) z_ini6 (by decide +kernel)
theorem iX6_lot : zokS MX6_lot = true := zokS_mk (z_in (List.mem_of_getElem? (i := 729) (by decide +kernel)) rfl)
def tX6_mixed : Nat → Option (Instr × Nat) := fun pc => bif Nat.blt pc 5 then (bif Nat.blt pc 3 then (bif Nat.beq pc 0 then some (.ldc2_w 379, 0) else none) else (bif Nat.blt pc 4 then (bif Nat.beq pc 3 then some (.lload_n 0, 0) else none) else (bif Nat.beq pc 4 then some (.lmul, 0) else none))) else (bif Nat.blt pc 6 then (bif Nat.beq pc 5 then some (.lload_n 2, 0) else none) else (bif Nat.blt pc 7 then (bif Nat.beq pc 6 then some (.ladd, 0) else none) else (bif Nat.beq pc 7 then some (.lreturn, 0) else none)))
def MX6_mixed : MI := (yX6_mixed, cX6_mixed, 4, (some .long), 6, zTab 8 tX6_mixed)
theorem kX6_mixed : zTok MX6_mixed := zTok_of 8 tX6_mixed rfl (by decide +kernel)
theorem oX6_mixed : zokM MX6_mixed 2 = true := zokM_mk (z_in (List.mem_of_getElem? (i := 810) (by decide +kernel)) rfl) z_ini6 (by decide +kernel)
theorem iX6_mixed : zokS MX6_mixed = true := zokS_mk (z_in (List.mem_of_getElem? (i := 809) (by decide +kernel)) rfl)
def tX6_mixedWithDay : Nat → Option (Instr × Nat) := fun pc => bif Nat.blt pc 54 then (bif Nat.blt pc 25 then (bif Nat.blt pc 12 then (bif Nat.blt pc 4 then (bif Nat.blt pc 1 then (bif Nat.beq pc 0 then some (.lload_n 1, 0) else none) else (bif Nat.blt pc 3 then (bif Nat.beq pc 1 then some (.lstore 4, 0) else none) else (bif Nat.beq pc 3 then some (.iconst 0, 0) else none))) else (bif Nat.blt pc 8 then (bif Nat.blt pc 6 then (bif Nat.beq pc 4 then some (.istore 6, 0) else none) else (bif Nat.beq pc 6 then some (.iload 6, 0) else none)) else (bif Nat.blt pc 9 then (bif Nat.beq pc 8 then some (.iconst 2, 0) else none) else (bif Nat.beq pc 9 then some (.if_icmp .gt 24, 33) else none)))) else (bif Nat.blt pc 16 then (bif Nat.blt pc 14 then (bif Nat.beq pc 12 then some (.lload 4, 0) else none) else (bif Nat.blt pc 15 then (bif Nat.beq pc 14 then some (.aload_n 0, 0) else none) else (bif Nat.beq pc 15 then some (.iload_n 3, 0) else none))) else (bif Nat.blt pc 21 then (bif Nat.blt pc 18 then (bif Nat.beq pc 16 then some (.iload 6, 0) else none) else (bif Nat.beq pc 18 then some (.invokevirtual 381, 0) else none)) else (bif Nat.blt pc 22 then (bif Nat.beq pc 21 then some (.i2l, 0) else none) else (bif Nat.beq pc 22 then some (.invokestatic 294, 0) else none))))) else (bif Nat.blt pc 38 then (bif Nat.blt pc 33 then (bif Nat.blt pc 27 then (bif Nat.beq pc 25 then some (.lstore 4, 0) else none) else (bif Nat.blt pc 30 then (bif Nat.beq pc 27 then some (.iinc 6 1, 0) else none) else (bif Nat.beq pc 30 then some (.goto (-24), 6) else none))) else (bif Nat.blt pc 36 then (bif Nat.blt pc 34 then (bif Nat.beq pc 33 then some (.aload_n 0, 0) else none) else (bif Nat.beq pc 34 then some (.lload 4, 0) else none)) else (bif Nat.blt pc 37 then (bif Nat.beq pc 36 then some (.iconst 0, 0) else none) else (bif Nat.beq pc 37 then some (.iload_n 3, 0) else none)))) else (bif Nat.blt pc 46 then (bif Nat.blt pc 43 then (bif Nat.blt pc 41 then (bif Nat.beq pc 38 then some (.invokevirtual 384, 0) else none) else (bif Nat.beq pc 41 then some (.lstore 4, 0) else none)) else (bif Nat.blt pc 44 then (bif Nat.beq pc 43 then some (.aload_n 0, 0) else none) else (bif Nat.beq pc 44 then some (.lload 4, 0) else none))) else (bif Nat.blt pc 49 then (bif Nat.blt pc 48 then (bif Nat.beq pc 46 then some (.bipush 6, 0) else none) else (bif Nat.beq pc 48 then some (.iload_n 3, 0) else none)) else (bif Nat.blt pc 52 then (bif Nat.beq pc 49 then some (.invokevirtual 384, 0) else none) else (bif Nat.beq pc 52 then some (.lstore 4, 0) else none)))))) else (bif Nat.blt pc 79 then (bif Nat.blt pc 66 then (bif Nat.blt pc 59 then (bif Nat.blt pc 55 then (bif Nat.beq pc 54 then some (.aload_n 0, 0) else none) else (bif Nat.blt pc 57 then (bif Nat.beq pc 55 then some (.lload 4, 0) else none) else (bif Nat.beq pc 57 then some (.bipush 13, 0) else none))) else (bif Nat.blt pc 63 then (bif Nat.blt pc 60 then (bif Nat.beq pc 59 then some (.iload_n 3, 0) else none) else (bif Nat.beq pc 60 then some (.invokevirtual 384, 0) else none)) else (bif Nat.blt pc 65 then (bif Nat.beq pc 63 then some (.lstore 4, 0) else none) else (bif Nat.beq pc 65 then some (.aload_n 0, 0) else none)))) else (bif Nat.blt pc 71 then (bif Nat.blt pc 68 then (bif Nat.beq pc 66 then some (.lload 4, 0) else none) else (bif Nat.blt pc 70 then (bif Nat.beq pc 68 then some (.bipush 23, 0) else none) else (bif Nat.beq pc 70 then some (.iload_n 3, 0) else none))) else (bif Nat.blt pc 76 then (bif Nat.blt pc 74 then (bif Nat.beq pc 71 then some (.invokevirtual 384, 0) else none) else (bif Nat.beq pc 74 then some (.lstore 4, 0) else none)) else (bif Nat.blt pc 77 then (bif Nat.beq pc 76 then some (.iconst 0, 0) else none) else (bif Nat.beq pc 77 then some (.istore 6, 0) else none))))) else (bif Nat.blt pc 91 then (bif Nat.blt pc 85 then (bif Nat.blt pc 81 then (bif Nat.beq pc 79 then some (.iload 6, 0) else none) else (bif Nat.blt pc 82 then (bif Nat.beq pc 81 then some (.iconst 2, 0) else none) else (bif Nat.beq pc 82 then some (.if_icmp .gt 24, 106) else none))) else (bif Nat.blt pc 88 then (bif Nat.blt pc 87 then (bif Nat.beq pc 85 then some (.lload 4, 0) else none) else (bif Nat.beq pc 87 then some (.aload_n 0, 0) else none)) else (bif Nat.blt pc 89 then (bif Nat.beq pc 88 then some (.iload_n 3, 0) else none) else (bif Nat.beq pc 89 then some (.iload 6, 0) else none)))) else (bif Nat.blt pc 100 then (bif Nat.blt pc 95 then (bif Nat.blt pc 94 then (bif Nat.beq pc 91 then some (.invokevirtual 387, 0) else none) else (bif Nat.beq pc 94 then some (.i2l, 0) else none)) else (bif Nat.blt pc 98 then (bif Nat.beq pc 95 then some (.invokestatic 294, 0) else none) else (bif Nat.beq pc 98 then some (.lstore 4, 0) else none))) else (bif Nat.blt pc 106 then (bif Nat.blt pc 103 then (bif Nat.beq pc 100 then some (.iinc 6 1, 0) else none) else (bif Nat.beq pc 103 then some (.goto (-24), 79) else none)) else (bif Nat.blt pc 108 then (bif Nat.beq pc 106 then some (.lload 4, 0) else none) else (bif Nat.beq pc 108 then some (.lreturn, 0) else none))))))
def MX6_mixedWithDay : MI := (yX6_mixedWithDay, cX6_mixedWithDay, 7, (some .long), 6, zTab 109 tX6_mixedWithDay)
theorem kX6_mixedWithDay : zTok MX6_mixedWithDay := zTok_of 109 tX6_mixedWithDay rfl (by decide +kernel)
theorem oX6_mixedWithDay : zokM MX6_mixedWithDay 2 = true := zokM_mk (z_in (List.mem_of_getElem? (i := 819) (by decide +kernel)) rfl) z_ini6 (by decide +kernel)
theorem iX6_mixedWithDay : zokI MX6_mixedWithDay = true := zokI_mk (z_in (List.mem_of_getElem? (i := 818) (by decide +kernel)) rfl) (z_in (List.mem_of_getElem? (i := 23) (by decide +kernel)) rfl)
def tX6_mixedWithMinute : Nat → Option (Instr × Nat) := fun pc => bif Nat.blt pc 16 then (bif Nat.blt pc 8 then (bif Nat.blt pc 3 then (bif Nat.blt pc 1 then (bif Nat.beq pc 0 then some (.lload_n 1, 0) else none) else (bif Nat.beq pc 1 then some (.lstore 5, 0) else none)) else (bif Nat.blt pc 4 then (bif Nat.beq pc 3 then some (.iconst 0, 0) else none) else (bif Nat.blt pc 6 then (bif Nat.beq pc 4 then some (.istore 7, 0) else none) else (bif Nat.beq pc 6 then some (.iload 7, 0) else none)))) else (bif Nat.blt pc 12 then (bif Nat.blt pc 9 then (bif Nat.beq pc 8 then some (.iconst 2, 0) else none) else (bif Nat.beq pc 9 then some (.if_icmp .gt 26, 35) else none)) else (bif Nat.blt pc 14 then (bif Nat.beq pc 12 then some (.lload 5, 0) else none) else (bif Nat.blt pc 15 then (bif Nat.beq pc 14 then some (.aload_n 0, 0) else none) else (bif Nat.beq pc 15 then some (.iload_n 3, 0) else none))))) else (bif Nat.blt pc 27 then (bif Nat.blt pc 20 then (bif Nat.blt pc 18 then (bif Nat.beq pc 16 then some (.iload 4, 0) else none) else (bif Nat.beq pc 18 then some (.iload 7, 0) else none)) else (bif Nat.blt pc 23 then (bif Nat.beq pc 20 then some (.invokevirtual 390, 0) else none) else (bif Nat.blt pc 24 then (bif Nat.beq pc 23 then some (.i2l, 0) else none) else (bif Nat.beq pc 24 then some (.invokestatic 294, 0) else none)))) else (bif Nat.blt pc 32 then (bif Nat.blt pc 29 then (bif Nat.beq pc 27 then some (.lstore 5, 0) else none) else (bif Nat.beq pc 29 then some (.iinc 7 1, 0) else none)) else (bif Nat.blt pc 35 then (bif Nat.beq pc 32 then some (.goto (-26), 6) else none) else (bif Nat.blt pc 37 then (bif Nat.beq pc 35 then some (.lload 5, 0) else none) else (bif Nat.beq pc 37 then some (.lreturn, 0) else none)))))
def MX6_mixedWithMinute : MI := (yX6_mixedWithMinute, cX6_mixedWithMinute, 8, (some .long), 6, zTab 38 tX6_mixedWithMinute)
theorem kX6_mixedWithMinute : zTok MX6_mixedWithMinute := zTok_of 38 tX6_mixedWithMinute rfl (by decide +kernel)
theorem oX6_mixedWithMinute : zokM MX6_mixedWithMinute 3 = true := zokM_mk (z_in (List.mem_of_getElem? (i := 824) (by decide +kernel)) rfl) z_ini6 (by decide +kernel)
theorem iX6_mixedWithMinute : zokI MX6_mixedWithMinute = true := zokI_mk (z_in (List.mem_of_getElem? (i := 823) (by decide +kernel)) rfl) (z_in (List.mem_of_getElem? (i := 24) (by decide +kernel)) rfl)
def tX6_mixedWithGuesses : Nat → Option (Instr × Nat) := fun pc => bif Nat.blt pc 58 then (bif Nat.blt pc 29 then (bif Nat.blt pc 13 then (bif Nat.blt pc 4 then (bif Nat.blt pc 2 then (bif Nat.blt pc 1 then (bif Nat.beq pc 0 then some (.lload_n 1, 0) else none) else (bif Nat.beq pc 1 then some (.aload_n 0, 0) else none)) else (bif Nat.blt pc 3 then (bif Nat.beq pc 2 then some (.iload_n 3, 0) else none) else (bif Nat.beq pc 3 then some (.iconst 0, 0) else none))) else (bif Nat.blt pc 8 then (bif Nat.blt pc 7 then (bif Nat.beq pc 4 then some (.invokevirtual 393, 0) else none) else (bif Nat.beq pc 7 then some (.i2l, 0) else none)) else (bif Nat.blt pc 11 then (bif Nat.beq pc 8 then some (.invokestatic 294, 0) else none) else (bif Nat.beq pc 11 then some (.lstore 4, 0) else none)))) else (bif Nat.blt pc 18 then (bif Nat.blt pc 16 then (bif Nat.blt pc 15 then (bif Nat.beq pc 13 then some (.lload 4, 0) else none) else (bif Nat.beq pc 15 then some (.aload_n 0, 0) else none)) else (bif Nat.blt pc 17 then (bif Nat.beq pc 16 then some (.iload_n 3, 0) else none) else (bif Nat.beq pc 17 then some (.iconst 1, 0) else none))) else (bif Nat.blt pc 22 then (bif Nat.blt pc 21 then (bif Nat.beq pc 18 then some (.invokevirtual 393, 0) else none) else (bif Nat.beq pc 21 then some (.i2l, 0) else none)) else (bif Nat.blt pc 25 then (bif Nat.beq pc 22 then some (.invokestatic 294, 0) else none) else (bif Nat.blt pc 27 then (bif Nat.beq pc 25 then some (.lstore 4, 0) else none) else (bif Nat.beq pc 27 then some (.lload 4, 0) else none)))))) else (bif Nat.blt pc 43 then (bif Nat.blt pc 35 then (bif Nat.blt pc 31 then (bif Nat.blt pc 30 then (bif Nat.beq pc 29 then some (.aload_n 0, 0) else none) else (bif Nat.beq pc 30 then some (.iload_n 3, 0) else none)) else (bif Nat.blt pc 32 then (bif Nat.beq pc 31 then some (.iconst 0, 0) else none) else (bif Nat.beq pc 32 then some (.invokevirtual 396, 0) else none))) else (bif Nat.blt pc 39 then (bif Nat.blt pc 36 then (bif Nat.beq pc 35 then some (.i2l, 0) else none) else (bif Nat.beq pc 36 then some (.invokestatic 294, 0) else none)) else (bif Nat.blt pc 41 then (bif Nat.beq pc 39 then some (.lstore 4, 0) else none) else (bif Nat.beq pc 41 then some (.lload 4, 0) else none)))) else (bif Nat.blt pc 49 then (bif Nat.blt pc 45 then (bif Nat.blt pc 44 then (bif Nat.beq pc 43 then some (.aload_n 0, 0) else none) else (bif Nat.beq pc 44 then some (.iload_n 3, 0) else none)) else (bif Nat.blt pc 46 then (bif Nat.beq pc 45 then some (.iconst 1, 0) else none) else (bif Nat.beq pc 46 then some (.invokevirtual 396, 0) else none))) else (bif Nat.blt pc 53 then (bif Nat.blt pc 50 then (bif Nat.beq pc 49 then some (.i2l, 0) else none) else (bif Nat.beq pc 50 then some (.invokestatic 294, 0) else none)) else (bif Nat.blt pc 55 then (bif Nat.beq pc 53 then some (.lstore 4, 0) else none) else (bif Nat.blt pc 57 then (bif Nat.beq pc 55 then some (.lload 4, 0) else none) else (bif Nat.beq pc 57 then some (.aload_n 0, 0) else none))))))) else (bif Nat.blt pc 87 then (bif Nat.blt pc 72 then (bif Nat.blt pc 66 then (bif Nat.blt pc 62 then (bif Nat.blt pc 59 then (bif Nat.beq pc 58 then some (.iload_n 3, 0) else none) else (bif Nat.beq pc 59 then some (.invokevirtual 399, 0) else none)) else (bif Nat.blt pc 63 then (bif Nat.beq pc 62 then some (.i2l, 0) else none) else (bif Nat.beq pc 63 then some (.invokestatic 294, 0) else none))) else (bif Nat.blt pc 70 then (bif Nat.blt pc 68 then (bif Nat.beq pc 66 then some (.lstore 4, 0) else none) else (bif Nat.beq pc 68 then some (.lload 4, 0) else none)) else (bif Nat.blt pc 71 then (bif Nat.beq pc 70 then some (.aload_n 0, 0) else none) else (bif Nat.beq pc 71 then some (.iconst 5, 0) else none)))) else (bif Nat.blt pc 80 then (bif Nat.blt pc 74 then (bif Nat.blt pc 73 then (bif Nat.beq pc 72 then some (.iload_n 3, 0) else none) else (bif Nat.beq pc 73 then some (.iconst 0, 0) else none)) else (bif Nat.blt pc 77 then (bif Nat.beq pc 74 then some (.invokevirtual 402, 0) else none) else (bif Nat.beq pc 77 then some (.invokestatic 294, 0) else none))) else (bif Nat.blt pc 84 then (bif Nat.blt pc 82 then (bif Nat.beq pc 80 then some (.lstore 4, 0) else none) else (bif Nat.beq pc 82 then some (.lload 4, 0) else none)) else (bif Nat.blt pc 85 then (bif Nat.beq pc 84 then some (.aload_n 0, 0) else none) else (bif Nat.blt pc 86 then (bif Nat.beq pc 85 then some (.iconst 5, 0) else none) else (bif Nat.beq pc 86 then some (.iload_n 3, 0) else none)))))) else (bif Nat.blt pc 103 then (bif Nat.blt pc 96 then (bif Nat.blt pc 91 then (bif Nat.blt pc 88 then (bif Nat.beq pc 87 then some (.iconst 1, 0) else none) else (bif Nat.beq pc 88 then some (.invokevirtual 402, 0) else none)) else (bif Nat.blt pc 94 then (bif Nat.beq pc 91 then some (.invokestatic 294, 0) else none) else (bif Nat.beq pc 94 then some (.lstore 4, 0) else none))) else (bif Nat.blt pc 99 then (bif Nat.blt pc 98 then (bif Nat.beq pc 96 then some (.lload 4, 0) else none) else (bif Nat.beq pc 98 then some (.iload_n 3, 0) else none)) else (bif Nat.blt pc 102 then (bif Nat.beq pc 99 then some (.ifCond .ne 7, 106) else none) else (bif Nat.beq pc 102 then some (.lconst 0, 0) else none)))) else (bif Nat.blt pc 110 then (bif Nat.blt pc 107 then (bif Nat.blt pc 106 then (bif Nat.beq pc 103 then some (.goto 12, 115) else none) else (bif Nat.beq pc 106 then some (.aload_n 0, 0) else none)) else (bif Nat.blt pc 109 then (bif Nat.beq pc 107 then some (.bipush 9, 0) else none) else (bif Nat.beq pc 109 then some (.iconst 0, 0) else none))) else (bif Nat.blt pc 114 then (bif Nat.blt pc 111 then (bif Nat.beq pc 110 then some (.iload_n 3, 0) else none) else (bif Nat.beq pc 111 then some (.invokevirtual 405, 0) else none)) else (bif Nat.blt pc 115 then (bif Nat.beq pc 114 then some (.i2l, 0) else none) else (bif Nat.blt pc 118 then (bif Nat.beq pc 115 then some (.invokestatic 294, 0) else none) else (bif Nat.beq pc 118 then some (.lreturn, 0) else none)))))))
def MX6_mixedWithGuesses : MI := (yX6_mixedWithGuesses, cX6_mixedWithGuesses, 6, (some .long), 6, zTab 119 tX6_mixedWithGuesses)
theorem kX6_mixedWithGuesses : zTok MX6_mixedWithGuesses := zTok_of 119 tX6_mixedWithGuesses rfl (by decide +kernel)
theorem oX6_mixedWithGuesses : zokM MX6_mixedWithGuesses 2 = true := zokM_mk (z_in (List.mem_of_getElem? (i := 830) (by decide +kernel)) rfl) z_ini6 (by decide +kernel)
theorem iX6_mixedWithGuesses : zokI MX6_mixedWithGuesses = true := zokI_mk (z_in (List.mem_of_getElem? (i := 829) (by decide +kernel)) rfl) (z_in (List.mem_of_getElem? (i := 25) (by decide +kernel)) rfl)
end
section
theorem z_ini7 : Cond.initialized (zown 7) ∈ z_tbl := (z_in (List.mem_of_getElem? (i := 84) (by decide +kernel)) rfl)
def tX7_in : Nat → Option (Instr × Nat) := fun pc => bif Nat.blt pc 7 then (bif Nat.blt pc 2 then (bif Nat.blt pc 1 then (bif Nat.beq pc 0 then some (.iload_n 0, 0) else none) else (bif Nat.beq pc 1 then some (.iload_n 1, 0) else none)) else (bif Nat.blt pc 5 then (bif Nat.beq pc 2 then some (.if_icmp .lt 12, 14) else none) else (bif Nat.blt pc 6 then (bif Nat.beq pc 5 then some (.iload_n 0, 0) else none) else (bif Nat.beq pc 6 then some (.iload_n 2, 0) else none)))) else (bif Nat.blt pc 11 then (bif Nat.blt pc 10 then (bif Nat.beq pc 7 then some (.if_icmp .gt 7, 14) else none) else (bif Nat.beq pc 10 then some (.iconst 1, 0) else none)) else (bif Nat.blt pc 14 then (bif Nat.beq pc 11 then some (.goto 4, 15) else none) else (bif Nat.blt pc 15 then (bif Nat.beq pc 14 then some (.iconst 0, 0) else none) else (bif Nat.beq pc 15 then some (.ireturn, 0) else none))))
def MX7_in : MI := (yX7_in, cX7_in, 3, (some .boolean), 7, zTab 16 tX7_in)
theorem kX7_in : zTok MX7_in := zTok_of 16 tX7_in rfl (by decide +kernel)
theorem oX7_in : zokM MX7_in 3 = true := zokM_mk (z_in (List.mem_of_getElem? (i := 980) (by decide +kernel)) rfl) z_ini7 (by decide +kernel)
theorem iX7_in : zokS MX7_in = true := zokS_mk (z_in (List.mem_of_getElem? (i := 979) (by decide +kernel)) rfl)
def tX7_isIn : Nat → Option (Instr × Nat) := fun pc => bif Nat.blt pc 5 then (bif Nat.blt pc 2 then (bif Nat.blt pc 1 then (bif Nat.beq pc 0 then some (.iload_n 0, 0) else none) else (bif Nat.beq pc 1 then some (.iload_n 1, 0) else none)) else (bif Nat.blt pc 3 then (bif Nat.beq pc 2 then some (.ishr, 0) else none) else (bif Nat.blt pc 4 then (bif Nat.beq pc 3 then some (.iconst 1, 0) else none) else (bif Nat.beq pc 4 then some (.iand, 0) else none)))) else (bif Nat.blt pc 10 then (bif Nat.blt pc 6 then (bif Nat.beq pc 5 then some (.iconst 1, 0) else none) else (bif Nat.blt pc 9 then (bif Nat.beq pc 6 then some (.if_icmp .ne 7, 13) else none) else (bif Nat.beq pc 9 then some (.iconst 1, 0) else none))) else (bif Nat.blt pc 13 then (bif Nat.beq pc 10 then some (.goto 4, 14) else none) else (bif Nat.blt pc 14 then (bif Nat.beq pc 13 then some (.iconst 0, 0) else none) else (bif Nat.beq pc 14 then some (.ireturn, 0) else none))))
def MX7_isIn : MI := (yX7_isIn, cX7_isIn, 2, (some .boolean), 7, zTab 15 tX7_isIn)
theorem kX7_isIn : zTok MX7_isIn := zTok_of 15 tX7_isIn rfl (by decide +kernel)
theorem oX7_isIn : zokM MX7_isIn 2 = true := zokM_mk (z_in (List.mem_of_getElem? (i := 1095) (by decide +kernel)) rfl) z_ini7 (by decide +kernel)
theorem iX7_isIn : zokS MX7_isIn = true := zokS_mk (z_in (List.mem_of_getElem? (i := 1094) (by decide +kernel)) rfl)
def tX7_no : Nat → Option (Instr × Nat) := fun pc => bif Nat.blt pc 4 then (bif Nat.blt pc 3 then (bif Nat.beq pc 0 then some (.ldc2_w 102, 0) else none) else (bif Nat.beq pc 3 then some (.iload_n 0, 0) else none)) else (bif Nat.blt pc 5 then (bif Nat.beq pc 4 then some (.i2l, 0) else none) else (bif Nat.blt pc 6 then (bif Nat.beq pc 5 then some (.lsub, 0) else none) else (bif Nat.beq pc 6 then some (.lreturn, 0) else none)))
def MX7_no : MI := (yX7_no, cX7_no, 1, (some .long), 7, zTab 7 tX7_no)
theorem kX7_no : zTok MX7_no := zTok_of 7 tX7_no rfl (by decide +kernel)
theorem oX7_no : zokM MX7_no 1 = true := zokM_mk (z_in (List.mem_of_getElem? (i := 1281) (by decide +kernel)) rfl) z_ini7 (by decide +kernel)
theorem iX7_no : zokS MX7_no = true := zokS_mk (z_in (List.mem_of_getElem? (i := 1280) (by decide +kernel)) rfl)
def tX7_lowest : Nat → Option (Instr × Nat) := fun pc => bif Nat.blt pc 22 then (bif Nat.blt pc 9 then (bif Nat.blt pc 4 then (bif Nat.blt pc 1 then (bif Nat.beq pc 0 then some (.lload_n 0, 0) else none) else (bif Nat.blt pc 3 then (bif Nat.beq pc 1 then some (.lstore 5, 0) else none) else (bif Nat.beq pc 3 then some (.lload_n 2, 0) else none))) else (bif Nat.blt pc 6 then (bif Nat.beq pc 4 then some (.lstore 7, 0) else none) else (bif Nat.blt pc 8 then (bif Nat.beq pc 6 then some (.lload 7, 0) else none) else (bif Nat.beq pc 8 then some (.lconst 0, 0) else none)))) else (bif Nat.blt pc 15 then (bif Nat.blt pc 10 then (bif Nat.beq pc 9 then some (.lcmp, 0) else none) else (bif Nat.blt pc 13 then (bif Nat.beq pc 10 then some (.ifCond .eq 21, 31) else none) else (bif Nat.beq pc 13 then some (.lload 5, 0) else none))) else (bif Nat.blt pc 18 then (bif Nat.blt pc 17 then (bif Nat.beq pc 15 then some (.lload 7, 0) else none) else (bif Nat.beq pc 17 then some (.lrem, 0) else none)) else (bif Nat.blt pc 20 then (bif Nat.beq pc 18 then some (.lstore 9, 0) else none) else (bif Nat.beq pc 20 then some (.lload 7, 0) else none))))) else (bif Nat.blt pc 37 then (bif Nat.blt pc 28 then (bif Nat.blt pc 24 then (bif Nat.beq pc 22 then some (.lstore 5, 0) else none) else (bif Nat.blt pc 26 then (bif Nat.beq pc 24 then some (.lload 9, 0) else none) else (bif Nat.beq pc 26 then some (.lstore 7, 0) else none))) else (bif Nat.blt pc 33 then (bif Nat.blt pc 31 then (bif Nat.beq pc 28 then some (.goto (-22), 6) else none) else (bif Nat.beq pc 31 then some (.iload 4, 0) else none)) else (bif Nat.blt pc 36 then (bif Nat.beq pc 33 then some (.ifCond .ne 10, 43) else none) else (bif Nat.beq pc 36 then some (.lload_n 0, 0) else none)))) else (bif Nat.blt pc 43 then (bif Nat.blt pc 39 then (bif Nat.beq pc 37 then some (.lload 5, 0) else none) else (bif Nat.blt pc 40 then (bif Nat.beq pc 39 then some (.ldiv, 0) else none) else (bif Nat.beq pc 40 then some (.goto 7, 47) else none))) else (bif Nat.blt pc 46 then (bif Nat.blt pc 44 then (bif Nat.beq pc 43 then some (.lload_n 2, 0) else none) else (bif Nat.beq pc 44 then some (.lload 5, 0) else none)) else (bif Nat.blt pc 47 then (bif Nat.beq pc 46 then some (.ldiv, 0) else none) else (bif Nat.beq pc 47 then some (.lreturn, 0) else none)))))
def MX7_lowest : MI := (yX7_lowest, cX7_lowest, 11, (some .long), 7, zTab 48 tX7_lowest)
theorem kX7_lowest : zTok MX7_lowest := zTok_of 48 tX7_lowest rfl (by decide +kernel)
theorem oX7_lowest : zokM MX7_lowest 3 = true := zokM_mk (z_in (List.mem_of_getElem? (i := 1278) (by decide +kernel)) rfl) z_ini7 (by decide +kernel)
theorem iX7_lowest : zokS MX7_lowest = true := zokS_mk (z_in (List.mem_of_getElem? (i := 1277) (by decide +kernel)) rfl)
def tX7_isText : Nat → Option (Instr × Nat) := fun pc => bif Nat.blt pc 2 then (bif Nat.blt pc 1 then (bif Nat.beq pc 0 then some (.iload_n 0, 0) else none) else (bif Nat.beq pc 1 then some (.iconst 0, 0) else none)) else (bif Nat.blt pc 3 then (bif Nat.beq pc 2 then some (.iconst 1, 0) else none) else (bif Nat.blt pc 6 then (bif Nat.beq pc 3 then some (.invokestatic 104, 0) else none) else (bif Nat.beq pc 6 then some (.ireturn, 0) else none)))
def MX7_isText : MI := (yX7_isText, cX7_isText, 1, (some .boolean), 7, zTab 7 tX7_isText)
theorem kX7_isText : zTok MX7_isText := zTok_of 7 tX7_isText rfl (by decide +kernel)
theorem oX7_isText : zokM MX7_isText 1 = true := zokM_mk (z_in (List.mem_of_getElem? (i := 977) (by decide +kernel)) rfl) z_ini7 (by decide +kernel)
theorem iX7_isText : zokS MX7_isText = true := zokS_mk (z_in (List.mem_of_getElem? (i := 976) (by decide +kernel)) rfl)
def tX7_isMinute : Nat → Option (Instr × Nat) := fun pc => bif Nat.blt pc 2 then (bif Nat.blt pc 1 then (bif Nat.beq pc 0 then some (.iload_n 0, 0) else none) else (bif Nat.beq pc 1 then some (.iconst 0, 0) else none)) else (bif Nat.blt pc 4 then (bif Nat.beq pc 2 then some (.bipush 23, 0) else none) else (bif Nat.blt pc 7 then (bif Nat.beq pc 4 then some (.invokestatic 104, 0) else none) else (bif Nat.beq pc 7 then some (.ireturn, 0) else none)))
def MX7_isMinute : MI := (yX7_isMinute, cX7_isMinute, 1, (some .boolean), 7, zTab 8 tX7_isMinute)
theorem kX7_isMinute : zTok MX7_isMinute := zTok_of 8 tX7_isMinute rfl (by decide +kernel)
theorem oX7_isMinute : zokM MX7_isMinute 1 = true := zokM_mk (z_in (List.mem_of_getElem? (i := 1011) (by decide +kernel)) rfl) z_ini7 (by decide +kernel)
theorem iX7_isMinute : zokS MX7_isMinute = true := zokS_mk (z_in (List.mem_of_getElem? (i := 1010) (by decide +kernel)) rfl)
def tX7_isTwo : Nat → Option (Instr × Nat) := fun pc => bif Nat.blt pc 2 then (bif Nat.blt pc 1 then (bif Nat.beq pc 0 then some (.iload_n 0, 0) else none) else (bif Nat.beq pc 1 then some (.iconst 0, 0) else none)) else (bif Nat.blt pc 3 then (bif Nat.beq pc 2 then some (.iconst 1, 0) else none) else (bif Nat.blt pc 6 then (bif Nat.beq pc 3 then some (.invokestatic 104, 0) else none) else (bif Nat.beq pc 6 then some (.ireturn, 0) else none)))
def MX7_isTwo : MI := (yX7_isTwo, cX7_isTwo, 1, (some .boolean), 7, zTab 7 tX7_isTwo)
theorem kX7_isTwo : zTok MX7_isTwo := zTok_of 7 tX7_isTwo rfl (by decide +kernel)
theorem oX7_isTwo : zokM MX7_isTwo 1 = true := zokM_mk (z_in (List.mem_of_getElem? (i := 1166) (by decide +kernel)) rfl) z_ini7 (by decide +kernel)
theorem iX7_isTwo : zokS MX7_isTwo = true := zokS_mk (z_in (List.mem_of_getElem? (i := 1165) (by decide +kernel)) rfl)
def tX7_isThree : Nat → Option (Instr × Nat) := fun pc => bif Nat.blt pc 2 then (bif Nat.blt pc 1 then (bif Nat.beq pc 0 then some (.iload_n 0, 0) else none) else (bif Nat.beq pc 1 then some (.iconst 0, 0) else none)) else (bif Nat.blt pc 3 then (bif Nat.beq pc 2 then some (.iconst 2, 0) else none) else (bif Nat.blt pc 6 then (bif Nat.beq pc 3 then some (.invokestatic 104, 0) else none) else (bif Nat.beq pc 6 then some (.ireturn, 0) else none)))
def MX7_isThree : MI := (yX7_isThree, cX7_isThree, 1, (some .boolean), 7, zTab 7 tX7_isThree)
theorem kX7_isThree : zTok MX7_isThree := zTok_of 7 tX7_isThree rfl (by decide +kernel)
theorem oX7_isThree : zokM MX7_isThree 1 = true := zokM_mk (z_in (List.mem_of_getElem? (i := 1033) (by decide +kernel)) rfl) z_ini7 (by decide +kernel)
theorem iX7_isThree : zokS MX7_isThree = true := zokS_mk (z_in (List.mem_of_getElem? (i := 1032) (by decide +kernel)) rfl)
def tX7_isTwelve : Nat → Option (Instr × Nat) := fun pc => bif Nat.blt pc 2 then (bif Nat.blt pc 1 then (bif Nat.beq pc 0 then some (.iload_n 0, 0) else none) else (bif Nat.beq pc 1 then some (.iconst 0, 0) else none)) else (bif Nat.blt pc 4 then (bif Nat.beq pc 2 then some (.bipush 11, 0) else none) else (bif Nat.blt pc 7 then (bif Nat.beq pc 4 then some (.invokestatic 104, 0) else none) else (bif Nat.beq pc 7 then some (.ireturn, 0) else none)))
def MX7_isTwelve : MI := (yX7_isTwelve, cX7_isTwelve, 1, (some .boolean), 7, zTab 8 tX7_isTwelve)
theorem kX7_isTwelve : zTok MX7_isTwelve := zTok_of 8 tX7_isTwelve rfl (by decide +kernel)
theorem oX7_isTwelve : zokM MX7_isTwelve 1 = true := zokM_mk (z_in (List.mem_of_getElem? (i := 1052) (by decide +kernel)) rfl) z_ini7 (by decide +kernel)
theorem iX7_isTwelve : zokS MX7_isTwelve = true := zokS_mk (z_in (List.mem_of_getElem? (i := 1051) (by decide +kernel)) rfl)
def tX7_type : Nat → Option (Instr × Nat) := fun pc => bif Nat.blt pc 45 then (bif Nat.blt pc 22 then (bif Nat.blt pc 9 then (bif Nat.blt pc 4 then (bif Nat.blt pc 1 then (bif Nat.beq pc 0 then some (.iload_n 1, 0) else none) else (bif Nat.beq pc 1 then some (.invokestatic 108, 0) else none)) else (bif Nat.blt pc 7 then (bif Nat.beq pc 4 then some (.ifCond .eq 14, 18) else none) else (bif Nat.blt pc 8 then (bif Nat.beq pc 7 then some (.iload_n 2, 0) else none) else (bif Nat.beq pc 8 then some (.iconst 0, 0) else none)))) else (bif Nat.blt pc 18 then (bif Nat.blt pc 12 then (bif Nat.beq pc 9 then some (.sipush 255, 0) else none) else (bif Nat.blt pc 15 then (bif Nat.beq pc 12 then some (.invokestatic 104, 0) else none) else (bif Nat.beq pc 15 then some (.ifCond .ne 6, 21) else none))) else (bif Nat.blt pc 20 then (bif Nat.beq pc 18 then some (.bipush (-2), 0) else none) else (bif Nat.blt pc 21 then (bif Nat.beq pc 20 then some (.ireturn, 0) else none) else (bif Nat.beq pc 21 then some (.aload_n 0, 0) else none))))) else (bif Nat.blt pc 33 then (bif Nat.blt pc 27 then (bif Nat.blt pc 25 then (bif Nat.beq pc 22 then some (.getfield 7, 0) else none) else (bif Nat.blt pc 26 then (bif Nat.beq pc 25 then some (.iload_n 1, 0) else none) else (bif Nat.beq pc 26 then some (.iaload, 0) else none))) else (bif Nat.blt pc 28 then (bif Nat.beq pc 27 then some (.iload_n 1, 0) else none) else (bif Nat.blt pc 31 then (bif Nat.beq pc 28 then some (.ifCond .ne 8, 36) else none) else (bif Nat.beq pc 31 then some (.bipush 47, 0) else none)))) else (bif Nat.blt pc 41 then (bif Nat.blt pc 36 then (bif Nat.beq pc 33 then some (.goto 5, 38) else none) else (bif Nat.blt pc 38 then (bif Nat.beq pc 36 then some (.bipush 24, 0) else none) else (bif Nat.beq pc 38 then some (.if_icmp .ne 6, 44) else none))) else (bif Nat.blt pc 43 then (bif Nat.beq pc 41 then some (.bipush (-4), 0) else none) else (bif Nat.blt pc 44 then (bif Nat.beq pc 43 then some (.ireturn, 0) else none) else (bif Nat.beq pc 44 then some (.aload_n 0, 0) else none)))))) else (bif Nat.blt pc 62 then (bif Nat.blt pc 56 then (bif Nat.blt pc 51 then (bif Nat.blt pc 48 then (bif Nat.beq pc 45 then some (.getfield 13, 0) else none) else (bif Nat.blt pc 50 then (bif Nat.beq pc 48 then some (.bipush 47, 0) else none) else (bif Nat.beq pc 50 then some (.iload_n 1, 0) else none))) else (bif Nat.blt pc 52 then (bif Nat.beq pc 51 then some (.imul, 0) else none) else (bif Nat.blt pc 53 then (bif Nat.beq pc 52 then some (.aload_n 0, 0) else none) else (bif Nat.beq pc 53 then some (.getfield 7, 0) else none)))) else (bif Nat.blt pc 59 then (bif Nat.blt pc 57 then (bif Nat.beq pc 56 then some (.iload_n 1, 0) else none) else (bif Nat.blt pc 58 then (bif Nat.beq pc 57 then some (.iaload, 0) else none) else (bif Nat.beq pc 58 then some (.iadd, 0) else none))) else (bif Nat.blt pc 60 then (bif Nat.beq pc 59 then some (.iload_n 2, 0) else none) else (bif Nat.blt pc 61 then (bif Nat.beq pc 60 then some (.iastore, 0) else none) else (bif Nat.beq pc 61 then some (.aload_n 0, 0) else none))))) else (bif Nat.blt pc 70 then (bif Nat.blt pc 67 then (bif Nat.blt pc 65 then (bif Nat.beq pc 62 then some (.getfield 7, 0) else none) else (bif Nat.blt pc 66 then (bif Nat.beq pc 65 then some (.iload_n 1, 0) else none) else (bif Nat.beq pc 66 then some (.dup2, 0) else none))) else (bif Nat.blt pc 68 then (bif Nat.beq pc 67 then some (.iaload, 0) else none) else (bif Nat.blt pc 69 then (bif Nat.beq pc 68 then some (.iconst 1, 0) else none) else (bif Nat.beq pc 69 then some (.iadd, 0) else none)))) else (bif Nat.blt pc 75 then (bif Nat.blt pc 71 then (bif Nat.beq pc 70 then some (.iastore, 0) else none) else (bif Nat.blt pc 72 then (bif Nat.beq pc 71 then some (.aload_n 0, 0) else none) else (bif Nat.beq pc 72 then some (.getfield 7, 0) else none))) else (bif Nat.blt pc 76 then (bif Nat.beq pc 75 then some (.iload_n 1, 0) else none) else (bif Nat.blt pc 77 then (bif Nat.beq pc 76 then some (.iaload, 0) else none) else (bif Nat.beq pc 77 then some (.ireturn, 0) else none))))))
def MX7_type : MI := (yX7_type, cX7_type, 3, (some .int), 7, zTab 78 tX7_type)
theorem kX7_type : zTok MX7_type := zTok_of 78 tX7_type rfl (by decide +kernel)
theorem oX7_type : zokM MX7_type 2 = true := zokM_mk (z_in (List.mem_of_getElem? (i := 974) (by decide +kernel)) rfl) z_ini7 (by decide +kernel)
theorem iX7_type : zokI MX7_type = true := zokI_mk (z_in (List.mem_of_getElem? (i := 972) (by decide +kernel)) rfl) (z_in (List.mem_of_getElem? (i := 973) (by decide +kernel)) rfl)
def tX7_wipe : Nat → Option (Instr × Nat) := fun pc => bif Nat.blt pc 15 then (bif Nat.blt pc 9 then (bif Nat.blt pc 4 then (bif Nat.blt pc 1 then (bif Nat.beq pc 0 then some (.iload_n 1, 0) else none) else (bif Nat.beq pc 1 then some (.invokestatic 108, 0) else none)) else (bif Nat.blt pc 7 then (bif Nat.beq pc 4 then some (.ifCond .ne 6, 10) else none) else (bif Nat.beq pc 7 then some (.bipush (-2), 0) else none))) else (bif Nat.blt pc 11 then (bif Nat.blt pc 10 then (bif Nat.beq pc 9 then some (.ireturn, 0) else none) else (bif Nat.beq pc 10 then some (.aload_n 0, 0) else none)) else (bif Nat.blt pc 14 then (bif Nat.beq pc 11 then some (.getfield 7, 0) else none) else (bif Nat.beq pc 14 then some (.iload_n 1, 0) else none)))) else (bif Nat.blt pc 21 then (bif Nat.blt pc 17 then (bif Nat.blt pc 16 then (bif Nat.beq pc 15 then some (.iaload, 0) else none) else (bif Nat.beq pc 16 then some (.istore_n 2, 0) else none)) else (bif Nat.blt pc 18 then (bif Nat.beq pc 17 then some (.aload_n 0, 0) else none) else (bif Nat.beq pc 18 then some (.getfield 7, 0) else none))) else (bif Nat.blt pc 23 then (bif Nat.blt pc 22 then (bif Nat.beq pc 21 then some (.iload_n 1, 0) else none) else (bif Nat.beq pc 22 then some (.iconst 0, 0) else none)) else (bif Nat.blt pc 24 then (bif Nat.beq pc 23 then some (.iastore, 0) else none) else (bif Nat.blt pc 25 then (bif Nat.beq pc 24 then some (.iload_n 2, 0) else none) else (bif Nat.beq pc 25 then some (.ireturn, 0) else none)))))
def MX7_wipe : MI := (yX7_wipe, cX7_wipe, 3, (some .int), 7, zTab 26 tX7_wipe)
theorem kX7_wipe : zTok MX7_wipe := zTok_of 26 tX7_wipe rfl (by decide +kernel)
theorem oX7_wipe : zokM MX7_wipe 1 = true := zokM_mk (z_in (List.mem_of_getElem? (i := 984) (by decide +kernel)) rfl) z_ini7 (by decide +kernel)
theorem iX7_wipe : zokI MX7_wipe = true := zokI_mk (z_in (List.mem_of_getElem? (i := 982) (by decide +kernel)) rfl) (z_in (List.mem_of_getElem? (i := 983) (by decide +kernel)) rfl)
def tX7_undo : Nat → Option (Instr × Nat) := fun pc => bif Nat.blt pc 22 then (bif Nat.blt pc 11 then (bif Nat.blt pc 7 then (bif Nat.blt pc 1 then (bif Nat.beq pc 0 then some (.iload_n 1, 0) else none) else (bif Nat.blt pc 4 then (bif Nat.beq pc 1 then some (.invokestatic 108, 0) else none) else (bif Nat.beq pc 4 then some (.ifCond .ne 6, 10) else none))) else (bif Nat.blt pc 9 then (bif Nat.beq pc 7 then some (.bipush (-2), 0) else none) else (bif Nat.blt pc 10 then (bif Nat.beq pc 9 then some (.ireturn, 0) else none) else (bif Nat.beq pc 10 then some (.aload_n 0, 0) else none)))) else (bif Nat.blt pc 16 then (bif Nat.blt pc 14 then (bif Nat.beq pc 11 then some (.getfield 7, 0) else none) else (bif Nat.blt pc 15 then (bif Nat.beq pc 14 then some (.iload_n 1, 0) else none) else (bif Nat.beq pc 15 then some (.iaload, 0) else none))) else (bif Nat.blt pc 19 then (bif Nat.beq pc 16 then some (.ifCond .ne 6, 22) else none) else (bif Nat.blt pc 21 then (bif Nat.beq pc 19 then some (.bipush (-3), 0) else none) else (bif Nat.beq pc 21 then some (.ireturn, 0) else none))))) else (bif Nat.blt pc 30 then (bif Nat.blt pc 27 then (bif Nat.blt pc 23 then (bif Nat.beq pc 22 then some (.aload_n 0, 0) else none) else (bif Nat.blt pc 26 then (bif Nat.beq pc 23 then some (.getfield 7, 0) else none) else (bif Nat.beq pc 26 then some (.iload_n 1, 0) else none))) else (bif Nat.blt pc 28 then (bif Nat.beq pc 27 then some (.dup2, 0) else none) else (bif Nat.blt pc 29 then (bif Nat.beq pc 28 then some (.iaload, 0) else none) else (bif Nat.beq pc 29 then some (.iconst 1, 0) else none)))) else (bif Nat.blt pc 33 then (bif Nat.blt pc 31 then (bif Nat.beq pc 30 then some (.isub, 0) else none) else (bif Nat.blt pc 32 then (bif Nat.beq pc 31 then some (.iastore, 0) else none) else (bif Nat.beq pc 32 then some (.aload_n 0, 0) else none))) else (bif Nat.blt pc 37 then (bif Nat.blt pc 36 then (bif Nat.beq pc 33 then some (.getfield 7, 0) else none) else (bif Nat.beq pc 36 then some (.iload_n 1, 0) else none)) else (bif Nat.blt pc 38 then (bif Nat.beq pc 37 then some (.iaload, 0) else none) else (bif Nat.beq pc 38 then some (.ireturn, 0) else none)))))
def MX7_undo : MI := (yX7_undo, cX7_undo, 2, (some .int), 7, zTab 39 tX7_undo)
theorem kX7_undo : zTok MX7_undo := zTok_of 39 tX7_undo rfl (by decide +kernel)
theorem oX7_undo : zokM MX7_undo 1 = true := zokM_mk (z_in (List.mem_of_getElem? (i := 988) (by decide +kernel)) rfl) z_ini7 (by decide +kernel)
theorem iX7_undo : zokI MX7_undo = true := zokI_mk (z_in (List.mem_of_getElem? (i := 986) (by decide +kernel)) rfl) (z_in (List.mem_of_getElem? (i := 987) (by decide +kernel)) rfl)
def tX7_byteAt : Nat → Option (Instr × Nat) := fun pc => bif Nat.blt pc 10 then (bif Nat.blt pc 5 then (bif Nat.blt pc 1 then (bif Nat.beq pc 0 then some (.iload_n 1, 0) else none) else (bif Nat.blt pc 2 then (bif Nat.beq pc 1 then some (.aload_n 0, 0) else none) else (bif Nat.beq pc 2 then some (.getfield 7, 0) else none))) else (bif Nat.blt pc 6 then (bif Nat.beq pc 5 then some (.iconst 0, 0) else none) else (bif Nat.blt pc 7 then (bif Nat.beq pc 6 then some (.iaload, 0) else none) else (bif Nat.beq pc 7 then some (.if_icmp .ge 12, 19) else none)))) else (bif Nat.blt pc 15 then (bif Nat.blt pc 11 then (bif Nat.beq pc 10 then some (.aload_n 0, 0) else none) else (bif Nat.blt pc 14 then (bif Nat.beq pc 11 then some (.getfield 13, 0) else none) else (bif Nat.beq pc 14 then some (.iload_n 1, 0) else none))) else (bif Nat.blt pc 19 then (bif Nat.blt pc 16 then (bif Nat.beq pc 15 then some (.iaload, 0) else none) else (bif Nat.beq pc 16 then some (.goto 4, 20) else none)) else (bif Nat.blt pc 20 then (bif Nat.beq pc 19 then some (.iconst (-1), 0) else none) else (bif Nat.beq pc 20 then some (.ireturn, 0) else none))))
def MX7_byteAt : MI := (yX7_byteAt, cX7_byteAt, 2, (some .int), 7, zTab 21 tX7_byteAt)
theorem kX7_byteAt : zTok MX7_byteAt := zTok_of 21 tX7_byteAt rfl (by decide +kernel)
theorem oX7_byteAt : zokM MX7_byteAt 1 = true := zokM_mk (z_in (List.mem_of_getElem? (i := 1008) (by decide +kernel)) rfl) z_ini7 (by decide +kernel)
theorem iX7_byteAt : zokI MX7_byteAt = true := zokI_mk (z_in (List.mem_of_getElem? (i := 1007) (by decide +kernel)) rfl) (z_in (List.mem_of_getElem? (i := 29) (by decide +kernel)) rfl)
def tX7_readsPerson : Nat → Option (Instr × Nat) := fun pc => bif Nat.blt pc 66 then (bif Nat.blt pc 31 then (bif Nat.blt pc 12 then (bif Nat.blt pc 7 then (bif Nat.blt pc 2 then (bif Nat.blt pc 1 then (bif Nat.beq pc 0 then some (.aload_n 0, 0) else none) else (bif Nat.beq pc 1 then some (.iload_n 2, 0) else none)) else (bif Nat.blt pc 5 then (bif Nat.beq pc 2 then some (.invokevirtual 112, 0) else none) else (bif Nat.beq pc 5 then some (.bipush 97, 0) else none))) else (bif Nat.blt pc 9 then (bif Nat.blt pc 8 then (bif Nat.beq pc 7 then some (.isub, 0) else none) else (bif Nat.beq pc 8 then some (.istore_n 3, 0) else none)) else (bif Nat.blt pc 10 then (bif Nat.beq pc 9 then some (.aload_n 0, 0) else none) else (bif Nat.blt pc 11 then (bif Nat.beq pc 10 then some (.iload_n 2, 0) else none) else (bif Nat.beq pc 11 then some (.iconst 1, 0) else none))))) else (bif Nat.blt pc 20 then (bif Nat.blt pc 16 then (bif Nat.blt pc 13 then (bif Nat.beq pc 12 then some (.iadd, 0) else none) else (bif Nat.beq pc 13 then some (.invokevirtual 112, 0) else none)) else (bif Nat.blt pc 18 then (bif Nat.beq pc 16 then some (.istore 4, 0) else none) else (bif Nat.beq pc 18 then some (.iload 4, 0) else none))) else (bif Nat.blt pc 25 then (bif Nat.blt pc 22 then (bif Nat.beq pc 20 then some (.bipush 112, 0) else none) else (bif Nat.beq pc 22 then some (.if_icmp .ne 7, 29) else none)) else (bif Nat.blt pc 26 then (bif Nat.beq pc 25 then some (.iconst 0, 0) else none) else (bif Nat.blt pc 29 then (bif Nat.beq pc 26 then some (.goto 26, 52) else none) else (bif Nat.beq pc 29 then some (.iload 4, 0) else none)))))) else (bif Nat.blt pc 51 then (bif Nat.blt pc 40 then (bif Nat.blt pc 36 then (bif Nat.blt pc 33 then (bif Nat.beq pc 31 then some (.bipush 119, 0) else none) else (bif Nat.beq pc 33 then some (.if_icmp .ne 7, 40) else none)) else (bif Nat.blt pc 37 then (bif Nat.beq pc 36 then some (.iconst 1, 0) else none) else (bif Nat.beq pc 37 then some (.goto 15, 52) else none))) else (bif Nat.blt pc 44 then (bif Nat.blt pc 42 then (bif Nat.beq pc 40 then some (.iload 4, 0) else none) else (bif Nat.beq pc 42 then some (.bipush 109, 0) else none)) else (bif Nat.blt pc 47 then (bif Nat.beq pc 44 then some (.if_icmp .ne 7, 51) else none) else (bif Nat.blt pc 48 then (bif Nat.beq pc 47 then some (.iconst 2, 0) else none) else (bif Nat.beq pc 48 then some (.goto 4, 52) else none))))) else (bif Nat.blt pc 57 then (bif Nat.blt pc 54 then (bif Nat.blt pc 52 then (bif Nat.beq pc 51 then some (.iconst (-1), 0) else none) else (bif Nat.beq pc 52 then some (.istore 5, 0) else none)) else (bif Nat.blt pc 55 then (bif Nat.beq pc 54 then some (.aload_n 0, 0) else none) else (bif Nat.blt pc 56 then (bif Nat.beq pc 55 then some (.iload_n 2, 0) else none) else (bif Nat.beq pc 56 then some (.iconst 2, 0) else none)))) else (bif Nat.blt pc 61 then (bif Nat.blt pc 58 then (bif Nat.beq pc 57 then some (.iadd, 0) else none) else (bif Nat.beq pc 58 then some (.invokevirtual 112, 0) else none)) else (bif Nat.blt pc 63 then (bif Nat.beq pc 61 then some (.bipush 48, 0) else none) else (bif Nat.blt pc 64 then (bif Nat.beq pc 63 then some (.isub, 0) else none) else (bif Nat.beq pc 64 then some (.istore 6, 0) else none))))))) else (bif Nat.blt pc 100 then (bif Nat.blt pc 83 then (bif Nat.blt pc 73 then (bif Nat.blt pc 69 then (bif Nat.blt pc 67 then (bif Nat.beq pc 66 then some (.iload_n 1, 0) else none) else (bif Nat.beq pc 67 then some (.bipush 12, 0) else none)) else (bif Nat.blt pc 72 then (bif Nat.beq pc 69 then some (.if_icmp .eq 10, 79) else none) else (bif Nat.beq pc 72 then some (.iload_n 3, 0) else none))) else (bif Nat.blt pc 79 then (bif Nat.blt pc 76 then (bif Nat.beq pc 73 then some (.invokestatic 116, 0) else none) else (bif Nat.beq pc 76 then some (.ifCond .ne 5, 81) else none)) else (bif Nat.blt pc 80 then (bif Nat.beq pc 79 then some (.iconst 0, 0) else none) else (bif Nat.blt pc 81 then (bif Nat.beq pc 80 then some (.ireturn, 0) else none) else (bif Nat.beq pc 81 then some (.iload 5, 0) else none))))) else (bif Nat.blt pc 89 then (bif Nat.blt pc 87 then (bif Nat.blt pc 84 then (bif Nat.beq pc 83 then some (.iconst (-1), 0) else none) else (bif Nat.beq pc 84 then some (.if_icmp .ne 5, 89) else none)) else (bif Nat.blt pc 88 then (bif Nat.beq pc 87 then some (.iconst 1, 0) else none) else (bif Nat.beq pc 88 then some (.ireturn, 0) else none))) else (bif Nat.blt pc 92 then (bif Nat.blt pc 91 then (bif Nat.beq pc 89 then some (.iload 6, 0) else none) else (bif Nat.beq pc 91 then some (.iconst 1, 0) else none)) else (bif Nat.blt pc 94 then (bif Nat.beq pc 92 then some (.bipush 9, 0) else none) else (bif Nat.blt pc 97 then (bif Nat.beq pc 94 then some (.invokestatic 104, 0) else none) else (bif Nat.beq pc 97 then some (.ifCond .ne 5, 102) else none)))))) else (bif Nat.blt pc 113 then (bif Nat.blt pc 106 then (bif Nat.blt pc 102 then (bif Nat.blt pc 101 then (bif Nat.beq pc 100 then some (.iconst 2, 0) else none) else (bif Nat.beq pc 101 then some (.ireturn, 0) else none)) else (bif Nat.blt pc 103 then (bif Nat.beq pc 102 then some (.aload_n 0, 0) else none) else (bif Nat.beq pc 103 then some (.getfield 16, 0) else none))) else (bif Nat.blt pc 108 then (bif Nat.blt pc 107 then (bif Nat.beq pc 106 then some (.iload_n 1, 0) else none) else (bif Nat.beq pc 107 then some (.iload_n 3, 0) else none)) else (bif Nat.blt pc 109 then (bif Nat.beq pc 108 then some (.iastore, 0) else none) else (bif Nat.blt pc 110 then (bif Nat.beq pc 109 then some (.aload_n 0, 0) else none) else (bif Nat.beq pc 110 then some (.getfield 19, 0) else none))))) else (bif Nat.blt pc 121 then (bif Nat.blt pc 116 then (bif Nat.blt pc 114 then (bif Nat.beq pc 113 then some (.iload_n 1, 0) else none) else (bif Nat.beq pc 114 then some (.iload 5, 0) else none)) else (bif Nat.blt pc 117 then (bif Nat.beq pc 116 then some (.iastore, 0) else none) else (bif Nat.blt pc 118 then (bif Nat.beq pc 117 then some (.aload_n 0, 0) else none) else (bif Nat.beq pc 118 then some (.getfield 22, 0) else none)))) else (bif Nat.blt pc 124 then (bif Nat.blt pc 122 then (bif Nat.beq pc 121 then some (.iload_n 1, 0) else none) else (bif Nat.beq pc 122 then some (.iload 6, 0) else none)) else (bif Nat.blt pc 125 then (bif Nat.beq pc 124 then some (.iastore, 0) else none) else (bif Nat.blt pc 126 then (bif Nat.beq pc 125 then some (.iconst 3, 0) else none) else (bif Nat.beq pc 126 then some (.ireturn, 0) else none)))))))
def MX7_readsPerson : MI := (yX7_readsPerson, cX7_readsPerson, 7, (some .int), 7, zTab 127 tX7_readsPerson)
theorem kX7_readsPerson : zTok MX7_readsPerson := zTok_of 127 tX7_readsPerson rfl (by decide +kernel)
theorem oX7_readsPerson : zokM MX7_readsPerson 2 = true := zokM_mk (z_in (List.mem_of_getElem? (i := 1004) (by decide +kernel)) rfl) z_ini7 (by decide +kernel)
theorem iX7_readsPerson : zokI MX7_readsPerson = true := zokI_mk (z_in (List.mem_of_getElem? (i := 1003) (by decide +kernel)) rfl) (z_in (List.mem_of_getElem? (i := 28) (by decide +kernel)) rfl)
def tX7_readsPeople : Nat → Option (Instr × Nat) := fun pc => bif Nat.blt pc 37 then (bif Nat.blt pc 16 then (bif Nat.blt pc 6 then (bif Nat.blt pc 3 then (bif Nat.blt pc 1 then (bif Nat.beq pc 0 then some (.iconst 0, 0) else none) else (bif Nat.blt pc 2 then (bif Nat.beq pc 1 then some (.istore_n 1, 0) else none) else (bif Nat.beq pc 2 then some (.iconst 0, 0) else none))) else (bif Nat.blt pc 4 then (bif Nat.beq pc 3 then some (.istore_n 2, 0) else none) else (bif Nat.blt pc 5 then (bif Nat.beq pc 4 then some (.aload_n 0, 0) else none) else (bif Nat.beq pc 5 then some (.iconst 0, 0) else none)))) else (bif Nat.blt pc 11 then (bif Nat.blt pc 9 then (bif Nat.beq pc 6 then some (.putfield 119, 0) else none) else (bif Nat.blt pc 10 then (bif Nat.beq pc 9 then some (.iload_n 2, 0) else none) else (bif Nat.beq pc 10 then some (.aload_n 0, 0) else none))) else (bif Nat.blt pc 14 then (bif Nat.beq pc 11 then some (.getfield 7, 0) else none) else (bif Nat.blt pc 15 then (bif Nat.beq pc 14 then some (.iconst 0, 0) else none) else (bif Nat.beq pc 15 then some (.iaload, 0) else none))))) else (bif Nat.blt pc 26 then (bif Nat.blt pc 23 then (bif Nat.blt pc 19 then (bif Nat.beq pc 16 then some (.if_icmp .lt 7, 23) else none) else (bif Nat.blt pc 20 then (bif Nat.beq pc 19 then some (.iload_n 2, 0) else none) else (bif Nat.beq pc 20 then some (.ifCond .le 60, 80) else none))) else (bif Nat.blt pc 24 then (bif Nat.beq pc 23 then some (.aload_n 0, 0) else none) else (bif Nat.blt pc 25 then (bif Nat.beq pc 24 then some (.iload_n 1, 0) else none) else (bif Nat.beq pc 25 then some (.iload_n 2, 0) else none)))) else (bif Nat.blt pc 31 then (bif Nat.blt pc 29 then (bif Nat.beq pc 26 then some (.invokevirtual 123, 0) else none) else (bif Nat.blt pc 30 then (bif Nat.beq pc 29 then some (.istore_n 3, 0) else none) else (bif Nat.beq pc 30 then some (.iload_n 3, 0) else none))) else (bif Nat.blt pc 35 then (bif Nat.blt pc 32 then (bif Nat.beq pc 31 then some (.iconst 3, 0) else none) else (bif Nat.beq pc 32 then some (.if_icmp .ge 7, 39) else none)) else (bif Nat.blt pc 36 then (bif Nat.beq pc 35 then some (.iload_n 2, 0) else none) else (bif Nat.beq pc 36 then some (.iload_n 3, 0) else none)))))) else (bif Nat.blt pc 60 then (bif Nat.blt pc 47 then (bif Nat.blt pc 42 then (bif Nat.blt pc 38 then (bif Nat.beq pc 37 then some (.iadd, 0) else none) else (bif Nat.blt pc 39 then (bif Nat.beq pc 38 then some (.ireturn, 0) else none) else (bif Nat.beq pc 39 then some (.iinc 1 1, 0) else none))) else (bif Nat.blt pc 45 then (bif Nat.beq pc 42 then some (.iinc 2 3, 0) else none) else (bif Nat.blt pc 46 then (bif Nat.beq pc 45 then some (.iload_n 2, 0) else none) else (bif Nat.beq pc 46 then some (.aload_n 0, 0) else none)))) else (bif Nat.blt pc 52 then (bif Nat.blt pc 50 then (bif Nat.beq pc 47 then some (.getfield 7, 0) else none) else (bif Nat.blt pc 51 then (bif Nat.beq pc 50 then some (.iconst 0, 0) else none) else (bif Nat.beq pc 51 then some (.iaload, 0) else none))) else (bif Nat.blt pc 56 then (bif Nat.blt pc 55 then (bif Nat.beq pc 52 then some (.if_icmp .ne 10, 62) else none) else (bif Nat.beq pc 55 then some (.aload_n 0, 0) else none)) else (bif Nat.blt pc 57 then (bif Nat.beq pc 56 then some (.iload_n 1, 0) else none) else (bif Nat.beq pc 57 then some (.putfield 119, 0) else none))))) else (bif Nat.blt pc 69 then (bif Nat.blt pc 63 then (bif Nat.blt pc 61 then (bif Nat.beq pc 60 then some (.iconst (-1), 0) else none) else (bif Nat.blt pc 62 then (bif Nat.beq pc 61 then some (.ireturn, 0) else none) else (bif Nat.beq pc 62 then some (.aload_n 0, 0) else none))) else (bif Nat.blt pc 64 then (bif Nat.beq pc 63 then some (.iload_n 2, 0) else none) else (bif Nat.blt pc 67 then (bif Nat.beq pc 64 then some (.invokevirtual 112, 0) else none) else (bif Nat.beq pc 67 then some (.bipush 59, 0) else none)))) else (bif Nat.blt pc 74 then (bif Nat.blt pc 72 then (bif Nat.beq pc 69 then some (.if_icmp .eq 5, 74) else none) else (bif Nat.blt pc 73 then (bif Nat.beq pc 72 then some (.iload_n 2, 0) else none) else (bif Nat.beq pc 73 then some (.ireturn, 0) else none))) else (bif Nat.blt pc 80 then (bif Nat.blt pc 77 then (bif Nat.beq pc 74 then some (.iinc 2 1, 0) else none) else (bif Nat.beq pc 77 then some (.goto (-68), 9) else none)) else (bif Nat.blt pc 81 then (bif Nat.beq pc 80 then some (.iconst (-1), 0) else none) else (bif Nat.beq pc 81 then some (.ireturn, 0) else none))))))
def MX7_readsPeople : MI := (yX7_readsPeople, cX7_readsPeople, 4, (some .int), 7, zTab 82 tX7_readsPeople)
theorem kX7_readsPeople : zTok MX7_readsPeople := zTok_of 82 tX7_readsPeople rfl (by decide +kernel)
theorem oX7_readsPeople : zokM MX7_readsPeople 0 = true := zokM_mk (z_in (List.mem_of_getElem? (i := 1000) (by decide +kernel)) rfl) z_ini7 (by decide +kernel)
theorem iX7_readsPeople : zokI MX7_readsPeople = true := zokI_mk (z_in (List.mem_of_getElem? (i := 999) (by decide +kernel)) rfl) (z_in (List.mem_of_getElem? (i := 27) (by decide +kernel)) rfl)
def tX7_openBy : Nat → Option (Instr × Nat) := fun pc => bif Nat.blt pc 21 then (bif Nat.blt pc 10 then (bif Nat.blt pc 3 then (bif Nat.blt pc 1 then (bif Nat.beq pc 0 then some (.iload_n 0, 0) else none) else (bif Nat.beq pc 1 then some (.bipush 110, 0) else none)) else (bif Nat.blt pc 6 then (bif Nat.beq pc 3 then some (.if_icmp .ne 7, 10) else none) else (bif Nat.blt pc 7 then (bif Nat.beq pc 6 then some (.iconst 0, 0) else none) else (bif Nat.beq pc 7 then some (.goto 34, 41) else none)))) else (bif Nat.blt pc 16 then (bif Nat.blt pc 11 then (bif Nat.beq pc 10 then some (.iload_n 0, 0) else none) else (bif Nat.blt pc 13 then (bif Nat.beq pc 11 then some (.bipush 102, 0) else none) else (bif Nat.beq pc 13 then some (.if_icmp .ne 7, 20) else none))) else (bif Nat.blt pc 17 then (bif Nat.beq pc 16 then some (.iconst 1, 0) else none) else (bif Nat.blt pc 20 then (bif Nat.beq pc 17 then some (.goto 24, 41) else none) else (bif Nat.beq pc 20 then some (.iload_n 0, 0) else none))))) else (bif Nat.blt pc 31 then (bif Nat.blt pc 26 then (bif Nat.blt pc 23 then (bif Nat.beq pc 21 then some (.bipush 98, 0) else none) else (bif Nat.beq pc 23 then some (.if_icmp .ne 7, 30) else none)) else (bif Nat.blt pc 27 then (bif Nat.beq pc 26 then some (.iconst 2, 0) else none) else (bif Nat.blt pc 30 then (bif Nat.beq pc 27 then some (.goto 14, 41) else none) else (bif Nat.beq pc 30 then some (.iload_n 0, 0) else none)))) else (bif Nat.blt pc 37 then (bif Nat.blt pc 33 then (bif Nat.beq pc 31 then some (.bipush 116, 0) else none) else (bif Nat.blt pc 36 then (bif Nat.beq pc 33 then some (.if_icmp .ne 7, 40) else none) else (bif Nat.beq pc 36 then some (.iconst 3, 0) else none))) else (bif Nat.blt pc 40 then (bif Nat.beq pc 37 then some (.goto 4, 41) else none) else (bif Nat.blt pc 41 then (bif Nat.beq pc 40 then some (.iconst (-1), 0) else none) else (bif Nat.beq pc 41 then some (.ireturn, 0) else none)))))
def MX7_openBy : MI := (yX7_openBy, cX7_openBy, 1, (some .int), 7, zTab 42 tX7_openBy)
theorem kX7_openBy : zTok MX7_openBy := zTok_of 42 tX7_openBy rfl (by decide +kernel)
theorem oX7_openBy : zokM MX7_openBy 1 = true := zokM_mk (z_in (List.mem_of_getElem? (i := 1018) (by decide +kernel)) rfl) z_ini7 (by decide +kernel)
theorem iX7_openBy : zokS MX7_openBy = true := zokS_mk (z_in (List.mem_of_getElem? (i := 1017) (by decide +kernel)) rfl)
def tX7_readsWindows : Nat → Option (Instr × Nat) := fun pc => bif Nat.blt pc 54 then (bif Nat.blt pc 27 then (bif Nat.blt pc 13 then (bif Nat.blt pc 6 then (bif Nat.blt pc 2 then (bif Nat.blt pc 1 then (bif Nat.beq pc 0 then some (.aload_n 0, 0) else none) else (bif Nat.beq pc 1 then some (.iconst 0, 0) else none)) else (bif Nat.blt pc 5 then (bif Nat.beq pc 2 then some (.putfield 127, 0) else none) else (bif Nat.beq pc 5 then some (.iconst 0, 0) else none))) else (bif Nat.blt pc 8 then (bif Nat.blt pc 7 then (bif Nat.beq pc 6 then some (.istore_n 1, 0) else none) else (bif Nat.beq pc 7 then some (.iload_n 1, 0) else none)) else (bif Nat.blt pc 10 then (bif Nat.beq pc 8 then some (.bipush 24, 0) else none) else (bif Nat.beq pc 10 then some (.if_icmp .ge 16, 26) else none)))) else (bif Nat.blt pc 19 then (bif Nat.blt pc 17 then (bif Nat.blt pc 14 then (bif Nat.beq pc 13 then some (.aload_n 0, 0) else none) else (bif Nat.beq pc 14 then some (.getfield 25, 0) else none)) else (bif Nat.blt pc 18 then (bif Nat.beq pc 17 then some (.iload_n 1, 0) else none) else (bif Nat.beq pc 18 then some (.iconst 1, 0) else none))) else (bif Nat.blt pc 23 then (bif Nat.blt pc 20 then (bif Nat.beq pc 19 then some (.iastore, 0) else none) else (bif Nat.beq pc 20 then some (.iinc 1 1, 0) else none)) else (bif Nat.blt pc 26 then (bif Nat.beq pc 23 then some (.goto (-16), 7) else none) else (bif Nat.beq pc 26 then some (.iconst 0, 0) else none))))) else (bif Nat.blt pc 39 then (bif Nat.blt pc 33 then (bif Nat.blt pc 29 then (bif Nat.blt pc 28 then (bif Nat.beq pc 27 then some (.istore_n 1, 0) else none) else (bif Nat.beq pc 28 then some (.iload_n 1, 0) else none)) else (bif Nat.blt pc 30 then (bif Nat.beq pc 29 then some (.aload_n 0, 0) else none) else (bif Nat.beq pc 30 then some (.getfield 7, 0) else none))) else (bif Nat.blt pc 35 then (bif Nat.blt pc 34 then (bif Nat.beq pc 33 then some (.iconst 1, 0) else none) else (bif Nat.beq pc 34 then some (.iaload, 0) else none)) else (bif Nat.blt pc 38 then (bif Nat.beq pc 35 then some (.if_icmp .ge 27, 62) else none) else (bif Nat.beq pc 38 then some (.aload_n 0, 0) else none)))) else (bif Nat.blt pc 46 then (bif Nat.blt pc 44 then (bif Nat.blt pc 42 then (bif Nat.beq pc 39 then some (.getfield 13, 0) else none) else (bif Nat.beq pc 42 then some (.bipush 47, 0) else none)) else (bif Nat.blt pc 45 then (bif Nat.beq pc 44 then some (.iload_n 1, 0) else none) else (bif Nat.beq pc 45 then some (.iadd, 0) else none))) else (bif Nat.blt pc 50 then (bif Nat.blt pc 47 then (bif Nat.beq pc 46 then some (.iaload, 0) else none) else (bif Nat.beq pc 47 then some (.invokestatic 130, 0) else none)) else (bif Nat.blt pc 51 then (bif Nat.beq pc 50 then some (.iconst (-1), 0) else none) else (bif Nat.beq pc 51 then some (.if_icmp .ne 5, 56) else none)))))) else (bif Nat.blt pc 80 then (bif Nat.blt pc 66 then (bif Nat.blt pc 62 then (bif Nat.blt pc 56 then (bif Nat.blt pc 55 then (bif Nat.beq pc 54 then some (.iload_n 1, 0) else none) else (bif Nat.beq pc 55 then some (.ireturn, 0) else none)) else (bif Nat.blt pc 59 then (bif Nat.beq pc 56 then some (.iinc 1 1, 0) else none) else (bif Nat.beq pc 59 then some (.goto (-31), 28) else none))) else (bif Nat.blt pc 64 then (bif Nat.blt pc 63 then (bif Nat.beq pc 62 then some (.iconst 0, 0) else none) else (bif Nat.beq pc 63 then some (.istore_n 1, 0) else none)) else (bif Nat.blt pc 65 then (bif Nat.beq pc 64 then some (.iload_n 1, 0) else none) else (bif Nat.beq pc 65 then some (.aload_n 0, 0) else none)))) else (bif Nat.blt pc 74 then (bif Nat.blt pc 70 then (bif Nat.blt pc 69 then (bif Nat.beq pc 66 then some (.getfield 7, 0) else none) else (bif Nat.beq pc 69 then some (.iconst 1, 0) else none)) else (bif Nat.blt pc 71 then (bif Nat.beq pc 70 then some (.iaload, 0) else none) else (bif Nat.beq pc 71 then some (.if_icmp .ge 27, 98) else none))) else (bif Nat.blt pc 78 then (bif Nat.blt pc 75 then (bif Nat.beq pc 74 then some (.aload_n 0, 0) else none) else (bif Nat.beq pc 75 then some (.getfield 25, 0) else none)) else (bif Nat.blt pc 79 then (bif Nat.beq pc 78 then some (.iload_n 1, 0) else none) else (bif Nat.beq pc 79 then some (.aload_n 0, 0) else none))))) else (bif Nat.blt pc 95 then (bif Nat.blt pc 87 then (bif Nat.blt pc 85 then (bif Nat.blt pc 83 then (bif Nat.beq pc 80 then some (.getfield 13, 0) else none) else (bif Nat.beq pc 83 then some (.bipush 47, 0) else none)) else (bif Nat.blt pc 86 then (bif Nat.beq pc 85 then some (.iload_n 1, 0) else none) else (bif Nat.beq pc 86 then some (.iadd, 0) else none))) else (bif Nat.blt pc 91 then (bif Nat.blt pc 88 then (bif Nat.beq pc 87 then some (.iaload, 0) else none) else (bif Nat.beq pc 88 then some (.invokestatic 130, 0) else none)) else (bif Nat.blt pc 92 then (bif Nat.beq pc 91 then some (.iastore, 0) else none) else (bif Nat.beq pc 92 then some (.iinc 1 1, 0) else none)))) else (bif Nat.blt pc 103 then (bif Nat.blt pc 99 then (bif Nat.blt pc 98 then (bif Nat.beq pc 95 then some (.goto (-31), 64) else none) else (bif Nat.beq pc 98 then some (.aload_n 0, 0) else none)) else (bif Nat.blt pc 100 then (bif Nat.beq pc 99 then some (.aload_n 0, 0) else none) else (bif Nat.beq pc 100 then some (.getfield 7, 0) else none))) else (bif Nat.blt pc 105 then (bif Nat.blt pc 104 then (bif Nat.beq pc 103 then some (.iconst 1, 0) else none) else (bif Nat.beq pc 104 then some (.iaload, 0) else none)) else (bif Nat.blt pc 108 then (bif Nat.beq pc 105 then some (.putfield 127, 0) else none) else (bif Nat.blt pc 109 then (bif Nat.beq pc 108 then some (.iconst (-1), 0) else none) else (bif Nat.beq pc 109 then some (.ireturn, 0) else none)))))))
def MX7_readsWindows : MI := (yX7_readsWindows, cX7_readsWindows, 2, (some .int), 7, zTab 110 tX7_readsWindows)
theorem kX7_readsWindows : zTok MX7_readsWindows := zTok_of 110 tX7_readsWindows rfl (by decide +kernel)
theorem oX7_readsWindows : zokM MX7_readsWindows 0 = true := zokM_mk (z_in (List.mem_of_getElem? (i := 1015) (by decide +kernel)) rfl) z_ini7 (by decide +kernel)
theorem iX7_readsWindows : zokI MX7_readsWindows = true := zokI_mk (z_in (List.mem_of_getElem? (i := 1014) (by decide +kernel)) rfl) (z_in (List.mem_of_getElem? (i := 30) (by decide +kernel)) rfl)
def tX7_faultOf : Nat → Option (Instr × Nat) := fun pc => bif Nat.blt pc 10 then (bif Nat.blt pc 5 then (bif Nat.blt pc 1 then (bif Nat.beq pc 0 then some (.aload_n 0, 0) else none) else (bif Nat.blt pc 4 then (bif Nat.beq pc 1 then some (.invokevirtual 133, 0) else none) else (bif Nat.beq pc 4 then some (.istore_n 2, 0) else none))) else (bif Nat.blt pc 6 then (bif Nat.beq pc 5 then some (.aload_n 0, 0) else none) else (bif Nat.blt pc 9 then (bif Nat.beq pc 6 then some (.invokevirtual 137, 0) else none) else (bif Nat.beq pc 9 then some (.istore_n 3, 0) else none)))) else (bif Nat.blt pc 15 then (bif Nat.blt pc 11 then (bif Nat.beq pc 10 then some (.iload_n 1, 0) else none) else (bif Nat.blt pc 14 then (bif Nat.beq pc 11 then some (.ifCond .ne 7, 18) else none) else (bif Nat.beq pc 14 then some (.iload_n 2, 0) else none))) else (bif Nat.blt pc 18 then (bif Nat.beq pc 15 then some (.goto 4, 19) else none) else (bif Nat.blt pc 19 then (bif Nat.beq pc 18 then some (.iload_n 3, 0) else none) else (bif Nat.beq pc 19 then some (.ireturn, 0) else none))))
def MX7_faultOf : MI := (yX7_faultOf, cX7_faultOf, 4, (some .int), 7, zTab 20 tX7_faultOf)
theorem kX7_faultOf : zTok MX7_faultOf := zTok_of 20 tX7_faultOf rfl (by decide +kernel)
theorem oX7_faultOf : zokM MX7_faultOf 1 = true := zokM_mk (z_in (List.mem_of_getElem? (i := 996) (by decide +kernel)) rfl) z_ini7 (by decide +kernel)
theorem iX7_faultOf : zokI MX7_faultOf = true := zokI_mk (z_in (List.mem_of_getElem? (i := 995) (by decide +kernel)) rfl) (z_in (List.mem_of_getElem? (i := 26) (by decide +kernel)) rfl)
def tX7_reads : Nat → Option (Instr × Nat) := fun pc => bif Nat.blt pc 2 then (bif Nat.blt pc 1 then (bif Nat.beq pc 0 then some (.aload_n 0, 0) else none) else (bif Nat.beq pc 1 then some (.iconst 0, 0) else none)) else (bif Nat.blt pc 5 then (bif Nat.beq pc 2 then some (.invokevirtual 140, 0) else none) else (bif Nat.blt pc 6 then (bif Nat.beq pc 5 then some (.istore_n 1, 0) else none) else (bif Nat.beq pc 6 then some (.return_, 0) else none)))
def MX7_reads : MI := (yX7_reads, cX7_reads, 2, none, 7, zTab 7 tX7_reads)
theorem kX7_reads : zTok MX7_reads := zTok_of 7 tX7_reads rfl (by decide +kernel)
theorem oX7_reads : zokM MX7_reads 0 = true := zokM_mk (z_in (List.mem_of_getElem? (i := 1030) (by decide +kernel)) rfl) z_ini7 (by decide +kernel)
theorem iX7_reads : zokI MX7_reads = true := zokI_mk (z_in (List.mem_of_getElem? (i := 1029) (by decide +kernel)) rfl) (z_in (List.mem_of_getElem? (i := 32) (by decide +kernel)) rfl)
def tX7_fault : Nat → Option (Instr × Nat) := fun pc => bif Nat.blt pc 8 then (bif Nat.blt pc 4 then (bif Nat.blt pc 1 then (bif Nat.beq pc 0 then some (.iload_n 1, 0) else none) else (bif Nat.beq pc 1 then some (.invokestatic 108, 0) else none)) else (bif Nat.blt pc 7 then (bif Nat.beq pc 4 then some (.ifCond .eq 11, 15) else none) else (bif Nat.beq pc 7 then some (.aload_n 0, 0) else none))) else (bif Nat.blt pc 12 then (bif Nat.blt pc 9 then (bif Nat.beq pc 8 then some (.iload_n 1, 0) else none) else (bif Nat.beq pc 9 then some (.invokevirtual 140, 0) else none)) else (bif Nat.blt pc 15 then (bif Nat.beq pc 12 then some (.goto 5, 17) else none) else (bif Nat.blt pc 17 then (bif Nat.beq pc 15 then some (.bipush (-2), 0) else none) else (bif Nat.beq pc 17 then some (.ireturn, 0) else none))))
def MX7_fault : MI := (yX7_fault, cX7_fault, 2, (some .int), 7, zTab 18 tX7_fault)
theorem kX7_fault : zTok MX7_fault := zTok_of 18 tX7_fault rfl (by decide +kernel)
theorem oX7_fault : zokM MX7_fault 1 = true := zokM_mk (z_in (List.mem_of_getElem? (i := 992) (by decide +kernel)) rfl) z_ini7 (by decide +kernel)
theorem iX7_fault : zokI MX7_fault = true := zokI_mk (z_in (List.mem_of_getElem? (i := 990) (by decide +kernel)) rfl) (z_in (List.mem_of_getElem? (i := 991) (by decide +kernel)) rfl)
def tX7_isPerson : Nat → Option (Instr × Nat) := fun pc => bif Nat.blt pc 7 then (bif Nat.blt pc 4 then (bif Nat.blt pc 1 then (bif Nat.beq pc 0 then some (.aload_n 0, 0) else none) else (bif Nat.beq pc 1 then some (.invokevirtual 143, 0) else none)) else (bif Nat.blt pc 5 then (bif Nat.beq pc 4 then some (.iload_n 1, 0) else none) else (bif Nat.blt pc 6 then (bif Nat.beq pc 5 then some (.iconst 0, 0) else none) else (bif Nat.beq pc 6 then some (.aload_n 0, 0) else none)))) else (bif Nat.blt pc 11 then (bif Nat.blt pc 10 then (bif Nat.beq pc 7 then some (.getfield 119, 0) else none) else (bif Nat.beq pc 10 then some (.iconst 1, 0) else none)) else (bif Nat.blt pc 12 then (bif Nat.beq pc 11 then some (.isub, 0) else none) else (bif Nat.blt pc 15 then (bif Nat.beq pc 12 then some (.invokestatic 104, 0) else none) else (bif Nat.beq pc 15 then some (.ireturn, 0) else none))))
def MX7_isPerson : MI := (yX7_isPerson, cX7_isPerson, 2, (some .boolean), 7, zTab 16 tX7_isPerson)
theorem kX7_isPerson : zTok MX7_isPerson := zTok_of 16 tX7_isPerson rfl (by decide +kernel)
theorem oX7_isPerson : zokM MX7_isPerson 1 = true := zokM_mk (z_in (List.mem_of_getElem? (i := 1026) (by decide +kernel)) rfl) z_ini7 (by decide +kernel)
theorem iX7_isPerson : zokI MX7_isPerson = true := zokI_mk (z_in (List.mem_of_getElem? (i := 1025) (by decide +kernel)) rfl) (z_in (List.mem_of_getElem? (i := 31) (by decide +kernel)) rfl)
def tX7_personOf : Nat → Option (Instr × Nat) := fun pc => bif Nat.blt pc 18 then (bif Nat.blt pc 9 then (bif Nat.blt pc 4 then (bif Nat.blt pc 1 then (bif Nat.beq pc 0 then some (.iload_n 2, 0) else none) else (bif Nat.beq pc 1 then some (.ifCond .ne 12, 13) else none)) else (bif Nat.blt pc 5 then (bif Nat.beq pc 4 then some (.aload_n 0, 0) else none) else (bif Nat.blt pc 8 then (bif Nat.beq pc 5 then some (.getfield 16, 0) else none) else (bif Nat.beq pc 8 then some (.iload_n 1, 0) else none)))) else (bif Nat.blt pc 13 then (bif Nat.blt pc 10 then (bif Nat.beq pc 9 then some (.iaload, 0) else none) else (bif Nat.beq pc 10 then some (.goto 23, 33) else none)) else (bif Nat.blt pc 14 then (bif Nat.beq pc 13 then some (.iload_n 2, 0) else none) else (bif Nat.blt pc 15 then (bif Nat.beq pc 14 then some (.iconst 1, 0) else none) else (bif Nat.beq pc 15 then some (.if_icmp .ne 12, 27) else none))))) else (bif Nat.blt pc 27 then (bif Nat.blt pc 22 then (bif Nat.blt pc 19 then (bif Nat.beq pc 18 then some (.aload_n 0, 0) else none) else (bif Nat.beq pc 19 then some (.getfield 19, 0) else none)) else (bif Nat.blt pc 23 then (bif Nat.beq pc 22 then some (.iload_n 1, 0) else none) else (bif Nat.blt pc 24 then (bif Nat.beq pc 23 then some (.iaload, 0) else none) else (bif Nat.beq pc 24 then some (.goto 9, 33) else none)))) else (bif Nat.blt pc 31 then (bif Nat.blt pc 28 then (bif Nat.beq pc 27 then some (.aload_n 0, 0) else none) else (bif Nat.beq pc 28 then some (.getfield 22, 0) else none)) else (bif Nat.blt pc 32 then (bif Nat.beq pc 31 then some (.iload_n 1, 0) else none) else (bif Nat.blt pc 33 then (bif Nat.beq pc 32 then some (.iaload, 0) else none) else (bif Nat.beq pc 33 then some (.ireturn, 0) else none)))))
def MX7_personOf : MI := (yX7_personOf, cX7_personOf, 3, (some .int), 7, zTab 34 tX7_personOf)
theorem kX7_personOf : zTok MX7_personOf := zTok_of 34 tX7_personOf rfl (by decide +kernel)
theorem oX7_personOf : zokM MX7_personOf 2 = true := zokM_mk (z_in (List.mem_of_getElem? (i := 1037) (by decide +kernel)) rfl) z_ini7 (by decide +kernel)
theorem iX7_personOf : zokI MX7_personOf = true := zokI_mk (z_in (List.mem_of_getElem? (i := 1036) (by decide +kernel)) rfl) (z_in (List.mem_of_getElem? (i := 33) (by decide +kernel)) rfl)
def tX7_person : Nat → Option (Instr × Nat) := fun pc => bif Nat.blt pc 15 then (bif Nat.blt pc 5 then (bif Nat.blt pc 1 then (bif Nat.beq pc 0 then some (.aload_n 0, 0) else none) else (bif Nat.blt pc 2 then (bif Nat.beq pc 1 then some (.iload_n 1, 0) else none) else (bif Nat.beq pc 2 then some (.invokevirtual 146, 0) else none))) else (bif Nat.blt pc 9 then (bif Nat.blt pc 8 then (bif Nat.beq pc 5 then some (.ifCond .eq 19, 24) else none) else (bif Nat.beq pc 8 then some (.iload_n 2, 0) else none)) else (bif Nat.blt pc 12 then (bif Nat.beq pc 9 then some (.invokestatic 149, 0) else none) else (bif Nat.beq pc 12 then some (.ifCond .eq 12, 24) else none)))) else (bif Nat.blt pc 18 then (bif Nat.blt pc 16 then (bif Nat.beq pc 15 then some (.aload_n 0, 0) else none) else (bif Nat.blt pc 17 then (bif Nat.beq pc 16 then some (.iload_n 1, 0) else none) else (bif Nat.beq pc 17 then some (.iload_n 2, 0) else none))) else (bif Nat.blt pc 24 then (bif Nat.blt pc 21 then (bif Nat.beq pc 18 then some (.invokevirtual 152, 0) else none) else (bif Nat.beq pc 21 then some (.goto 5, 26) else none)) else (bif Nat.blt pc 26 then (bif Nat.beq pc 24 then some (.bipush (-2), 0) else none) else (bif Nat.beq pc 26 then some (.ireturn, 0) else none))))
def MX7_person : MI := (yX7_person, cX7_person, 3, (some .int), 7, zTab 27 tX7_person)
theorem kX7_person : zTok MX7_person := zTok_of 27 tX7_person rfl (by decide +kernel)
theorem oX7_person : zokM MX7_person 2 = true := zokM_mk (z_in (List.mem_of_getElem? (i := 1022) (by decide +kernel)) rfl) z_ini7 (by decide +kernel)
theorem iX7_person : zokI MX7_person = true := zokI_mk (z_in (List.mem_of_getElem? (i := 1020) (by decide +kernel)) rfl) (z_in (List.mem_of_getElem? (i := 1021) (by decide +kernel)) rfl)
def tX7_windowOf : Nat → Option (Instr × Nat) := fun pc => bif Nat.blt pc 5 then (bif Nat.blt pc 1 then (bif Nat.beq pc 0 then some (.aload_n 0, 0) else none) else (bif Nat.blt pc 4 then (bif Nat.beq pc 1 then some (.invokevirtual 143, 0) else none) else (bif Nat.beq pc 4 then some (.aload_n 0, 0) else none))) else (bif Nat.blt pc 9 then (bif Nat.blt pc 8 then (bif Nat.beq pc 5 then some (.getfield 25, 0) else none) else (bif Nat.beq pc 8 then some (.iload_n 1, 0) else none)) else (bif Nat.blt pc 10 then (bif Nat.beq pc 9 then some (.iaload, 0) else none) else (bif Nat.beq pc 10 then some (.ireturn, 0) else none)))
def MX7_windowOf : MI := (yX7_windowOf, cX7_windowOf, 2, (some .int), 7, zTab 11 tX7_windowOf)
theorem kX7_windowOf : zTok MX7_windowOf := zTok_of 11 tX7_windowOf rfl (by decide +kernel)
theorem oX7_windowOf : zokM MX7_windowOf 1 = true := zokM_mk (z_in (List.mem_of_getElem? (i := 1045) (by decide +kernel)) rfl) z_ini7 (by decide +kernel)
theorem iX7_windowOf : zokI MX7_windowOf = true := zokI_mk (z_in (List.mem_of_getElem? (i := 1044) (by decide +kernel)) rfl) (z_in (List.mem_of_getElem? (i := 34) (by decide +kernel)) rfl)
def tX7_window : Nat → Option (Instr × Nat) := fun pc => bif Nat.blt pc 8 then (bif Nat.blt pc 4 then (bif Nat.blt pc 1 then (bif Nat.beq pc 0 then some (.iload_n 1, 0) else none) else (bif Nat.beq pc 1 then some (.invokestatic 116, 0) else none)) else (bif Nat.blt pc 7 then (bif Nat.beq pc 4 then some (.ifCond .eq 11, 15) else none) else (bif Nat.beq pc 7 then some (.aload_n 0, 0) else none))) else (bif Nat.blt pc 12 then (bif Nat.blt pc 9 then (bif Nat.beq pc 8 then some (.iload_n 1, 0) else none) else (bif Nat.beq pc 9 then some (.invokevirtual 155, 0) else none)) else (bif Nat.blt pc 15 then (bif Nat.beq pc 12 then some (.goto 5, 17) else none) else (bif Nat.blt pc 17 then (bif Nat.beq pc 15 then some (.bipush (-2), 0) else none) else (bif Nat.beq pc 17 then some (.ireturn, 0) else none))))
def MX7_window : MI := (yX7_window, cX7_window, 2, (some .int), 7, zTab 18 tX7_window)
theorem kX7_window : zTok MX7_window := zTok_of 18 tX7_window rfl (by decide +kernel)
theorem oX7_window : zokM MX7_window 1 = true := zokM_mk (z_in (List.mem_of_getElem? (i := 1041) (by decide +kernel)) rfl) z_ini7 (by decide +kernel)
theorem iX7_window : zokI MX7_window = true := zokI_mk (z_in (List.mem_of_getElem? (i := 1039) (by decide +kernel)) rfl) (z_in (List.mem_of_getElem? (i := 1040) (by decide +kernel)) rfl)
def tX7_event : Nat → Option (Instr × Nat) := fun pc => bif Nat.blt pc 45 then (bif Nat.blt pc 24 then (bif Nat.blt pc 11 then (bif Nat.blt pc 4 then (bif Nat.blt pc 1 then (bif Nat.beq pc 0 then some (.iload_n 1, 0) else none) else (bif Nat.beq pc 1 then some (.invokestatic 149, 0) else none)) else (bif Nat.blt pc 7 then (bif Nat.beq pc 4 then some (.ifCond .eq 17, 21) else none) else (bif Nat.blt pc 8 then (bif Nat.beq pc 7 then some (.iload_n 2, 0) else none) else (bif Nat.beq pc 8 then some (.invokestatic 116, 0) else none)))) else (bif Nat.blt pc 18 then (bif Nat.blt pc 14 then (bif Nat.beq pc 11 then some (.ifCond .eq 10, 21) else none) else (bif Nat.blt pc 15 then (bif Nat.beq pc 14 then some (.iload_n 3, 0) else none) else (bif Nat.beq pc 15 then some (.invokestatic 158, 0) else none))) else (bif Nat.blt pc 21 then (bif Nat.beq pc 18 then some (.ifCond .ne 6, 24) else none) else (bif Nat.blt pc 23 then (bif Nat.beq pc 21 then some (.bipush (-2), 0) else none) else (bif Nat.beq pc 23 then some (.ireturn, 0) else none))))) else (bif Nat.blt pc 35 then (bif Nat.blt pc 28 then (bif Nat.blt pc 25 then (bif Nat.beq pc 24 then some (.aload_n 0, 0) else none) else (bif Nat.beq pc 25 then some (.getfield 161, 0) else none)) else (bif Nat.blt pc 30 then (bif Nat.beq pc 28 then some (.bipush 8, 0) else none) else (bif Nat.blt pc 33 then (bif Nat.beq pc 30 then some (.if_icmp .ne 6, 36) else none) else (bif Nat.beq pc 33 then some (.bipush (-4), 0) else none)))) else (bif Nat.blt pc 40 then (bif Nat.blt pc 36 then (bif Nat.beq pc 35 then some (.ireturn, 0) else none) else (bif Nat.blt pc 37 then (bif Nat.beq pc 36 then some (.aload_n 0, 0) else none) else (bif Nat.beq pc 37 then some (.getfield 28, 0) else none))) else (bif Nat.blt pc 41 then (bif Nat.beq pc 40 then some (.aload_n 0, 0) else none) else (bif Nat.blt pc 44 then (bif Nat.beq pc 41 then some (.getfield 161, 0) else none) else (bif Nat.beq pc 44 then some (.iload_n 1, 0) else none)))))) else (bif Nat.blt pc 64 then (bif Nat.blt pc 54 then (bif Nat.blt pc 47 then (bif Nat.blt pc 46 then (bif Nat.beq pc 45 then some (.iastore, 0) else none) else (bif Nat.beq pc 46 then some (.aload_n 0, 0) else none)) else (bif Nat.blt pc 50 then (bif Nat.beq pc 47 then some (.getfield 31, 0) else none) else (bif Nat.blt pc 51 then (bif Nat.beq pc 50 then some (.aload_n 0, 0) else none) else (bif Nat.beq pc 51 then some (.getfield 161, 0) else none)))) else (bif Nat.blt pc 57 then (bif Nat.blt pc 55 then (bif Nat.beq pc 54 then some (.iload_n 2, 0) else none) else (bif Nat.blt pc 56 then (bif Nat.beq pc 55 then some (.iastore, 0) else none) else (bif Nat.beq pc 56 then some (.aload_n 0, 0) else none))) else (bif Nat.blt pc 60 then (bif Nat.beq pc 57 then some (.getfield 34, 0) else none) else (bif Nat.blt pc 61 then (bif Nat.beq pc 60 then some (.aload_n 0, 0) else none) else (bif Nat.beq pc 61 then some (.getfield 161, 0) else none))))) else (bif Nat.blt pc 71 then (bif Nat.blt pc 66 then (bif Nat.blt pc 65 then (bif Nat.beq pc 64 then some (.iload_n 3, 0) else none) else (bif Nat.beq pc 65 then some (.iastore, 0) else none)) else (bif Nat.blt pc 67 then (bif Nat.beq pc 66 then some (.aload_n 0, 0) else none) else (bif Nat.blt pc 68 then (bif Nat.beq pc 67 then some (.dup, 0) else none) else (bif Nat.beq pc 68 then some (.getfield 161, 0) else none)))) else (bif Nat.blt pc 76 then (bif Nat.blt pc 72 then (bif Nat.beq pc 71 then some (.iconst 1, 0) else none) else (bif Nat.blt pc 73 then (bif Nat.beq pc 72 then some (.iadd, 0) else none) else (bif Nat.beq pc 73 then some (.putfield 161, 0) else none))) else (bif Nat.blt pc 77 then (bif Nat.beq pc 76 then some (.aload_n 0, 0) else none) else (bif Nat.blt pc 80 then (bif Nat.beq pc 77 then some (.getfield 161, 0) else none) else (bif Nat.beq pc 80 then some (.ireturn, 0) else none))))))
def MX7_event : MI := (yX7_event, cX7_event, 4, (some .int), 7, zTab 81 tX7_event)
theorem kX7_event : zTok MX7_event := zTok_of 81 tX7_event rfl (by decide +kernel)
theorem oX7_event : zokM MX7_event 3 = true := zokM_mk (z_in (List.mem_of_getElem? (i := 1049) (by decide +kernel)) rfl) z_ini7 (by decide +kernel)
theorem iX7_event : zokI MX7_event = true := zokI_mk (z_in (List.mem_of_getElem? (i := 1047) (by decide +kernel)) rfl) (z_in (List.mem_of_getElem? (i := 1048) (by decide +kernel)) rfl)
def tX7_back : Nat → Option (Instr × Nat) := fun pc => bif Nat.blt pc 12 then (bif Nat.blt pc 7 then (bif Nat.blt pc 1 then (bif Nat.beq pc 0 then some (.aload_n 0, 0) else none) else (bif Nat.blt pc 4 then (bif Nat.beq pc 1 then some (.getfield 161, 0) else none) else (bif Nat.beq pc 4 then some (.ifCond .ne 6, 10) else none))) else (bif Nat.blt pc 10 then (bif Nat.blt pc 9 then (bif Nat.beq pc 7 then some (.bipush (-3), 0) else none) else (bif Nat.beq pc 9 then some (.ireturn, 0) else none)) else (bif Nat.blt pc 11 then (bif Nat.beq pc 10 then some (.aload_n 0, 0) else none) else (bif Nat.beq pc 11 then some (.dup, 0) else none)))) else (bif Nat.blt pc 17 then (bif Nat.blt pc 15 then (bif Nat.beq pc 12 then some (.getfield 161, 0) else none) else (bif Nat.blt pc 16 then (bif Nat.beq pc 15 then some (.iconst 1, 0) else none) else (bif Nat.beq pc 16 then some (.isub, 0) else none))) else (bif Nat.blt pc 21 then (bif Nat.blt pc 20 then (bif Nat.beq pc 17 then some (.putfield 161, 0) else none) else (bif Nat.beq pc 20 then some (.aload_n 0, 0) else none)) else (bif Nat.blt pc 24 then (bif Nat.beq pc 21 then some (.getfield 161, 0) else none) else (bif Nat.beq pc 24 then some (.ireturn, 0) else none))))
def MX7_back : MI := (yX7_back, cX7_back, 1, (some .int), 7, zTab 25 tX7_back)
theorem kX7_back : zTok MX7_back := zTok_of 25 tX7_back rfl (by decide +kernel)
theorem oX7_back : zokM MX7_back 0 = true := zokM_mk (z_in (List.mem_of_getElem? (i := 1056) (by decide +kernel)) rfl) z_ini7 (by decide +kernel)
theorem iX7_back : zokI MX7_back = true := zokI_mk (z_in (List.mem_of_getElem? (i := 1054) (by decide +kernel)) rfl) (z_in (List.mem_of_getElem? (i := 1055) (by decide +kernel)) rfl)
def tX7_read : Nat → Option (Instr × Nat) := fun pc => bif Nat.blt pc 48 then (bif Nat.blt pc 27 then (bif Nat.blt pc 15 then (bif Nat.blt pc 9 then (bif Nat.blt pc 4 then (bif Nat.blt pc 1 then (bif Nat.beq pc 0 then some (.iload_n 1, 0) else none) else (bif Nat.beq pc 1 then some (.invokestatic 164, 0) else none)) else (bif Nat.blt pc 7 then (bif Nat.beq pc 4 then some (.ifCond .ne 6, 10) else none) else (bif Nat.beq pc 7 then some (.bipush (-2), 0) else none))) else (bif Nat.blt pc 11 then (bif Nat.blt pc 10 then (bif Nat.beq pc 9 then some (.ireturn, 0) else none) else (bif Nat.beq pc 10 then some (.aload_n 0, 0) else none)) else (bif Nat.blt pc 14 then (bif Nat.beq pc 11 then some (.getfield 86, 0) else none) else (bif Nat.beq pc 14 then some (.iload_n 1, 0) else none)))) else (bif Nat.blt pc 21 then (bif Nat.blt pc 19 then (bif Nat.blt pc 16 then (bif Nat.beq pc 15 then some (.baload, 0) else none) else (bif Nat.beq pc 16 then some (.ifCond .ne 9, 25) else none)) else (bif Nat.blt pc 20 then (bif Nat.beq pc 19 then some (.aload_n 0, 0) else none) else (bif Nat.beq pc 20 then some (.iconst 1, 0) else none))) else (bif Nat.blt pc 25 then (bif Nat.blt pc 24 then (bif Nat.beq pc 21 then some (.invokevirtual 167, 0) else none) else (bif Nat.beq pc 24 then some (.ireturn, 0) else none)) else (bif Nat.blt pc 26 then (bif Nat.beq pc 25 then some (.iconst 0, 0) else none) else (bif Nat.beq pc 26 then some (.istore_n 2, 0) else none))))) else (bif Nat.blt pc 36 then (bif Nat.blt pc 32 then (bif Nat.blt pc 30 then (bif Nat.blt pc 29 then (bif Nat.beq pc 27 then some (.bipush 60, 0) else none) else (bif Nat.beq pc 29 then some (.iload_n 1, 0) else none)) else (bif Nat.blt pc 31 then (bif Nat.beq pc 30 then some (.imul, 0) else none) else (bif Nat.beq pc 31 then some (.istore_n 3, 0) else none))) else (bif Nat.blt pc 34 then (bif Nat.blt pc 33 then (bif Nat.beq pc 32 then some (.iconst 3, 0) else none) else (bif Nat.beq pc 33 then some (.iload_n 2, 0) else none)) else (bif Nat.blt pc 35 then (bif Nat.beq pc 34 then some (.imul, 0) else none) else (bif Nat.beq pc 35 then some (.iconst 2, 0) else none)))) else (bif Nat.blt pc 42 then (bif Nat.blt pc 38 then (bif Nat.blt pc 37 then (bif Nat.beq pc 36 then some (.iadd, 0) else none) else (bif Nat.beq pc 37 then some (.aload_n 0, 0) else none)) else (bif Nat.blt pc 41 then (bif Nat.beq pc 38 then some (.getfield 93, 0) else none) else (bif Nat.beq pc 41 then some (.iload_n 1, 0) else none))) else (bif Nat.blt pc 46 then (bif Nat.blt pc 43 then (bif Nat.beq pc 42 then some (.iaload, 0) else none) else (bif Nat.beq pc 43 then some (.if_icmp .ge 50, 93) else none)) else (bif Nat.blt pc 47 then (bif Nat.beq pc 46 then some (.aload_n 0, 0) else none) else (bif Nat.beq pc 47 then some (.aload_n 0, 0) else none)))))) else (bif Nat.blt pc 68 then (bif Nat.blt pc 58 then (bif Nat.blt pc 54 then (bif Nat.blt pc 52 then (bif Nat.blt pc 51 then (bif Nat.beq pc 48 then some (.getfield 96, 0) else none) else (bif Nat.beq pc 51 then some (.iload_n 3, 0) else none)) else (bif Nat.blt pc 53 then (bif Nat.beq pc 52 then some (.iconst 3, 0) else none) else (bif Nat.beq pc 53 then some (.iload_n 2, 0) else none))) else (bif Nat.blt pc 56 then (bif Nat.blt pc 55 then (bif Nat.beq pc 54 then some (.imul, 0) else none) else (bif Nat.beq pc 55 then some (.iadd, 0) else none)) else (bif Nat.blt pc 57 then (bif Nat.beq pc 56 then some (.iaload, 0) else none) else (bif Nat.beq pc 57 then some (.aload_n 0, 0) else none)))) else (bif Nat.blt pc 64 then (bif Nat.blt pc 62 then (bif Nat.blt pc 61 then (bif Nat.beq pc 58 then some (.getfield 96, 0) else none) else (bif Nat.beq pc 61 then some (.iload_n 3, 0) else none)) else (bif Nat.blt pc 63 then (bif Nat.beq pc 62 then some (.iconst 3, 0) else none) else (bif Nat.beq pc 63 then some (.iload_n 2, 0) else none))) else (bif Nat.blt pc 66 then (bif Nat.blt pc 65 then (bif Nat.beq pc 64 then some (.imul, 0) else none) else (bif Nat.beq pc 65 then some (.iadd, 0) else none)) else (bif Nat.blt pc 67 then (bif Nat.beq pc 66 then some (.iconst 1, 0) else none) else (bif Nat.beq pc 67 then some (.iadd, 0) else none))))) else (bif Nat.blt pc 78 then (bif Nat.blt pc 74 then (bif Nat.blt pc 70 then (bif Nat.blt pc 69 then (bif Nat.beq pc 68 then some (.iaload, 0) else none) else (bif Nat.beq pc 69 then some (.aload_n 0, 0) else none)) else (bif Nat.blt pc 73 then (bif Nat.beq pc 70 then some (.getfield 96, 0) else none) else (bif Nat.beq pc 73 then some (.iload_n 3, 0) else none))) else (bif Nat.blt pc 76 then (bif Nat.blt pc 75 then (bif Nat.beq pc 74 then some (.iconst 3, 0) else none) else (bif Nat.beq pc 75 then some (.iload_n 2, 0) else none)) else (bif Nat.blt pc 77 then (bif Nat.beq pc 76 then some (.imul, 0) else none) else (bif Nat.beq pc 77 then some (.iadd, 0) else none)))) else (bif Nat.blt pc 84 then (bif Nat.blt pc 80 then (bif Nat.blt pc 79 then (bif Nat.beq pc 78 then some (.iconst 2, 0) else none) else (bif Nat.beq pc 79 then some (.iadd, 0) else none)) else (bif Nat.blt pc 81 then (bif Nat.beq pc 80 then some (.iaload, 0) else none) else (bif Nat.beq pc 81 then some (.invokevirtual 170, 0) else none))) else (bif Nat.blt pc 90 then (bif Nat.blt pc 87 then (bif Nat.beq pc 84 then some (.ifCond .le 9, 93) else none) else (bif Nat.beq pc 87 then some (.iinc 2 1, 0) else none)) else (bif Nat.blt pc 93 then (bif Nat.beq pc 90 then some (.goto (-58), 32) else none) else (bif Nat.blt pc 94 then (bif Nat.beq pc 93 then some (.iload_n 2, 0) else none) else (bif Nat.beq pc 94 then some (.ireturn, 0) else none)))))))
def MX7_read : MI := (yX7_read, cX7_read, 4, (some .int), 7, zTab 95 tX7_read)
theorem kX7_read : zTok MX7_read := zTok_of 95 tX7_read rfl (by decide +kernel)
theorem oX7_read : zokM MX7_read 1 = true := zokM_mk (z_in (List.mem_of_getElem? (i := 1060) (by decide +kernel)) rfl) z_ini7 (by decide +kernel)
theorem iX7_read : zokI MX7_read = true := zokI_mk (z_in (List.mem_of_getElem? (i := 1058) (by decide +kernel)) rfl) (z_in (List.mem_of_getElem? (i := 1059) (by decide +kernel)) rfl)
def tX7_asTold : Nat → Option (Instr × Nat) := fun pc => bif Nat.blt pc 40 then (bif Nat.blt pc 22 then (bif Nat.blt pc 12 then (bif Nat.blt pc 5 then (bif Nat.blt pc 1 then (bif Nat.beq pc 0 then some (.aload_n 0, 0) else none) else (bif Nat.blt pc 4 then (bif Nat.beq pc 1 then some (.invokevirtual 143, 0) else none) else (bif Nat.beq pc 4 then some (.aload_n 0, 0) else none))) else (bif Nat.blt pc 6 then (bif Nat.beq pc 5 then some (.aload_n 0, 0) else none) else (bif Nat.blt pc 9 then (bif Nat.beq pc 6 then some (.getfield 161, 0) else none) else (bif Nat.beq pc 9 then some (.putfield 174, 0) else none)))) else (bif Nat.blt pc 15 then (bif Nat.blt pc 13 then (bif Nat.beq pc 12 then some (.iconst 0, 0) else none) else (bif Nat.blt pc 14 then (bif Nat.beq pc 13 then some (.istore_n 1, 0) else none) else (bif Nat.beq pc 14 then some (.iload_n 1, 0) else none))) else (bif Nat.blt pc 16 then (bif Nat.beq pc 15 then some (.aload_n 0, 0) else none) else (bif Nat.blt pc 19 then (bif Nat.beq pc 16 then some (.getfield 161, 0) else none) else (bif Nat.beq pc 19 then some (.if_icmp .ge 45, 64) else none))))) else (bif Nat.blt pc 32 then (bif Nat.blt pc 27 then (bif Nat.blt pc 23 then (bif Nat.beq pc 22 then some (.aload_n 0, 0) else none) else (bif Nat.blt pc 26 then (bif Nat.beq pc 23 then some (.getfield 37, 0) else none) else (bif Nat.beq pc 26 then some (.iload_n 1, 0) else none))) else (bif Nat.blt pc 28 then (bif Nat.beq pc 27 then some (.aload_n 0, 0) else none) else (bif Nat.blt pc 31 then (bif Nat.beq pc 28 then some (.getfield 28, 0) else none) else (bif Nat.beq pc 31 then some (.iload_n 1, 0) else none)))) else (bif Nat.blt pc 35 then (bif Nat.blt pc 33 then (bif Nat.beq pc 32 then some (.iaload, 0) else none) else (bif Nat.blt pc 34 then (bif Nat.beq pc 33 then some (.iastore, 0) else none) else (bif Nat.beq pc 34 then some (.aload_n 0, 0) else none))) else (bif Nat.blt pc 38 then (bif Nat.beq pc 35 then some (.getfield 40, 0) else none) else (bif Nat.blt pc 39 then (bif Nat.beq pc 38 then some (.iload_n 1, 0) else none) else (bif Nat.beq pc 39 then some (.aload_n 0, 0) else none)))))) else (bif Nat.blt pc 58 then (bif Nat.blt pc 50 then (bif Nat.blt pc 45 then (bif Nat.blt pc 43 then (bif Nat.beq pc 40 then some (.getfield 31, 0) else none) else (bif Nat.blt pc 44 then (bif Nat.beq pc 43 then some (.iload_n 1, 0) else none) else (bif Nat.beq pc 44 then some (.iaload, 0) else none))) else (bif Nat.blt pc 46 then (bif Nat.beq pc 45 then some (.iastore, 0) else none) else (bif Nat.blt pc 47 then (bif Nat.beq pc 46 then some (.aload_n 0, 0) else none) else (bif Nat.beq pc 47 then some (.getfield 43, 0) else none)))) else (bif Nat.blt pc 55 then (bif Nat.blt pc 51 then (bif Nat.beq pc 50 then some (.iload_n 1, 0) else none) else (bif Nat.blt pc 52 then (bif Nat.beq pc 51 then some (.aload_n 0, 0) else none) else (bif Nat.beq pc 52 then some (.getfield 34, 0) else none))) else (bif Nat.blt pc 56 then (bif Nat.beq pc 55 then some (.iload_n 1, 0) else none) else (bif Nat.blt pc 57 then (bif Nat.beq pc 56 then some (.iaload, 0) else none) else (bif Nat.beq pc 57 then some (.iastore, 0) else none))))) else (bif Nat.blt pc 70 then (bif Nat.blt pc 65 then (bif Nat.blt pc 61 then (bif Nat.beq pc 58 then some (.iinc 1 1, 0) else none) else (bif Nat.blt pc 64 then (bif Nat.beq pc 61 then some (.goto (-47), 14) else none) else (bif Nat.beq pc 64 then some (.aload_n 0, 0) else none))) else (bif Nat.blt pc 66 then (bif Nat.beq pc 65 then some (.iconst 0, 0) else none) else (bif Nat.blt pc 69 then (bif Nat.beq pc 66 then some (.putfield 177, 0) else none) else (bif Nat.beq pc 69 then some (.aload_n 0, 0) else none)))) else (bif Nat.blt pc 75 then (bif Nat.blt pc 71 then (bif Nat.beq pc 70 then some (.iconst (-1), 0) else none) else (bif Nat.blt pc 74 then (bif Nat.beq pc 71 then some (.putfield 180, 0) else none) else (bif Nat.beq pc 74 then some (.aload_n 0, 0) else none))) else (bif Nat.blt pc 76 then (bif Nat.beq pc 75 then some (.iconst 0, 0) else none) else (bif Nat.blt pc 79 then (bif Nat.beq pc 76 then some (.putfield 183, 0) else none) else (bif Nat.beq pc 79 then some (.return_, 0) else none))))))
def MX7_asTold : MI := (yX7_asTold, cX7_asTold, 2, none, 7, zTab 80 tX7_asTold)
theorem kX7_asTold : zTok MX7_asTold := zTok_of 80 tX7_asTold rfl (by decide +kernel)
theorem oX7_asTold : zokM MX7_asTold 0 = true := zokM_mk (z_in (List.mem_of_getElem? (i := 1084) (by decide +kernel)) rfl) z_ini7 (by decide +kernel)
theorem iX7_asTold : zokI MX7_asTold = true := zokI_mk (z_in (List.mem_of_getElem? (i := 1083) (by decide +kernel)) rfl) (z_in (List.mem_of_getElem? (i := 38) (by decide +kernel)) rfl)
def tX7_leaves : Nat → Option (Instr × Nat) := fun pc => bif Nat.blt pc 40 then (bif Nat.blt pc 20 then (bif Nat.blt pc 8 then (bif Nat.blt pc 5 then (bif Nat.blt pc 1 then (bif Nat.beq pc 0 then some (.aload_n 0, 0) else none) else (bif Nat.blt pc 4 then (bif Nat.beq pc 1 then some (.getfield 186, 0) else none) else (bif Nat.beq pc 4 then some (.istore_n 2, 0) else none))) else (bif Nat.blt pc 6 then (bif Nat.beq pc 5 then some (.iconst 0, 0) else none) else (bif Nat.blt pc 7 then (bif Nat.beq pc 6 then some (.istore_n 3, 0) else none) else (bif Nat.beq pc 7 then some (.iload_n 3, 0) else none)))) else (bif Nat.blt pc 15 then (bif Nat.blt pc 9 then (bif Nat.beq pc 8 then some (.aload_n 0, 0) else none) else (bif Nat.blt pc 12 then (bif Nat.beq pc 9 then some (.getfield 186, 0) else none) else (bif Nat.beq pc 12 then some (.if_icmp .ge 25, 37) else none))) else (bif Nat.blt pc 16 then (bif Nat.beq pc 15 then some (.aload_n 0, 0) else none) else (bif Nat.blt pc 19 then (bif Nat.beq pc 16 then some (.getfield 46, 0) else none) else (bif Nat.beq pc 19 then some (.iload_n 3, 0) else none))))) else (bif Nat.blt pc 30 then (bif Nat.blt pc 25 then (bif Nat.blt pc 21 then (bif Nat.beq pc 20 then some (.iaload, 0) else none) else (bif Nat.blt pc 22 then (bif Nat.beq pc 21 then some (.iload_n 1, 0) else none) else (bif Nat.beq pc 22 then some (.if_icmp .ne 7, 29) else none))) else (bif Nat.blt pc 26 then (bif Nat.beq pc 25 then some (.iload_n 3, 0) else none) else (bif Nat.blt pc 29 then (bif Nat.beq pc 26 then some (.goto 4, 30) else none) else (bif Nat.beq pc 29 then some (.iload_n 2, 0) else none)))) else (bif Nat.blt pc 37 then (bif Nat.blt pc 31 then (bif Nat.beq pc 30 then some (.istore_n 2, 0) else none) else (bif Nat.blt pc 34 then (bif Nat.beq pc 31 then some (.iinc 3 1, 0) else none) else (bif Nat.beq pc 34 then some (.goto (-27), 7) else none))) else (bif Nat.blt pc 38 then (bif Nat.beq pc 37 then some (.iload_n 2, 0) else none) else (bif Nat.blt pc 39 then (bif Nat.beq pc 38 then some (.istore_n 3, 0) else none) else (bif Nat.beq pc 39 then some (.iload_n 3, 0) else none)))))) else (bif Nat.blt pc 60 then (bif Nat.blt pc 50 then (bif Nat.blt pc 43 then (bif Nat.blt pc 41 then (bif Nat.beq pc 40 then some (.iconst 1, 0) else none) else (bif Nat.blt pc 42 then (bif Nat.beq pc 41 then some (.iadd, 0) else none) else (bif Nat.beq pc 42 then some (.aload_n 0, 0) else none))) else (bif Nat.blt pc 46 then (bif Nat.beq pc 43 then some (.getfield 186, 0) else none) else (bif Nat.blt pc 49 then (bif Nat.beq pc 46 then some (.if_icmp .ge 23, 69) else none) else (bif Nat.beq pc 49 then some (.aload_n 0, 0) else none)))) else (bif Nat.blt pc 55 then (bif Nat.blt pc 53 then (bif Nat.beq pc 50 then some (.getfield 46, 0) else none) else (bif Nat.blt pc 54 then (bif Nat.beq pc 53 then some (.iload_n 3, 0) else none) else (bif Nat.beq pc 54 then some (.aload_n 0, 0) else none))) else (bif Nat.blt pc 58 then (bif Nat.beq pc 55 then some (.getfield 46, 0) else none) else (bif Nat.blt pc 59 then (bif Nat.beq pc 58 then some (.iload_n 3, 0) else none) else (bif Nat.beq pc 59 then some (.iconst 1, 0) else none))))) else (bif Nat.blt pc 70 then (bif Nat.blt pc 63 then (bif Nat.blt pc 61 then (bif Nat.beq pc 60 then some (.iadd, 0) else none) else (bif Nat.blt pc 62 then (bif Nat.beq pc 61 then some (.iaload, 0) else none) else (bif Nat.beq pc 62 then some (.iastore, 0) else none))) else (bif Nat.blt pc 66 then (bif Nat.beq pc 63 then some (.iinc 3 1, 0) else none) else (bif Nat.blt pc 69 then (bif Nat.beq pc 66 then some (.goto (-27), 39) else none) else (bif Nat.beq pc 69 then some (.aload_n 0, 0) else none)))) else (bif Nat.blt pc 75 then (bif Nat.blt pc 71 then (bif Nat.beq pc 70 then some (.dup, 0) else none) else (bif Nat.blt pc 74 then (bif Nat.beq pc 71 then some (.getfield 186, 0) else none) else (bif Nat.beq pc 74 then some (.iconst 1, 0) else none))) else (bif Nat.blt pc 76 then (bif Nat.beq pc 75 then some (.isub, 0) else none) else (bif Nat.blt pc 79 then (bif Nat.beq pc 76 then some (.putfield 186, 0) else none) else (bif Nat.beq pc 79 then some (.return_, 0) else none))))))
def MX7_leaves : MI := (yX7_leaves, cX7_leaves, 4, none, 7, zTab 80 tX7_leaves)
theorem kX7_leaves : zTok MX7_leaves := zTok_of 80 tX7_leaves rfl (by decide +kernel)
theorem oX7_leaves : zokM MX7_leaves 1 = true := zokM_mk (z_in (List.mem_of_getElem? (i := 1103) (by decide +kernel)) rfl) z_ini7 (by decide +kernel)
theorem iX7_leaves : zokI MX7_leaves = true := zokI_mk (z_in (List.mem_of_getElem? (i := 1102) (by decide +kernel)) rfl) (z_in (List.mem_of_getElem? (i := 42) (by decide +kernel)) rfl)
def tX7_enters : Nat → Option (Instr × Nat) := fun pc => bif Nat.blt pc 23 then (bif Nat.blt pc 11 then (bif Nat.blt pc 5 then (bif Nat.blt pc 1 then (bif Nat.beq pc 0 then some (.aload_n 0, 0) else none) else (bif Nat.blt pc 4 then (bif Nat.beq pc 1 then some (.getfield 186, 0) else none) else (bif Nat.beq pc 4 then some (.istore_n 3, 0) else none))) else (bif Nat.blt pc 7 then (bif Nat.blt pc 6 then (bif Nat.beq pc 5 then some (.iload_n 3, 0) else none) else (bif Nat.beq pc 6 then some (.iload_n 2, 0) else none)) else (bif Nat.blt pc 10 then (bif Nat.beq pc 7 then some (.if_icmp .le 23, 30) else none) else (bif Nat.beq pc 10 then some (.aload_n 0, 0) else none)))) else (bif Nat.blt pc 19 then (bif Nat.blt pc 15 then (bif Nat.blt pc 14 then (bif Nat.beq pc 11 then some (.getfield 46, 0) else none) else (bif Nat.beq pc 14 then some (.iload_n 3, 0) else none)) else (bif Nat.blt pc 16 then (bif Nat.beq pc 15 then some (.aload_n 0, 0) else none) else (bif Nat.beq pc 16 then some (.getfield 46, 0) else none))) else (bif Nat.blt pc 21 then (bif Nat.blt pc 20 then (bif Nat.beq pc 19 then some (.iload_n 3, 0) else none) else (bif Nat.beq pc 20 then some (.iconst 1, 0) else none)) else (bif Nat.blt pc 22 then (bif Nat.beq pc 21 then some (.isub, 0) else none) else (bif Nat.beq pc 22 then some (.iaload, 0) else none))))) else (bif Nat.blt pc 36 then (bif Nat.blt pc 30 then (bif Nat.blt pc 24 then (bif Nat.beq pc 23 then some (.iastore, 0) else none) else (bif Nat.blt pc 27 then (bif Nat.beq pc 24 then some (.iinc 3 (-1), 0) else none) else (bif Nat.beq pc 27 then some (.goto (-22), 5) else none))) else (bif Nat.blt pc 34 then (bif Nat.blt pc 31 then (bif Nat.beq pc 30 then some (.aload_n 0, 0) else none) else (bif Nat.beq pc 31 then some (.getfield 46, 0) else none)) else (bif Nat.blt pc 35 then (bif Nat.beq pc 34 then some (.iload_n 2, 0) else none) else (bif Nat.beq pc 35 then some (.iload_n 1, 0) else none)))) else (bif Nat.blt pc 42 then (bif Nat.blt pc 38 then (bif Nat.blt pc 37 then (bif Nat.beq pc 36 then some (.iastore, 0) else none) else (bif Nat.beq pc 37 then some (.aload_n 0, 0) else none)) else (bif Nat.blt pc 39 then (bif Nat.beq pc 38 then some (.dup, 0) else none) else (bif Nat.beq pc 39 then some (.getfield 186, 0) else none))) else (bif Nat.blt pc 44 then (bif Nat.blt pc 43 then (bif Nat.beq pc 42 then some (.iconst 1, 0) else none) else (bif Nat.beq pc 43 then some (.iadd, 0) else none)) else (bif Nat.blt pc 47 then (bif Nat.beq pc 44 then some (.putfield 186, 0) else none) else (bif Nat.beq pc 47 then some (.return_, 0) else none)))))
def MX7_enters : MI := (yX7_enters, cX7_enters, 4, none, 7, zTab 48 tX7_enters)
theorem kX7_enters : zTok MX7_enters := zTok_of 48 tX7_enters rfl (by decide +kernel)
theorem oX7_enters : zokM MX7_enters 2 = true := zokM_mk (z_in (List.mem_of_getElem? (i := 1107) (by decide +kernel)) rfl) z_ini7 (by decide +kernel)
theorem iX7_enters : zokI MX7_enters = true := zokI_mk (z_in (List.mem_of_getElem? (i := 1106) (by decide +kernel)) rfl) (z_in (List.mem_of_getElem? (i := 43) (by decide +kernel)) rfl)
def tX7_befalls : Nat → Option (Instr × Nat) := fun pc => bif Nat.blt pc 36 then (bif Nat.blt pc 19 then (bif Nat.blt pc 7 then (bif Nat.blt pc 4 then (bif Nat.blt pc 1 then (bif Nat.beq pc 0 then some (.aload_n 0, 0) else none) else (bif Nat.beq pc 1 then some (.getfield 43, 0) else none)) else (bif Nat.blt pc 5 then (bif Nat.beq pc 4 then some (.iload_n 1, 0) else none) else (bif Nat.blt pc 6 then (bif Nat.beq pc 5 then some (.iaload, 0) else none) else (bif Nat.beq pc 6 then some (.istore_n 2, 0) else none)))) else (bif Nat.blt pc 12 then (bif Nat.blt pc 8 then (bif Nat.beq pc 7 then some (.iload_n 2, 0) else none) else (bif Nat.blt pc 9 then (bif Nat.beq pc 8 then some (.aload_n 0, 0) else none) else (bif Nat.beq pc 9 then some (.getfield 119, 0) else none))) else (bif Nat.blt pc 15 then (bif Nat.beq pc 12 then some (.if_icmp .ge 13, 25) else none) else (bif Nat.blt pc 16 then (bif Nat.beq pc 15 then some (.aload_n 0, 0) else none) else (bif Nat.beq pc 16 then some (.getfield 49, 0) else none))))) else (bif Nat.blt pc 26 then (bif Nat.blt pc 21 then (bif Nat.blt pc 20 then (bif Nat.beq pc 19 then some (.iload_n 2, 0) else none) else (bif Nat.beq pc 20 then some (.iaload, 0) else none)) else (bif Nat.blt pc 22 then (bif Nat.beq pc 21 then some (.iconst 1, 0) else none) else (bif Nat.blt pc 25 then (bif Nat.beq pc 22 then some (.if_icmp .eq 4, 26) else none) else (bif Nat.beq pc 25 then some (.return_, 0) else none)))) else (bif Nat.blt pc 31 then (bif Nat.blt pc 27 then (bif Nat.beq pc 26 then some (.aload_n 0, 0) else none) else (bif Nat.blt pc 28 then (bif Nat.beq pc 27 then some (.iload_n 2, 0) else none) else (bif Nat.beq pc 28 then some (.invokevirtual 189, 0) else none))) else (bif Nat.blt pc 32 then (bif Nat.beq pc 31 then some (.aload_n 0, 0) else none) else (bif Nat.blt pc 35 then (bif Nat.beq pc 32 then some (.getfield 37, 0) else none) else (bif Nat.beq pc 35 then some (.iload_n 1, 0) else none)))))) else (bif Nat.blt pc 53 then (bif Nat.blt pc 45 then (bif Nat.blt pc 40 then (bif Nat.blt pc 37 then (bif Nat.beq pc 36 then some (.iaload, 0) else none) else (bif Nat.beq pc 37 then some (.ifCond .ne 13, 50) else none)) else (bif Nat.blt pc 41 then (bif Nat.beq pc 40 then some (.aload_n 0, 0) else none) else (bif Nat.blt pc 44 then (bif Nat.beq pc 41 then some (.getfield 49, 0) else none) else (bif Nat.beq pc 44 then some (.iload_n 2, 0) else none)))) else (bif Nat.blt pc 50 then (bif Nat.blt pc 46 then (bif Nat.beq pc 45 then some (.iconst 3, 0) else none) else (bif Nat.blt pc 47 then (bif Nat.beq pc 46 then some (.iastore, 0) else none) else (bif Nat.beq pc 47 then some (.goto 26, 73) else none))) else (bif Nat.blt pc 51 then (bif Nat.beq pc 50 then some (.aload_n 0, 0) else none) else (bif Nat.blt pc 52 then (bif Nat.beq pc 51 then some (.iload_n 2, 0) else none) else (bif Nat.beq pc 52 then some (.aload_n 0, 0) else none))))) else (bif Nat.blt pc 62 then (bif Nat.blt pc 57 then (bif Nat.blt pc 56 then (bif Nat.beq pc 53 then some (.getfield 37, 0) else none) else (bif Nat.beq pc 56 then some (.iload_n 1, 0) else none)) else (bif Nat.blt pc 58 then (bif Nat.beq pc 57 then some (.iaload, 0) else none) else (bif Nat.blt pc 59 then (bif Nat.beq pc 58 then some (.iconst 1, 0) else none) else (bif Nat.beq pc 59 then some (.if_icmp .ne 7, 66) else none)))) else (bif Nat.blt pc 67 then (bif Nat.blt pc 63 then (bif Nat.beq pc 62 then some (.iconst 0, 0) else none) else (bif Nat.blt pc 66 then (bif Nat.beq pc 63 then some (.goto 7, 70) else none) else (bif Nat.beq pc 66 then some (.aload_n 0, 0) else none))) else (bif Nat.blt pc 70 then (bif Nat.beq pc 67 then some (.getfield 186, 0) else none) else (bif Nat.blt pc 73 then (bif Nat.beq pc 70 then some (.invokevirtual 193, 0) else none) else (bif Nat.beq pc 73 then some (.return_, 0) else none))))))
def MX7_befalls : MI := (yX7_befalls, cX7_befalls, 3, none, 7, zTab 74 tX7_befalls)
theorem kX7_befalls : zTok MX7_befalls := zTok_of 74 tX7_befalls rfl (by decide +kernel)
theorem oX7_befalls : zokM MX7_befalls 1 = true := zokM_mk (z_in (List.mem_of_getElem? (i := 1099) (by decide +kernel)) rfl) z_ini7 (by decide +kernel)
theorem iX7_befalls : zokI MX7_befalls = true := zokI_mk (z_in (List.mem_of_getElem? (i := 1098) (by decide +kernel)) rfl) (z_in (List.mem_of_getElem? (i := 41) (by decide +kernel)) rfl)
def tX7_comesIn : Nat → Option (Instr × Nat) := fun pc => bif Nat.blt pc 26 then (bif Nat.blt pc 12 then (bif Nat.blt pc 6 then (bif Nat.blt pc 2 then (bif Nat.blt pc 1 then (bif Nat.beq pc 0 then some (.aload_n 0, 0) else none) else (bif Nat.beq pc 1 then some (.iload_n 1, 0) else none)) else (bif Nat.blt pc 3 then (bif Nat.beq pc 2 then some (.aload_n 0, 0) else none) else (bif Nat.beq pc 3 then some (.getfield 19, 0) else none))) else (bif Nat.blt pc 8 then (bif Nat.blt pc 7 then (bif Nat.beq pc 6 then some (.iload_n 1, 0) else none) else (bif Nat.beq pc 7 then some (.iaload, 0) else none)) else (bif Nat.blt pc 11 then (bif Nat.beq pc 8 then some (.ifCond .ne 12, 20) else none) else (bif Nat.beq pc 11 then some (.aload_n 0, 0) else none)))) else (bif Nat.blt pc 20 then (bif Nat.blt pc 16 then (bif Nat.blt pc 15 then (bif Nat.beq pc 12 then some (.getfield 186, 0) else none) else (bif Nat.beq pc 15 then some (.iconst 2, 0) else none)) else (bif Nat.blt pc 17 then (bif Nat.beq pc 16 then some (.idiv, 0) else none) else (bif Nat.beq pc 17 then some (.goto 26, 43) else none))) else (bif Nat.blt pc 24 then (bif Nat.blt pc 21 then (bif Nat.beq pc 20 then some (.aload_n 0, 0) else none) else (bif Nat.beq pc 21 then some (.getfield 19, 0) else none)) else (bif Nat.blt pc 25 then (bif Nat.beq pc 24 then some (.iload_n 1, 0) else none) else (bif Nat.beq pc 25 then some (.iaload, 0) else none))))) else (bif Nat.blt pc 40 then (bif Nat.blt pc 34 then (bif Nat.blt pc 30 then (bif Nat.blt pc 27 then (bif Nat.beq pc 26 then some (.iconst 1, 0) else none) else (bif Nat.beq pc 27 then some (.if_icmp .ne 12, 39) else none)) else (bif Nat.blt pc 31 then (bif Nat.beq pc 30 then some (.aload_n 0, 0) else none) else (bif Nat.beq pc 31 then some (.getfield 186, 0) else none))) else (bif Nat.blt pc 36 then (bif Nat.blt pc 35 then (bif Nat.beq pc 34 then some (.iconst 3, 0) else none) else (bif Nat.beq pc 35 then some (.idiv, 0) else none)) else (bif Nat.blt pc 39 then (bif Nat.beq pc 36 then some (.goto 7, 43) else none) else (bif Nat.beq pc 39 then some (.aload_n 0, 0) else none)))) else (bif Nat.blt pc 50 then (bif Nat.blt pc 46 then (bif Nat.blt pc 43 then (bif Nat.beq pc 40 then some (.getfield 186, 0) else none) else (bif Nat.beq pc 43 then some (.invokevirtual 193, 0) else none)) else (bif Nat.blt pc 47 then (bif Nat.beq pc 46 then some (.aload_n 0, 0) else none) else (bif Nat.beq pc 47 then some (.getfield 49, 0) else none))) else (bif Nat.blt pc 52 then (bif Nat.blt pc 51 then (bif Nat.beq pc 50 then some (.iload_n 1, 0) else none) else (bif Nat.beq pc 51 then some (.iconst 1, 0) else none)) else (bif Nat.blt pc 53 then (bif Nat.beq pc 52 then some (.iastore, 0) else none) else (bif Nat.beq pc 53 then some (.return_, 0) else none)))))
def MX7_comesIn : MI := (yX7_comesIn, cX7_comesIn, 2, none, 7, zTab 54 tX7_comesIn)
theorem kX7_comesIn : zTok MX7_comesIn := zTok_of 54 tX7_comesIn rfl (by decide +kernel)
theorem oX7_comesIn : zokM MX7_comesIn 1 = true := zokM_mk (z_in (List.mem_of_getElem? (i := 1111) (by decide +kernel)) rfl) z_ini7 (by decide +kernel)
theorem iX7_comesIn : zokI MX7_comesIn = true := zokI_mk (z_in (List.mem_of_getElem? (i := 1110) (by decide +kernel)) rfl) (z_in (List.mem_of_getElem? (i := 44) (by decide +kernel)) rfl)
def tX7_serves : Nat → Option (Instr × Nat) := fun pc => bif Nat.blt pc 84 then (bif Nat.blt pc 45 then (bif Nat.blt pc 21 then (bif Nat.blt pc 9 then (bif Nat.blt pc 2 then (bif Nat.blt pc 1 then (bif Nat.beq pc 0 then some (.iload_n 1, 0) else none) else (bif Nat.beq pc 1 then some (.aload_n 0, 0) else none)) else (bif Nat.blt pc 5 then (bif Nat.beq pc 2 then some (.getfield 180, 0) else none) else (bif Nat.blt pc 8 then (bif Nat.beq pc 5 then some (.if_icmp .ne 10, 15) else none) else (bif Nat.beq pc 8 then some (.aload_n 0, 0) else none)))) else (bif Nat.blt pc 16 then (bif Nat.blt pc 12 then (bif Nat.beq pc 9 then some (.getfield 183, 0) else none) else (bif Nat.blt pc 15 then (bif Nat.beq pc 12 then some (.goto 9, 21) else none) else (bif Nat.beq pc 15 then some (.aload_n 0, 0) else none))) else (bif Nat.blt pc 19 then (bif Nat.beq pc 16 then some (.getfield 25, 0) else none) else (bif Nat.blt pc 20 then (bif Nat.beq pc 19 then some (.iload_n 1, 0) else none) else (bif Nat.beq pc 20 then some (.iaload, 0) else none))))) else (bif Nat.blt pc 31 then (bif Nat.blt pc 26 then (bif Nat.blt pc 22 then (bif Nat.beq pc 21 then some (.istore_n 2, 0) else none) else (bif Nat.blt pc 23 then (bif Nat.beq pc 22 then some (.aload_n 0, 0) else none) else (bif Nat.beq pc 23 then some (.getfield 186, 0) else none))) else (bif Nat.blt pc 29 then (bif Nat.beq pc 26 then some (.ifCond .le 26, 52) else none) else (bif Nat.blt pc 30 then (bif Nat.beq pc 29 then some (.iload_n 2, 0) else none) else (bif Nat.beq pc 30 then some (.iconst 0, 0) else none)))) else (bif Nat.blt pc 38 then (bif Nat.blt pc 34 then (bif Nat.beq pc 31 then some (.invokestatic 197, 0) else none) else (bif Nat.blt pc 37 then (bif Nat.beq pc 34 then some (.ifCond .eq 18, 52) else none) else (bif Nat.beq pc 37 then some (.aload_n 0, 0) else none))) else (bif Nat.blt pc 41 then (bif Nat.beq pc 38 then some (.getfield 52, 0) else none) else (bif Nat.blt pc 42 then (bif Nat.beq pc 41 then some (.aload_n 0, 0) else none) else (bif Nat.beq pc 42 then some (.getfield 46, 0) else none)))))) else (bif Nat.blt pc 60 then (bif Nat.blt pc 50 then (bif Nat.blt pc 47 then (bif Nat.blt pc 46 then (bif Nat.beq pc 45 then some (.iconst 0, 0) else none) else (bif Nat.beq pc 46 then some (.iaload, 0) else none)) else (bif Nat.blt pc 48 then (bif Nat.beq pc 47 then some (.dup2, 0) else none) else (bif Nat.blt pc 49 then (bif Nat.beq pc 48 then some (.iaload, 0) else none) else (bif Nat.beq pc 49 then some (.iconst 1, 0) else none)))) else (bif Nat.blt pc 53 then (bif Nat.blt pc 51 then (bif Nat.beq pc 50 then some (.isub, 0) else none) else (bif Nat.blt pc 52 then (bif Nat.beq pc 51 then some (.iastore, 0) else none) else (bif Nat.beq pc 52 then some (.aload_n 0, 0) else none))) else (bif Nat.blt pc 56 then (bif Nat.beq pc 53 then some (.getfield 186, 0) else none) else (bif Nat.blt pc 59 then (bif Nat.beq pc 56 then some (.ifCond .le 47, 103) else none) else (bif Nat.beq pc 59 then some (.iload_n 2, 0) else none))))) else (bif Nat.blt pc 72 then (bif Nat.blt pc 67 then (bif Nat.blt pc 61 then (bif Nat.beq pc 60 then some (.iconst 1, 0) else none) else (bif Nat.blt pc 64 then (bif Nat.beq pc 61 then some (.invokestatic 197, 0) else none) else (bif Nat.beq pc 64 then some (.ifCond .eq 39, 103) else none))) else (bif Nat.blt pc 68 then (bif Nat.beq pc 67 then some (.aload_n 0, 0) else none) else (bif Nat.blt pc 71 then (bif Nat.beq pc 68 then some (.getfield 186, 0) else none) else (bif Nat.beq pc 71 then some (.iconst 1, 0) else none)))) else (bif Nat.blt pc 77 then (bif Nat.blt pc 75 then (bif Nat.beq pc 72 then some (.if_icmp .ne 11, 83) else none) else (bif Nat.blt pc 76 then (bif Nat.beq pc 75 then some (.iload_n 2, 0) else none) else (bif Nat.beq pc 76 then some (.iconst 0, 0) else none))) else (bif Nat.blt pc 80 then (bif Nat.beq pc 77 then some (.invokestatic 197, 0) else none) else (bif Nat.blt pc 83 then (bif Nat.beq pc 80 then some (.ifCond .ne 23, 103) else none) else (bif Nat.beq pc 83 then some (.aload_n 0, 0) else none))))))) else (bif Nat.blt pc 119 then (bif Nat.blt pc 101 then (bif Nat.blt pc 95 then (bif Nat.blt pc 88 then (bif Nat.blt pc 87 then (bif Nat.beq pc 84 then some (.getfield 52, 0) else none) else (bif Nat.beq pc 87 then some (.aload_n 0, 0) else none)) else (bif Nat.blt pc 91 then (bif Nat.beq pc 88 then some (.getfield 46, 0) else none) else (bif Nat.blt pc 92 then (bif Nat.beq pc 91 then some (.aload_n 0, 0) else none) else (bif Nat.beq pc 92 then some (.getfield 186, 0) else none)))) else (bif Nat.blt pc 98 then (bif Nat.blt pc 96 then (bif Nat.beq pc 95 then some (.iconst 1, 0) else none) else (bif Nat.blt pc 97 then (bif Nat.beq pc 96 then some (.isub, 0) else none) else (bif Nat.beq pc 97 then some (.iaload, 0) else none))) else (bif Nat.blt pc 99 then (bif Nat.beq pc 98 then some (.dup2, 0) else none) else (bif Nat.blt pc 100 then (bif Nat.beq pc 99 then some (.iaload, 0) else none) else (bif Nat.beq pc 100 then some (.iconst 1, 0) else none))))) else (bif Nat.blt pc 107 then (bif Nat.blt pc 104 then (bif Nat.blt pc 102 then (bif Nat.beq pc 101 then some (.isub, 0) else none) else (bif Nat.blt pc 103 then (bif Nat.beq pc 102 then some (.iastore, 0) else none) else (bif Nat.beq pc 103 then some (.iconst 0, 0) else none))) else (bif Nat.blt pc 105 then (bif Nat.beq pc 104 then some (.istore_n 3, 0) else none) else (bif Nat.blt pc 106 then (bif Nat.beq pc 105 then some (.iload_n 3, 0) else none) else (bif Nat.beq pc 106 then some (.aload_n 0, 0) else none)))) else (bif Nat.blt pc 114 then (bif Nat.blt pc 110 then (bif Nat.beq pc 107 then some (.getfield 119, 0) else none) else (bif Nat.blt pc 113 then (bif Nat.beq pc 110 then some (.if_icmp .ge 47, 157) else none) else (bif Nat.beq pc 113 then some (.aload_n 0, 0) else none))) else (bif Nat.blt pc 117 then (bif Nat.beq pc 114 then some (.getfield 49, 0) else none) else (bif Nat.blt pc 118 then (bif Nat.beq pc 117 then some (.iload_n 3, 0) else none) else (bif Nat.beq pc 118 then some (.iaload, 0) else none)))))) else (bif Nat.blt pc 138 then (bif Nat.blt pc 128 then (bif Nat.blt pc 123 then (bif Nat.blt pc 120 then (bif Nat.beq pc 119 then some (.iconst 1, 0) else none) else (bif Nat.beq pc 120 then some (.if_icmp .ne 31, 151) else none)) else (bif Nat.blt pc 124 then (bif Nat.beq pc 123 then some (.aload_n 0, 0) else none) else (bif Nat.blt pc 127 then (bif Nat.beq pc 124 then some (.getfield 52, 0) else none) else (bif Nat.beq pc 127 then some (.iload_n 3, 0) else none)))) else (bif Nat.blt pc 133 then (bif Nat.blt pc 129 then (bif Nat.beq pc 128 then some (.iaload, 0) else none) else (bif Nat.blt pc 132 then (bif Nat.beq pc 129 then some (.ifCond .ne 22, 151) else none) else (bif Nat.beq pc 132 then some (.aload_n 0, 0) else none))) else (bif Nat.blt pc 134 then (bif Nat.beq pc 133 then some (.iload_n 3, 0) else none) else (bif Nat.blt pc 137 then (bif Nat.beq pc 134 then some (.invokevirtual 189, 0) else none) else (bif Nat.beq pc 137 then some (.aload_n 0, 0) else none))))) else (bif Nat.blt pc 148 then (bif Nat.blt pc 143 then (bif Nat.blt pc 141 then (bif Nat.beq pc 138 then some (.getfield 49, 0) else none) else (bif Nat.blt pc 142 then (bif Nat.beq pc 141 then some (.iload_n 3, 0) else none) else (bif Nat.beq pc 142 then some (.iconst 2, 0) else none))) else (bif Nat.blt pc 144 then (bif Nat.beq pc 143 then some (.iastore, 0) else none) else (bif Nat.blt pc 145 then (bif Nat.beq pc 144 then some (.aload_n 0, 0) else none) else (bif Nat.beq pc 145 then some (.getfield 55, 0) else none)))) else (bif Nat.blt pc 151 then (bif Nat.blt pc 149 then (bif Nat.beq pc 148 then some (.iload_n 3, 0) else none) else (bif Nat.blt pc 150 then (bif Nat.beq pc 149 then some (.iload_n 1, 0) else none) else (bif Nat.beq pc 150 then some (.iastore, 0) else none))) else (bif Nat.blt pc 154 then (bif Nat.beq pc 151 then some (.iinc 3 1, 0) else none) else (bif Nat.blt pc 157 then (bif Nat.beq pc 154 then some (.goto (-49), 105) else none) else (bif Nat.beq pc 157 then some (.return_, 0) else none)))))))
def MX7_serves : MI := (yX7_serves, cX7_serves, 4, none, 7, zTab 158 tX7_serves)
theorem kX7_serves : zTok MX7_serves := zTok_of 158 tX7_serves rfl (by decide +kernel)
theorem oX7_serves : zokM MX7_serves 1 = true := zokM_mk (z_in (List.mem_of_getElem? (i := 1115) (by decide +kernel)) rfl) z_ini7 (by decide +kernel)
theorem iX7_serves : zokI MX7_serves = true := zokI_mk (z_in (List.mem_of_getElem? (i := 1114) (by decide +kernel)) rfl) (z_in (List.mem_of_getElem? (i := 45) (by decide +kernel)) rfl)
def tX7_goesBy : Nat → Option (Instr × Nat) := fun pc => bif Nat.blt pc 90 then (bif Nat.blt pc 44 then (bif Nat.blt pc 20 then (bif Nat.blt pc 10 then (bif Nat.blt pc 3 then (bif Nat.blt pc 1 then (bif Nat.beq pc 0 then some (.iconst 0, 0) else none) else (bif Nat.blt pc 2 then (bif Nat.beq pc 1 then some (.istore_n 2, 0) else none) else (bif Nat.beq pc 2 then some (.iload_n 2, 0) else none))) else (bif Nat.blt pc 4 then (bif Nat.beq pc 3 then some (.aload_n 0, 0) else none) else (bif Nat.blt pc 7 then (bif Nat.beq pc 4 then some (.getfield 174, 0) else none) else (bif Nat.beq pc 7 then some (.if_icmp .ge 35, 42) else none)))) else (bif Nat.blt pc 15 then (bif Nat.blt pc 11 then (bif Nat.beq pc 10 then some (.aload_n 0, 0) else none) else (bif Nat.blt pc 14 then (bif Nat.beq pc 11 then some (.getfield 40, 0) else none) else (bif Nat.beq pc 14 then some (.iload_n 2, 0) else none))) else (bif Nat.blt pc 16 then (bif Nat.beq pc 15 then some (.iaload, 0) else none) else (bif Nat.blt pc 17 then (bif Nat.beq pc 16 then some (.iload_n 1, 0) else none) else (bif Nat.beq pc 17 then some (.if_icmp .ne 19, 36) else none))))) else (bif Nat.blt pc 32 then (bif Nat.blt pc 25 then (bif Nat.blt pc 21 then (bif Nat.beq pc 20 then some (.aload_n 0, 0) else none) else (bif Nat.blt pc 24 then (bif Nat.beq pc 21 then some (.getfield 177, 0) else none) else (bif Nat.beq pc 24 then some (.iload_n 2, 0) else none))) else (bif Nat.blt pc 28 then (bif Nat.beq pc 25 then some (.invokestatic 197, 0) else none) else (bif Nat.blt pc 31 then (bif Nat.beq pc 28 then some (.ifCond .ne 8, 36) else none) else (bif Nat.beq pc 31 then some (.aload_n 0, 0) else none)))) else (bif Nat.blt pc 39 then (bif Nat.blt pc 33 then (bif Nat.beq pc 32 then some (.iload_n 2, 0) else none) else (bif Nat.blt pc 36 then (bif Nat.beq pc 33 then some (.invokevirtual 201, 0) else none) else (bif Nat.beq pc 36 then some (.iinc 2 1, 0) else none))) else (bif Nat.blt pc 42 then (bif Nat.beq pc 39 then some (.goto (-37), 2) else none) else (bif Nat.blt pc 43 then (bif Nat.beq pc 42 then some (.iconst 0, 0) else none) else (bif Nat.beq pc 43 then some (.istore_n 2, 0) else none)))))) else (bif Nat.blt pc 64 then (bif Nat.blt pc 56 then (bif Nat.blt pc 49 then (bif Nat.blt pc 45 then (bif Nat.beq pc 44 then some (.iload_n 2, 0) else none) else (bif Nat.blt pc 46 then (bif Nat.beq pc 45 then some (.aload_n 0, 0) else none) else (bif Nat.beq pc 46 then some (.getfield 119, 0) else none))) else (bif Nat.blt pc 52 then (bif Nat.beq pc 49 then some (.if_icmp .ge 24, 73) else none) else (bif Nat.blt pc 53 then (bif Nat.beq pc 52 then some (.aload_n 0, 0) else none) else (bif Nat.beq pc 53 then some (.getfield 16, 0) else none)))) else (bif Nat.blt pc 59 then (bif Nat.blt pc 57 then (bif Nat.beq pc 56 then some (.iload_n 2, 0) else none) else (bif Nat.blt pc 58 then (bif Nat.beq pc 57 then some (.iaload, 0) else none) else (bif Nat.beq pc 58 then some (.iload_n 1, 0) else none))) else (bif Nat.blt pc 62 then (bif Nat.beq pc 59 then some (.if_icmp .ne 8, 67) else none) else (bif Nat.blt pc 63 then (bif Nat.beq pc 62 then some (.aload_n 0, 0) else none) else (bif Nat.beq pc 63 then some (.iload_n 2, 0) else none))))) else (bif Nat.blt pc 78 then (bif Nat.blt pc 73 then (bif Nat.blt pc 67 then (bif Nat.beq pc 64 then some (.invokevirtual 204, 0) else none) else (bif Nat.blt pc 70 then (bif Nat.beq pc 67 then some (.iinc 2 1, 0) else none) else (bif Nat.beq pc 70 then some (.goto (-26), 44) else none))) else (bif Nat.blt pc 74 then (bif Nat.beq pc 73 then some (.aload_n 0, 0) else none) else (bif Nat.blt pc 75 then (bif Nat.beq pc 74 then some (.iload_n 1, 0) else none) else (bif Nat.beq pc 75 then some (.invokevirtual 207, 0) else none)))) else (bif Nat.blt pc 81 then (bif Nat.blt pc 79 then (bif Nat.beq pc 78 then some (.iconst 0, 0) else none) else (bif Nat.blt pc 80 then (bif Nat.beq pc 79 then some (.istore_n 2, 0) else none) else (bif Nat.beq pc 80 then some (.iload_n 2, 0) else none))) else (bif Nat.blt pc 86 then (bif Nat.blt pc 83 then (bif Nat.beq pc 81 then some (.bipush 12, 0) else none) else (bif Nat.beq pc 83 then some (.if_icmp .ge 72, 155) else none)) else (bif Nat.blt pc 87 then (bif Nat.beq pc 86 then some (.aload_n 0, 0) else none) else (bif Nat.beq pc 87 then some (.getfield 58, 0) else none))))))) else (bif Nat.blt pc 126 then (bif Nat.blt pc 109 then (bif Nat.blt pc 97 then (bif Nat.blt pc 94 then (bif Nat.blt pc 92 then (bif Nat.beq pc 90 then some (.bipush 12, 0) else none) else (bif Nat.blt pc 93 then (bif Nat.beq pc 92 then some (.iload_n 1, 0) else none) else (bif Nat.beq pc 93 then some (.imul, 0) else none))) else (bif Nat.blt pc 95 then (bif Nat.beq pc 94 then some (.iload_n 2, 0) else none) else (bif Nat.blt pc 96 then (bif Nat.beq pc 95 then some (.iadd, 0) else none) else (bif Nat.beq pc 96 then some (.iload_n 2, 0) else none)))) else (bif Nat.blt pc 104 then (bif Nat.blt pc 98 then (bif Nat.beq pc 97 then some (.aload_n 0, 0) else none) else (bif Nat.blt pc 101 then (bif Nat.beq pc 98 then some (.getfield 186, 0) else none) else (bif Nat.beq pc 101 then some (.if_icmp .ge 12, 113) else none))) else (bif Nat.blt pc 105 then (bif Nat.beq pc 104 then some (.aload_n 0, 0) else none) else (bif Nat.blt pc 108 then (bif Nat.beq pc 105 then some (.getfield 46, 0) else none) else (bif Nat.beq pc 108 then some (.iload_n 2, 0) else none))))) else (bif Nat.blt pc 119 then (bif Nat.blt pc 114 then (bif Nat.blt pc 110 then (bif Nat.beq pc 109 then some (.iaload, 0) else none) else (bif Nat.blt pc 113 then (bif Nat.beq pc 110 then some (.goto 4, 114) else none) else (bif Nat.beq pc 113 then some (.iconst (-1), 0) else none))) else (bif Nat.blt pc 115 then (bif Nat.beq pc 114 then some (.iastore, 0) else none) else (bif Nat.blt pc 116 then (bif Nat.beq pc 115 then some (.aload_n 0, 0) else none) else (bif Nat.beq pc 116 then some (.getfield 61, 0) else none)))) else (bif Nat.blt pc 123 then (bif Nat.blt pc 121 then (bif Nat.beq pc 119 then some (.bipush 12, 0) else none) else (bif Nat.blt pc 122 then (bif Nat.beq pc 121 then some (.iload_n 1, 0) else none) else (bif Nat.beq pc 122 then some (.imul, 0) else none))) else (bif Nat.blt pc 124 then (bif Nat.beq pc 123 then some (.iload_n 2, 0) else none) else (bif Nat.blt pc 125 then (bif Nat.beq pc 124 then some (.iadd, 0) else none) else (bif Nat.beq pc 125 then some (.aload_n 0, 0) else none)))))) else (bif Nat.blt pc 143 then (bif Nat.blt pc 136 then (bif Nat.blt pc 131 then (bif Nat.blt pc 129 then (bif Nat.beq pc 126 then some (.getfield 49, 0) else none) else (bif Nat.blt pc 130 then (bif Nat.beq pc 129 then some (.iload_n 2, 0) else none) else (bif Nat.beq pc 130 then some (.iaload, 0) else none))) else (bif Nat.blt pc 132 then (bif Nat.beq pc 131 then some (.iastore, 0) else none) else (bif Nat.blt pc 133 then (bif Nat.beq pc 132 then some (.aload_n 0, 0) else none) else (bif Nat.beq pc 133 then some (.getfield 64, 0) else none)))) else (bif Nat.blt pc 140 then (bif Nat.blt pc 138 then (bif Nat.beq pc 136 then some (.bipush 12, 0) else none) else (bif Nat.blt pc 139 then (bif Nat.beq pc 138 then some (.iload_n 1, 0) else none) else (bif Nat.beq pc 139 then some (.imul, 0) else none))) else (bif Nat.blt pc 141 then (bif Nat.beq pc 140 then some (.iload_n 2, 0) else none) else (bif Nat.blt pc 142 then (bif Nat.beq pc 141 then some (.iadd, 0) else none) else (bif Nat.beq pc 142 then some (.aload_n 0, 0) else none))))) else (bif Nat.blt pc 155 then (bif Nat.blt pc 148 then (bif Nat.blt pc 146 then (bif Nat.beq pc 143 then some (.getfield 52, 0) else none) else (bif Nat.blt pc 147 then (bif Nat.beq pc 146 then some (.iload_n 2, 0) else none) else (bif Nat.beq pc 147 then some (.iaload, 0) else none))) else (bif Nat.blt pc 149 then (bif Nat.beq pc 148 then some (.iastore, 0) else none) else (bif Nat.blt pc 152 then (bif Nat.beq pc 149 then some (.iinc 2 1, 0) else none) else (bif Nat.beq pc 152 then some (.goto (-72), 80) else none)))) else (bif Nat.blt pc 160 then (bif Nat.blt pc 156 then (bif Nat.beq pc 155 then some (.aload_n 0, 0) else none) else (bif Nat.blt pc 159 then (bif Nat.beq pc 156 then some (.getfield 67, 0) else none) else (bif Nat.beq pc 159 then some (.iload_n 1, 0) else none))) else (bif Nat.blt pc 164 then (bif Nat.blt pc 161 then (bif Nat.beq pc 160 then some (.aload_n 0, 0) else none) else (bif Nat.beq pc 161 then some (.getfield 186, 0) else none)) else (bif Nat.blt pc 165 then (bif Nat.beq pc 164 then some (.iastore, 0) else none) else (bif Nat.beq pc 165 then some (.return_, 0) else none)))))))
def MX7_goesBy : MI := (yX7_goesBy, cX7_goesBy, 3, none, 7, zTab 166 tX7_goesBy)
theorem kX7_goesBy : zTok MX7_goesBy := zTok_of 166 tX7_goesBy rfl (by decide +kernel)
theorem oX7_goesBy : zokM MX7_goesBy 1 = true := zokM_mk (z_in (List.mem_of_getElem? (i := 1092) (by decide +kernel)) rfl) z_ini7 (by decide +kernel)
theorem iX7_goesBy : zokI MX7_goesBy = true := zokI_mk (z_in (List.mem_of_getElem? (i := 1091) (by decide +kernel)) rfl) (z_in (List.mem_of_getElem? (i := 40) (by decide +kernel)) rfl)
def tX7_runs : Nat → Option (Instr × Nat) := fun pc => bif Nat.blt pc 37 then (bif Nat.blt pc 18 then (bif Nat.blt pc 7 then (bif Nat.blt pc 2 then (bif Nat.blt pc 1 then (bif Nat.beq pc 0 then some (.aload_n 0, 0) else none) else (bif Nat.beq pc 1 then some (.iconst 0, 0) else none)) else (bif Nat.blt pc 5 then (bif Nat.beq pc 2 then some (.putfield 186, 0) else none) else (bif Nat.blt pc 6 then (bif Nat.beq pc 5 then some (.iconst 0, 0) else none) else (bif Nat.beq pc 6 then some (.istore_n 1, 0) else none)))) else (bif Nat.blt pc 13 then (bif Nat.blt pc 8 then (bif Nat.beq pc 7 then some (.iload_n 1, 0) else none) else (bif Nat.blt pc 10 then (bif Nat.beq pc 8 then some (.bipush 12, 0) else none) else (bif Nat.beq pc 10 then some (.if_icmp .ge 47, 57) else none))) else (bif Nat.blt pc 14 then (bif Nat.beq pc 13 then some (.aload_n 0, 0) else none) else (bif Nat.blt pc 17 then (bif Nat.beq pc 14 then some (.getfield 49, 0) else none) else (bif Nat.beq pc 17 then some (.iload_n 1, 0) else none))))) else (bif Nat.blt pc 25 then (bif Nat.blt pc 20 then (bif Nat.blt pc 19 then (bif Nat.beq pc 18 then some (.iconst 0, 0) else none) else (bif Nat.beq pc 19 then some (.iastore, 0) else none)) else (bif Nat.blt pc 21 then (bif Nat.beq pc 20 then some (.aload_n 0, 0) else none) else (bif Nat.blt pc 24 then (bif Nat.beq pc 21 then some (.getfield 52, 0) else none) else (bif Nat.beq pc 24 then some (.iload_n 1, 0) else none)))) else (bif Nat.blt pc 30 then (bif Nat.blt pc 26 then (bif Nat.beq pc 25 then some (.iload_n 1, 0) else none) else (bif Nat.blt pc 27 then (bif Nat.beq pc 26 then some (.aload_n 0, 0) else none) else (bif Nat.beq pc 27 then some (.getfield 119, 0) else none))) else (bif Nat.blt pc 33 then (bif Nat.beq pc 30 then some (.if_icmp .ge 12, 42) else none) else (bif Nat.blt pc 34 then (bif Nat.beq pc 33 then some (.aload_n 0, 0) else none) else (bif Nat.beq pc 34 then some (.getfield 22, 0) else none)))))) else (bif Nat.blt pc 54 then (bif Nat.blt pc 44 then (bif Nat.blt pc 39 then (bif Nat.blt pc 38 then (bif Nat.beq pc 37 then some (.iload_n 1, 0) else none) else (bif Nat.beq pc 38 then some (.iaload, 0) else none)) else (bif Nat.blt pc 42 then (bif Nat.beq pc 39 then some (.goto 4, 43) else none) else (bif Nat.blt pc 43 then (bif Nat.beq pc 42 then some (.iconst 0, 0) else none) else (bif Nat.beq pc 43 then some (.iastore, 0) else none)))) else (bif Nat.blt pc 49 then (bif Nat.blt pc 45 then (bif Nat.beq pc 44 then some (.aload_n 0, 0) else none) else (bif Nat.blt pc 48 then (bif Nat.beq pc 45 then some (.getfield 55, 0) else none) else (bif Nat.beq pc 48 then some (.iload_n 1, 0) else none))) else (bif Nat.blt pc 50 then (bif Nat.beq pc 49 then some (.iconst (-1), 0) else none) else (bif Nat.blt pc 51 then (bif Nat.beq pc 50 then some (.iastore, 0) else none) else (bif Nat.beq pc 51 then some (.iinc 1 1, 0) else none))))) else (bif Nat.blt pc 65 then (bif Nat.blt pc 59 then (bif Nat.blt pc 57 then (bif Nat.beq pc 54 then some (.goto (-47), 7) else none) else (bif Nat.blt pc 58 then (bif Nat.beq pc 57 then some (.iconst 0, 0) else none) else (bif Nat.beq pc 58 then some (.istore_n 1, 0) else none))) else (bif Nat.blt pc 60 then (bif Nat.beq pc 59 then some (.iload_n 1, 0) else none) else (bif Nat.blt pc 62 then (bif Nat.beq pc 60 then some (.bipush 24, 0) else none) else (bif Nat.beq pc 62 then some (.if_icmp .ge 14, 76) else none)))) else (bif Nat.blt pc 70 then (bif Nat.blt pc 66 then (bif Nat.beq pc 65 then some (.aload_n 0, 0) else none) else (bif Nat.blt pc 67 then (bif Nat.beq pc 66 then some (.iload_n 1, 0) else none) else (bif Nat.beq pc 67 then some (.invokevirtual 210, 0) else none))) else (bif Nat.blt pc 73 then (bif Nat.beq pc 70 then some (.iinc 1 1, 0) else none) else (bif Nat.blt pc 76 then (bif Nat.beq pc 73 then some (.goto (-14), 59) else none) else (bif Nat.beq pc 76 then some (.return_, 0) else none))))))
def MX7_runs : MI := (yX7_runs, cX7_runs, 2, none, 7, zTab 77 tX7_runs)
theorem kX7_runs : zTok MX7_runs := zTok_of 77 tX7_runs rfl (by decide +kernel)
theorem oX7_runs : zokM MX7_runs 0 = true := zokM_mk (z_in (List.mem_of_getElem? (i := 1088) (by decide +kernel)) rfl) z_ini7 (by decide +kernel)
theorem iX7_runs : zokI MX7_runs = true := zokI_mk (z_in (List.mem_of_getElem? (i := 1087) (by decide +kernel)) rfl) (z_in (List.mem_of_getElem? (i := 39) (by decide +kernel)) rfl)
def tX7_runsTold : Nat → Option (Instr × Nat) := fun pc => bif Nat.blt pc 4 then (bif Nat.blt pc 1 then (bif Nat.beq pc 0 then some (.aload_n 0, 0) else none) else (bif Nat.beq pc 1 then some (.invokevirtual 213, 0) else none)) else (bif Nat.blt pc 5 then (bif Nat.beq pc 4 then some (.aload_n 0, 0) else none) else (bif Nat.blt pc 8 then (bif Nat.beq pc 5 then some (.invokevirtual 216, 0) else none) else (bif Nat.beq pc 8 then some (.return_, 0) else none)))
def MX7_runsTold : MI := (yX7_runsTold, cX7_runsTold, 1, none, 7, zTab 9 tX7_runsTold)
theorem kX7_runsTold : zTok MX7_runsTold := zTok_of 9 tX7_runsTold rfl (by decide +kernel)
theorem oX7_runsTold : zokM MX7_runsTold 0 = true := zokM_mk (z_in (List.mem_of_getElem? (i := 1080) (by decide +kernel)) rfl) z_ini7 (by decide +kernel)
theorem iX7_runsTold : zokI MX7_runsTold = true := zokI_mk (z_in (List.mem_of_getElem? (i := 1079) (by decide +kernel)) rfl) (z_in (List.mem_of_getElem? (i := 37) (by decide +kernel)) rfl)
def tX7_standsOf : Nat → Option (Instr × Nat) := fun pc => bif Nat.blt pc 10 then (bif Nat.blt pc 4 then (bif Nat.blt pc 1 then (bif Nat.beq pc 0 then some (.aload_n 0, 0) else none) else (bif Nat.beq pc 1 then some (.invokevirtual 219, 0) else none)) else (bif Nat.blt pc 5 then (bif Nat.beq pc 4 then some (.aload_n 0, 0) else none) else (bif Nat.blt pc 8 then (bif Nat.beq pc 5 then some (.getfield 58, 0) else none) else (bif Nat.beq pc 8 then some (.bipush 12, 0) else none)))) else (bif Nat.blt pc 13 then (bif Nat.blt pc 11 then (bif Nat.beq pc 10 then some (.iload_n 1, 0) else none) else (bif Nat.blt pc 12 then (bif Nat.beq pc 11 then some (.imul, 0) else none) else (bif Nat.beq pc 12 then some (.iload_n 2, 0) else none))) else (bif Nat.blt pc 14 then (bif Nat.beq pc 13 then some (.iadd, 0) else none) else (bif Nat.blt pc 15 then (bif Nat.beq pc 14 then some (.iaload, 0) else none) else (bif Nat.beq pc 15 then some (.ireturn, 0) else none))))
def MX7_standsOf : MI := (yX7_standsOf, cX7_standsOf, 3, (some .int), 7, zTab 16 tX7_standsOf)
theorem kX7_standsOf : zTok MX7_standsOf := zTok_of 16 tX7_standsOf rfl (by decide +kernel)
theorem oX7_standsOf : zokM MX7_standsOf 2 = true := zokM_mk (z_in (List.mem_of_getElem? (i := 1076) (by decide +kernel)) rfl) z_ini7 (by decide +kernel)
theorem iX7_standsOf : zokI MX7_standsOf = true := zokI_mk (z_in (List.mem_of_getElem? (i := 1075) (by decide +kernel)) rfl) (z_in (List.mem_of_getElem? (i := 36) (by decide +kernel)) rfl)
def tX7_stands : Nat → Option (Instr × Nat) := fun pc => bif Nat.blt pc 14 then (bif Nat.blt pc 7 then (bif Nat.blt pc 1 then (bif Nat.beq pc 0 then some (.iload_n 1, 0) else none) else (bif Nat.blt pc 4 then (bif Nat.beq pc 1 then some (.invokestatic 116, 0) else none) else (bif Nat.beq pc 4 then some (.ifCond .eq 19, 23) else none))) else (bif Nat.blt pc 8 then (bif Nat.beq pc 7 then some (.iload_n 2, 0) else none) else (bif Nat.blt pc 11 then (bif Nat.beq pc 8 then some (.invokestatic 158, 0) else none) else (bif Nat.beq pc 11 then some (.ifCond .eq 12, 23) else none)))) else (bif Nat.blt pc 17 then (bif Nat.blt pc 15 then (bif Nat.beq pc 14 then some (.aload_n 0, 0) else none) else (bif Nat.blt pc 16 then (bif Nat.beq pc 15 then some (.iload_n 1, 0) else none) else (bif Nat.beq pc 16 then some (.iload_n 2, 0) else none))) else (bif Nat.blt pc 23 then (bif Nat.blt pc 20 then (bif Nat.beq pc 17 then some (.invokevirtual 222, 0) else none) else (bif Nat.beq pc 20 then some (.goto 5, 25) else none)) else (bif Nat.blt pc 25 then (bif Nat.beq pc 23 then some (.bipush (-2), 0) else none) else (bif Nat.beq pc 25 then some (.ireturn, 0) else none))))
def MX7_stands : MI := (yX7_stands, cX7_stands, 3, (some .int), 7, zTab 26 tX7_stands)
theorem kX7_stands : zTok MX7_stands := zTok_of 26 tX7_stands rfl (by decide +kernel)
theorem oX7_stands : zokM MX7_stands 2 = true := zokM_mk (z_in (List.mem_of_getElem? (i := 1072) (by decide +kernel)) rfl) z_ini7 (by decide +kernel)
theorem iX7_stands : zokI MX7_stands = true := zokI_mk (z_in (List.mem_of_getElem? (i := 1070) (by decide +kernel)) rfl) (z_in (List.mem_of_getElem? (i := 1071) (by decide +kernel)) rfl)
def tX7_manyOf : Nat → Option (Instr × Nat) := fun pc => bif Nat.blt pc 5 then (bif Nat.blt pc 1 then (bif Nat.beq pc 0 then some (.aload_n 0, 0) else none) else (bif Nat.blt pc 4 then (bif Nat.beq pc 1 then some (.invokevirtual 219, 0) else none) else (bif Nat.beq pc 4 then some (.aload_n 0, 0) else none))) else (bif Nat.blt pc 9 then (bif Nat.blt pc 8 then (bif Nat.beq pc 5 then some (.getfield 67, 0) else none) else (bif Nat.beq pc 8 then some (.iload_n 1, 0) else none)) else (bif Nat.blt pc 10 then (bif Nat.beq pc 9 then some (.iaload, 0) else none) else (bif Nat.beq pc 10 then some (.ireturn, 0) else none)))
def MX7_manyOf : MI := (yX7_manyOf, cX7_manyOf, 2, (some .int), 7, zTab 11 tX7_manyOf)
theorem kX7_manyOf : zTok MX7_manyOf := zTok_of 11 tX7_manyOf rfl (by decide +kernel)
theorem oX7_manyOf : zokM MX7_manyOf 1 = true := zokM_mk (z_in (List.mem_of_getElem? (i := 1123) (by decide +kernel)) rfl) z_ini7 (by decide +kernel)
theorem iX7_manyOf : zokI MX7_manyOf = true := zokI_mk (z_in (List.mem_of_getElem? (i := 1122) (by decide +kernel)) rfl) (z_in (List.mem_of_getElem? (i := 46) (by decide +kernel)) rfl)
def tX7_many : Nat → Option (Instr × Nat) := fun pc => bif Nat.blt pc 8 then (bif Nat.blt pc 4 then (bif Nat.blt pc 1 then (bif Nat.beq pc 0 then some (.iload_n 1, 0) else none) else (bif Nat.beq pc 1 then some (.invokestatic 116, 0) else none)) else (bif Nat.blt pc 7 then (bif Nat.beq pc 4 then some (.ifCond .eq 11, 15) else none) else (bif Nat.beq pc 7 then some (.aload_n 0, 0) else none))) else (bif Nat.blt pc 12 then (bif Nat.blt pc 9 then (bif Nat.beq pc 8 then some (.iload_n 1, 0) else none) else (bif Nat.beq pc 9 then some (.invokevirtual 225, 0) else none)) else (bif Nat.blt pc 15 then (bif Nat.beq pc 12 then some (.goto 5, 17) else none) else (bif Nat.blt pc 17 then (bif Nat.beq pc 15 then some (.bipush (-2), 0) else none) else (bif Nat.beq pc 17 then some (.ireturn, 0) else none))))
def MX7_many : MI := (yX7_many, cX7_many, 2, (some .int), 7, zTab 18 tX7_many)
theorem kX7_many : zTok MX7_many := zTok_of 18 tX7_many rfl (by decide +kernel)
theorem oX7_many : zokM MX7_many 1 = true := zokM_mk (z_in (List.mem_of_getElem? (i := 1119) (by decide +kernel)) rfl) z_ini7 (by decide +kernel)
theorem iX7_many : zokI MX7_many = true := zokI_mk (z_in (List.mem_of_getElem? (i := 1117) (by decide +kernel)) rfl) (z_in (List.mem_of_getElem? (i := 1118) (by decide +kernel)) rfl)
def tX7_placeAt : Nat → Option (Instr × Nat) := fun pc => bif Nat.blt pc 20 then (bif Nat.blt pc 9 then (bif Nat.blt pc 3 then (bif Nat.blt pc 1 then (bif Nat.beq pc 0 then some (.iconst (-1), 0) else none) else (bif Nat.blt pc 2 then (bif Nat.beq pc 1 then some (.istore_n 3, 0) else none) else (bif Nat.beq pc 2 then some (.iconst 0, 0) else none))) else (bif Nat.blt pc 5 then (bif Nat.beq pc 3 then some (.istore 4, 0) else none) else (bif Nat.blt pc 7 then (bif Nat.beq pc 5 then some (.iload 4, 0) else none) else (bif Nat.beq pc 7 then some (.bipush 12, 0) else none)))) else (bif Nat.blt pc 16 then (bif Nat.blt pc 12 then (bif Nat.beq pc 9 then some (.if_icmp .ge 32, 41) else none) else (bif Nat.blt pc 13 then (bif Nat.beq pc 12 then some (.aload_n 0, 0) else none) else (bif Nat.beq pc 13 then some (.getfield 58, 0) else none))) else (bif Nat.blt pc 18 then (bif Nat.beq pc 16 then some (.bipush 12, 0) else none) else (bif Nat.blt pc 19 then (bif Nat.beq pc 18 then some (.iload_n 1, 0) else none) else (bif Nat.beq pc 19 then some (.imul, 0) else none))))) else (bif Nat.blt pc 30 then (bif Nat.blt pc 24 then (bif Nat.blt pc 22 then (bif Nat.beq pc 20 then some (.iload 4, 0) else none) else (bif Nat.blt pc 23 then (bif Nat.beq pc 22 then some (.iadd, 0) else none) else (bif Nat.beq pc 23 then some (.iaload, 0) else none))) else (bif Nat.blt pc 25 then (bif Nat.beq pc 24 then some (.iload_n 2, 0) else none) else (bif Nat.blt pc 28 then (bif Nat.beq pc 25 then some (.if_icmp .ne 8, 33) else none) else (bif Nat.beq pc 28 then some (.iload 4, 0) else none)))) else (bif Nat.blt pc 35 then (bif Nat.blt pc 33 then (bif Nat.beq pc 30 then some (.goto 4, 34) else none) else (bif Nat.blt pc 34 then (bif Nat.beq pc 33 then some (.iload_n 3, 0) else none) else (bif Nat.beq pc 34 then some (.istore_n 3, 0) else none))) else (bif Nat.blt pc 41 then (bif Nat.blt pc 38 then (bif Nat.beq pc 35 then some (.iinc 4 1, 0) else none) else (bif Nat.beq pc 38 then some (.goto (-33), 5) else none)) else (bif Nat.blt pc 42 then (bif Nat.beq pc 41 then some (.iload_n 3, 0) else none) else (bif Nat.beq pc 42 then some (.ireturn, 0) else none)))))
def MX7_placeAt : MI := (yX7_placeAt, cX7_placeAt, 5, (some .int), 7, zTab 43 tX7_placeAt)
theorem kX7_placeAt : zTok MX7_placeAt := zTok_of 43 tX7_placeAt rfl (by decide +kernel)
theorem oX7_placeAt : zokM MX7_placeAt 2 = true := zokM_mk (z_in (List.mem_of_getElem? (i := 1135) (by decide +kernel)) rfl) z_ini7 (by decide +kernel)
theorem iX7_placeAt : zokI MX7_placeAt = true := zokI_mk (z_in (List.mem_of_getElem? (i := 1134) (by decide +kernel)) rfl) (z_in (List.mem_of_getElem? (i := 48) (by decide +kernel)) rfl)
def tX7_atOf : Nat → Option (Instr × Nat) := fun pc => bif Nat.blt pc 24 then (bif Nat.blt pc 14 then (bif Nat.blt pc 5 then (bif Nat.blt pc 1 then (bif Nat.beq pc 0 then some (.aload_n 0, 0) else none) else (bif Nat.blt pc 4 then (bif Nat.beq pc 1 then some (.invokevirtual 219, 0) else none) else (bif Nat.beq pc 4 then some (.iload_n 3, 0) else none))) else (bif Nat.blt pc 9 then (bif Nat.blt pc 8 then (bif Nat.beq pc 5 then some (.ifCond .ne 17, 22) else none) else (bif Nat.beq pc 8 then some (.aload_n 0, 0) else none)) else (bif Nat.blt pc 12 then (bif Nat.beq pc 9 then some (.getfield 61, 0) else none) else (bif Nat.beq pc 12 then some (.bipush 12, 0) else none)))) else (bif Nat.blt pc 18 then (bif Nat.blt pc 16 then (bif Nat.blt pc 15 then (bif Nat.beq pc 14 then some (.iload_n 1, 0) else none) else (bif Nat.beq pc 15 then some (.imul, 0) else none)) else (bif Nat.blt pc 17 then (bif Nat.beq pc 16 then some (.iload_n 2, 0) else none) else (bif Nat.beq pc 17 then some (.iadd, 0) else none))) else (bif Nat.blt pc 22 then (bif Nat.blt pc 19 then (bif Nat.beq pc 18 then some (.iaload, 0) else none) else (bif Nat.beq pc 19 then some (.goto 28, 47) else none)) else (bif Nat.blt pc 23 then (bif Nat.beq pc 22 then some (.iload_n 3, 0) else none) else (bif Nat.beq pc 23 then some (.iconst 1, 0) else none))))) else (bif Nat.blt pc 37 then (bif Nat.blt pc 29 then (bif Nat.blt pc 27 then (bif Nat.beq pc 24 then some (.if_icmp .ne 12, 36) else none) else (bif Nat.blt pc 28 then (bif Nat.beq pc 27 then some (.aload_n 0, 0) else none) else (bif Nat.beq pc 28 then some (.iload_n 1, 0) else none))) else (bif Nat.blt pc 33 then (bif Nat.blt pc 30 then (bif Nat.beq pc 29 then some (.iload_n 2, 0) else none) else (bif Nat.beq pc 30 then some (.invokevirtual 228, 0) else none)) else (bif Nat.blt pc 36 then (bif Nat.beq pc 33 then some (.goto 14, 47) else none) else (bif Nat.beq pc 36 then some (.aload_n 0, 0) else none)))) else (bif Nat.blt pc 44 then (bif Nat.blt pc 42 then (bif Nat.blt pc 40 then (bif Nat.beq pc 37 then some (.getfield 64, 0) else none) else (bif Nat.beq pc 40 then some (.bipush 12, 0) else none)) else (bif Nat.blt pc 43 then (bif Nat.beq pc 42 then some (.iload_n 1, 0) else none) else (bif Nat.beq pc 43 then some (.imul, 0) else none))) else (bif Nat.blt pc 46 then (bif Nat.blt pc 45 then (bif Nat.beq pc 44 then some (.iload_n 2, 0) else none) else (bif Nat.beq pc 45 then some (.iadd, 0) else none)) else (bif Nat.blt pc 47 then (bif Nat.beq pc 46 then some (.iaload, 0) else none) else (bif Nat.beq pc 47 then some (.ireturn, 0) else none)))))
def MX7_atOf : MI := (yX7_atOf, cX7_atOf, 4, (some .int), 7, zTab 48 tX7_atOf)
theorem kX7_atOf : zTok MX7_atOf := zTok_of 48 tX7_atOf rfl (by decide +kernel)
theorem oX7_atOf : zokM MX7_atOf 3 = true := zokM_mk (z_in (List.mem_of_getElem? (i := 1131) (by decide +kernel)) rfl) z_ini7 (by decide +kernel)
theorem iX7_atOf : zokI MX7_atOf = true := zokI_mk (z_in (List.mem_of_getElem? (i := 1130) (by decide +kernel)) rfl) (z_in (List.mem_of_getElem? (i := 47) (by decide +kernel)) rfl)
def tX7_at : Nat → Option (Instr × Nat) := fun pc => bif Nat.blt pc 19 then (bif Nat.blt pc 8 then (bif Nat.blt pc 4 then (bif Nat.blt pc 1 then (bif Nat.beq pc 0 then some (.iload_n 1, 0) else none) else (bif Nat.beq pc 1 then some (.invokestatic 116, 0) else none)) else (bif Nat.blt pc 7 then (bif Nat.beq pc 4 then some (.ifCond .eq 28, 32) else none) else (bif Nat.beq pc 7 then some (.aload_n 0, 0) else none))) else (bif Nat.blt pc 12 then (bif Nat.blt pc 9 then (bif Nat.beq pc 8 then some (.iload_n 2, 0) else none) else (bif Nat.beq pc 9 then some (.invokevirtual 146, 0) else none)) else (bif Nat.blt pc 15 then (bif Nat.beq pc 12 then some (.ifCond .eq 20, 32) else none) else (bif Nat.blt pc 16 then (bif Nat.beq pc 15 then some (.iload_n 3, 0) else none) else (bif Nat.beq pc 16 then some (.invokestatic 149, 0) else none))))) else (bif Nat.blt pc 25 then (bif Nat.blt pc 23 then (bif Nat.blt pc 22 then (bif Nat.beq pc 19 then some (.ifCond .eq 13, 32) else none) else (bif Nat.beq pc 22 then some (.aload_n 0, 0) else none)) else (bif Nat.blt pc 24 then (bif Nat.beq pc 23 then some (.iload_n 1, 0) else none) else (bif Nat.beq pc 24 then some (.iload_n 2, 0) else none))) else (bif Nat.blt pc 29 then (bif Nat.blt pc 26 then (bif Nat.beq pc 25 then some (.iload_n 3, 0) else none) else (bif Nat.beq pc 26 then some (.invokevirtual 231, 0) else none)) else (bif Nat.blt pc 32 then (bif Nat.beq pc 29 then some (.goto 5, 34) else none) else (bif Nat.blt pc 34 then (bif Nat.beq pc 32 then some (.bipush (-2), 0) else none) else (bif Nat.beq pc 34 then some (.ireturn, 0) else none)))))
def MX7_at : MI := (yX7_at, cX7_at, 4, (some .int), 7, zTab 35 tX7_at)
theorem kX7_at : zTok MX7_at := zTok_of 35 tX7_at rfl (by decide +kernel)
theorem oX7_at : zokM MX7_at 3 = true := zokM_mk (z_in (List.mem_of_getElem? (i := 1127) (by decide +kernel)) rfl) z_ini7 (by decide +kernel)
theorem iX7_at : zokI MX7_at = true := zokI_mk (z_in (List.mem_of_getElem? (i := 1125) (by decide +kernel)) rfl) (z_in (List.mem_of_getElem? (i := 1126) (by decide +kernel)) rfl)
def tX7_apartOf : Nat → Option (Instr × Nat) := fun pc => bif Nat.blt pc 29 then (bif Nat.blt pc 13 then (bif Nat.blt pc 6 then (bif Nat.blt pc 4 then (bif Nat.blt pc 1 then (bif Nat.beq pc 0 then some (.aload_n 0, 0) else none) else (bif Nat.beq pc 1 then some (.invokevirtual 219, 0) else none)) else (bif Nat.blt pc 5 then (bif Nat.beq pc 4 then some (.aload_n 0, 0) else none) else (bif Nat.beq pc 5 then some (.iload_n 1, 0) else none))) else (bif Nat.blt pc 10 then (bif Nat.blt pc 7 then (bif Nat.beq pc 6 then some (.iload_n 2, 0) else none) else (bif Nat.beq pc 7 then some (.invokevirtual 228, 0) else none)) else (bif Nat.blt pc 12 then (bif Nat.beq pc 10 then some (.istore 4, 0) else none) else (bif Nat.beq pc 12 then some (.aload_n 0, 0) else none)))) else (bif Nat.blt pc 20 then (bif Nat.blt pc 15 then (bif Nat.blt pc 14 then (bif Nat.beq pc 13 then some (.iload_n 1, 0) else none) else (bif Nat.beq pc 14 then some (.iload_n 3, 0) else none)) else (bif Nat.blt pc 18 then (bif Nat.beq pc 15 then some (.invokevirtual 228, 0) else none) else (bif Nat.beq pc 18 then some (.istore 5, 0) else none))) else (bif Nat.blt pc 23 then (bif Nat.blt pc 22 then (bif Nat.beq pc 20 then some (.iload 4, 0) else none) else (bif Nat.beq pc 22 then some (.iconst (-1), 0) else none)) else (bif Nat.blt pc 26 then (bif Nat.beq pc 23 then some (.if_icmp .eq 9, 32) else none) else (bif Nat.blt pc 28 then (bif Nat.beq pc 26 then some (.iload 5, 0) else none) else (bif Nat.beq pc 28 then some (.iconst (-1), 0) else none)))))) else (bif Nat.blt pc 48 then (bif Nat.blt pc 38 then (bif Nat.blt pc 33 then (bif Nat.blt pc 32 then (bif Nat.beq pc 29 then some (.if_icmp .ne 7, 36) else none) else (bif Nat.beq pc 32 then some (.iconst (-1), 0) else none)) else (bif Nat.blt pc 36 then (bif Nat.beq pc 33 then some (.goto 27, 60) else none) else (bif Nat.beq pc 36 then some (.iload 4, 0) else none))) else (bif Nat.blt pc 43 then (bif Nat.blt pc 40 then (bif Nat.beq pc 38 then some (.iload 5, 0) else none) else (bif Nat.beq pc 40 then some (.if_icmp .le 13, 53) else none)) else (bif Nat.blt pc 45 then (bif Nat.beq pc 43 then some (.iload 4, 0) else none) else (bif Nat.blt pc 47 then (bif Nat.beq pc 45 then some (.iload 5, 0) else none) else (bif Nat.beq pc 47 then some (.isub, 0) else none))))) else (bif Nat.blt pc 55 then (bif Nat.blt pc 50 then (bif Nat.blt pc 49 then (bif Nat.beq pc 48 then some (.iconst 1, 0) else none) else (bif Nat.beq pc 49 then some (.isub, 0) else none)) else (bif Nat.blt pc 53 then (bif Nat.beq pc 50 then some (.goto 10, 60) else none) else (bif Nat.beq pc 53 then some (.iload 5, 0) else none))) else (bif Nat.blt pc 58 then (bif Nat.blt pc 57 then (bif Nat.beq pc 55 then some (.iload 4, 0) else none) else (bif Nat.beq pc 57 then some (.isub, 0) else none)) else (bif Nat.blt pc 59 then (bif Nat.beq pc 58 then some (.iconst 1, 0) else none) else (bif Nat.blt pc 60 then (bif Nat.beq pc 59 then some (.isub, 0) else none) else (bif Nat.beq pc 60 then some (.ireturn, 0) else none))))))
def MX7_apartOf : MI := (yX7_apartOf, cX7_apartOf, 6, (some .int), 7, zTab 61 tX7_apartOf)
theorem kX7_apartOf : zTok MX7_apartOf := zTok_of 61 tX7_apartOf rfl (by decide +kernel)
theorem oX7_apartOf : zokM MX7_apartOf 3 = true := zokM_mk (z_in (List.mem_of_getElem? (i := 1143) (by decide +kernel)) rfl) z_ini7 (by decide +kernel)
theorem iX7_apartOf : zokI MX7_apartOf = true := zokI_mk (z_in (List.mem_of_getElem? (i := 1142) (by decide +kernel)) rfl) (z_in (List.mem_of_getElem? (i := 49) (by decide +kernel)) rfl)
def tX7_apart : Nat → Option (Instr × Nat) := fun pc => bif Nat.blt pc 23 then (bif Nat.blt pc 9 then (bif Nat.blt pc 4 then (bif Nat.blt pc 1 then (bif Nat.beq pc 0 then some (.iload_n 1, 0) else none) else (bif Nat.beq pc 1 then some (.invokestatic 116, 0) else none)) else (bif Nat.blt pc 7 then (bif Nat.beq pc 4 then some (.ifCond .eq 34, 38) else none) else (bif Nat.blt pc 8 then (bif Nat.beq pc 7 then some (.aload_n 0, 0) else none) else (bif Nat.beq pc 8 then some (.iload_n 2, 0) else none)))) else (bif Nat.blt pc 16 then (bif Nat.blt pc 12 then (bif Nat.beq pc 9 then some (.invokevirtual 146, 0) else none) else (bif Nat.blt pc 15 then (bif Nat.beq pc 12 then some (.ifCond .eq 26, 38) else none) else (bif Nat.beq pc 15 then some (.aload_n 0, 0) else none))) else (bif Nat.blt pc 17 then (bif Nat.beq pc 16 then some (.iload_n 3, 0) else none) else (bif Nat.blt pc 20 then (bif Nat.beq pc 17 then some (.invokevirtual 146, 0) else none) else (bif Nat.beq pc 20 then some (.ifCond .eq 18, 38) else none))))) else (bif Nat.blt pc 30 then (bif Nat.blt pc 25 then (bif Nat.blt pc 24 then (bif Nat.beq pc 23 then some (.iload_n 2, 0) else none) else (bif Nat.beq pc 24 then some (.iload_n 3, 0) else none)) else (bif Nat.blt pc 28 then (bif Nat.beq pc 25 then some (.if_icmp .eq 13, 38) else none) else (bif Nat.blt pc 29 then (bif Nat.beq pc 28 then some (.aload_n 0, 0) else none) else (bif Nat.beq pc 29 then some (.iload_n 1, 0) else none)))) else (bif Nat.blt pc 35 then (bif Nat.blt pc 31 then (bif Nat.beq pc 30 then some (.iload_n 2, 0) else none) else (bif Nat.blt pc 32 then (bif Nat.beq pc 31 then some (.iload_n 3, 0) else none) else (bif Nat.beq pc 32 then some (.invokevirtual 234, 0) else none))) else (bif Nat.blt pc 38 then (bif Nat.beq pc 35 then some (.goto 5, 40) else none) else (bif Nat.blt pc 40 then (bif Nat.beq pc 38 then some (.bipush (-2), 0) else none) else (bif Nat.beq pc 40 then some (.ireturn, 0) else none)))))
def MX7_apart : MI := (yX7_apart, cX7_apart, 4, (some .int), 7, zTab 41 tX7_apart)
theorem kX7_apart : zTok MX7_apart := zTok_of 41 tX7_apart rfl (by decide +kernel)
theorem oX7_apart : zokM MX7_apart 3 = true := zokM_mk (z_in (List.mem_of_getElem? (i := 1139) (by decide +kernel)) rfl) z_ini7 (by decide +kernel)
theorem iX7_apart : zokI MX7_apart = true := zokI_mk (z_in (List.mem_of_getElem? (i := 1137) (by decide +kernel)) rfl) (z_in (List.mem_of_getElem? (i := 1138) (by decide +kernel)) rfl)
def tX7_stoodNow : Nat → Option (Instr × Nat) := fun pc => bif Nat.blt pc 19 then (bif Nat.blt pc 7 then (bif Nat.blt pc 3 then (bif Nat.blt pc 1 then (bif Nat.beq pc 0 then some (.iconst 0, 0) else none) else (bif Nat.blt pc 2 then (bif Nat.beq pc 1 then some (.istore_n 2, 0) else none) else (bif Nat.beq pc 2 then some (.iconst 0, 0) else none))) else (bif Nat.blt pc 4 then (bif Nat.beq pc 3 then some (.istore_n 3, 0) else none) else (bif Nat.blt pc 5 then (bif Nat.beq pc 4 then some (.iload_n 3, 0) else none) else (bif Nat.beq pc 5 then some (.bipush 24, 0) else none)))) else (bif Nat.blt pc 12 then (bif Nat.blt pc 10 then (bif Nat.beq pc 7 then some (.if_icmp .ge 32, 39) else none) else (bif Nat.blt pc 11 then (bif Nat.beq pc 10 then some (.iload_n 2, 0) else none) else (bif Nat.beq pc 11 then some (.aload_n 0, 0) else none))) else (bif Nat.blt pc 17 then (bif Nat.blt pc 15 then (bif Nat.beq pc 12 then some (.getfield 61, 0) else none) else (bif Nat.beq pc 15 then some (.bipush 12, 0) else none)) else (bif Nat.blt pc 18 then (bif Nat.beq pc 17 then some (.iload_n 3, 0) else none) else (bif Nat.beq pc 18 then some (.imul, 0) else none))))) else (bif Nat.blt pc 30 then (bif Nat.blt pc 22 then (bif Nat.blt pc 20 then (bif Nat.beq pc 19 then some (.iload_n 1, 0) else none) else (bif Nat.blt pc 21 then (bif Nat.beq pc 20 then some (.iadd, 0) else none) else (bif Nat.beq pc 21 then some (.iaload, 0) else none))) else (bif Nat.blt pc 26 then (bif Nat.blt pc 23 then (bif Nat.beq pc 22 then some (.iconst 1, 0) else none) else (bif Nat.beq pc 23 then some (.if_icmp .ne 7, 30) else none)) else (bif Nat.blt pc 27 then (bif Nat.beq pc 26 then some (.iconst 1, 0) else none) else (bif Nat.beq pc 27 then some (.goto 4, 31) else none)))) else (bif Nat.blt pc 33 then (bif Nat.blt pc 31 then (bif Nat.beq pc 30 then some (.iconst 0, 0) else none) else (bif Nat.blt pc 32 then (bif Nat.beq pc 31 then some (.iadd, 0) else none) else (bif Nat.beq pc 32 then some (.istore_n 2, 0) else none))) else (bif Nat.blt pc 39 then (bif Nat.blt pc 36 then (bif Nat.beq pc 33 then some (.iinc 3 1, 0) else none) else (bif Nat.beq pc 36 then some (.goto (-32), 4) else none)) else (bif Nat.blt pc 40 then (bif Nat.beq pc 39 then some (.iload_n 2, 0) else none) else (bif Nat.beq pc 40 then some (.ireturn, 0) else none)))))
def MX7_stoodNow : MI := (yX7_stoodNow, cX7_stoodNow, 4, (some .int), 7, zTab 41 tX7_stoodNow)
theorem kX7_stoodNow : zTok MX7_stoodNow := zTok_of 41 tX7_stoodNow rfl (by decide +kernel)
theorem oX7_stoodNow : zokM MX7_stoodNow 1 = true := zokM_mk (z_in (List.mem_of_getElem? (i := 1155) (by decide +kernel)) rfl) z_ini7 (by decide +kernel)
theorem iX7_stoodNow : zokI MX7_stoodNow = true := zokI_mk (z_in (List.mem_of_getElem? (i := 1154) (by decide +kernel)) rfl) (z_in (List.mem_of_getElem? (i := 51) (by decide +kernel)) rfl)
def tX7_movesNow : Nat → Option (Instr × Nat) := fun pc => bif Nat.blt pc 28 then (bif Nat.blt pc 12 then (bif Nat.blt pc 4 then (bif Nat.blt pc 2 then (bif Nat.blt pc 1 then (bif Nat.beq pc 0 then some (.iconst 0, 0) else none) else (bif Nat.beq pc 1 then some (.istore_n 2, 0) else none)) else (bif Nat.blt pc 3 then (bif Nat.beq pc 2 then some (.iconst 1, 0) else none) else (bif Nat.beq pc 3 then some (.istore_n 3, 0) else none))) else (bif Nat.blt pc 7 then (bif Nat.blt pc 5 then (bif Nat.beq pc 4 then some (.iload_n 3, 0) else none) else (bif Nat.beq pc 5 then some (.bipush 24, 0) else none)) else (bif Nat.blt pc 10 then (bif Nat.beq pc 7 then some (.if_icmp .ge 54, 61) else none) else (bif Nat.blt pc 11 then (bif Nat.beq pc 10 then some (.aload_n 0, 0) else none) else (bif Nat.beq pc 11 then some (.iload_n 3, 0) else none))))) else (bif Nat.blt pc 20 then (bif Nat.blt pc 14 then (bif Nat.blt pc 13 then (bif Nat.beq pc 12 then some (.iconst 1, 0) else none) else (bif Nat.beq pc 13 then some (.isub, 0) else none)) else (bif Nat.blt pc 15 then (bif Nat.beq pc 14 then some (.iload_n 1, 0) else none) else (bif Nat.blt pc 18 then (bif Nat.beq pc 15 then some (.invokevirtual 228, 0) else none) else (bif Nat.beq pc 18 then some (.istore 4, 0) else none)))) else (bif Nat.blt pc 22 then (bif Nat.blt pc 21 then (bif Nat.beq pc 20 then some (.aload_n 0, 0) else none) else (bif Nat.beq pc 21 then some (.iload_n 3, 0) else none)) else (bif Nat.blt pc 23 then (bif Nat.beq pc 22 then some (.iload_n 1, 0) else none) else (bif Nat.blt pc 26 then (bif Nat.beq pc 23 then some (.invokevirtual 228, 0) else none) else (bif Nat.beq pc 26 then some (.istore 5, 0) else none)))))) else (bif Nat.blt pc 45 then (bif Nat.blt pc 35 then (bif Nat.blt pc 31 then (bif Nat.blt pc 29 then (bif Nat.beq pc 28 then some (.iload_n 2, 0) else none) else (bif Nat.beq pc 29 then some (.iload 4, 0) else none)) else (bif Nat.blt pc 32 then (bif Nat.beq pc 31 then some (.iconst (-1), 0) else none) else (bif Nat.beq pc 32 then some (.if_icmp .eq 20, 52) else none))) else (bif Nat.blt pc 38 then (bif Nat.blt pc 37 then (bif Nat.beq pc 35 then some (.iload 5, 0) else none) else (bif Nat.beq pc 37 then some (.iconst (-1), 0) else none)) else (bif Nat.blt pc 41 then (bif Nat.beq pc 38 then some (.if_icmp .eq 14, 52) else none) else (bif Nat.blt pc 43 then (bif Nat.beq pc 41 then some (.iload 4, 0) else none) else (bif Nat.beq pc 43 then some (.iload 5, 0) else none))))) else (bif Nat.blt pc 54 then (bif Nat.blt pc 49 then (bif Nat.blt pc 48 then (bif Nat.beq pc 45 then some (.if_icmp .eq 7, 52) else none) else (bif Nat.beq pc 48 then some (.iconst 1, 0) else none)) else (bif Nat.blt pc 52 then (bif Nat.beq pc 49 then some (.goto 4, 53) else none) else (bif Nat.blt pc 53 then (bif Nat.beq pc 52 then some (.iconst 0, 0) else none) else (bif Nat.beq pc 53 then some (.iadd, 0) else none)))) else (bif Nat.blt pc 58 then (bif Nat.blt pc 55 then (bif Nat.beq pc 54 then some (.istore_n 2, 0) else none) else (bif Nat.beq pc 55 then some (.iinc 3 1, 0) else none)) else (bif Nat.blt pc 61 then (bif Nat.beq pc 58 then some (.goto (-54), 4) else none) else (bif Nat.blt pc 62 then (bif Nat.beq pc 61 then some (.iload_n 2, 0) else none) else (bif Nat.beq pc 62 then some (.ireturn, 0) else none))))))
def MX7_movesNow : MI := (yX7_movesNow, cX7_movesNow, 6, (some .int), 7, zTab 63 tX7_movesNow)
theorem kX7_movesNow : zTok MX7_movesNow := zTok_of 63 tX7_movesNow rfl (by decide +kernel)
theorem oX7_movesNow : zokM MX7_movesNow 1 = true := zokM_mk (z_in (List.mem_of_getElem? (i := 1159) (by decide +kernel)) rfl) z_ini7 (by decide +kernel)
theorem iX7_movesNow : zokI MX7_movesNow = true := zokI_mk (z_in (List.mem_of_getElem? (i := 1158) (by decide +kernel)) rfl) (z_in (List.mem_of_getElem? (i := 52) (by decide +kernel)) rfl)
def tX7_doneOf : Nat → Option (Instr × Nat) := fun pc => bif Nat.blt pc 18 then (bif Nat.blt pc 9 then (bif Nat.blt pc 4 then (bif Nat.blt pc 1 then (bif Nat.beq pc 0 then some (.aload_n 0, 0) else none) else (bif Nat.beq pc 1 then some (.invokevirtual 219, 0) else none)) else (bif Nat.blt pc 5 then (bif Nat.beq pc 4 then some (.iload_n 2, 0) else none) else (bif Nat.blt pc 8 then (bif Nat.beq pc 5 then some (.ifCond .ne 12, 17) else none) else (bif Nat.beq pc 8 then some (.aload_n 0, 0) else none)))) else (bif Nat.blt pc 13 then (bif Nat.blt pc 12 then (bif Nat.beq pc 9 then some (.getfield 55, 0) else none) else (bif Nat.beq pc 12 then some (.iload_n 1, 0) else none)) else (bif Nat.blt pc 14 then (bif Nat.beq pc 13 then some (.iaload, 0) else none) else (bif Nat.blt pc 17 then (bif Nat.beq pc 14 then some (.goto 21, 35) else none) else (bif Nat.beq pc 17 then some (.iload_n 2, 0) else none))))) else (bif Nat.blt pc 27 then (bif Nat.blt pc 22 then (bif Nat.blt pc 19 then (bif Nat.beq pc 18 then some (.iconst 1, 0) else none) else (bif Nat.beq pc 19 then some (.if_icmp .ne 11, 30) else none)) else (bif Nat.blt pc 23 then (bif Nat.beq pc 22 then some (.aload_n 0, 0) else none) else (bif Nat.blt pc 24 then (bif Nat.beq pc 23 then some (.iload_n 1, 0) else none) else (bif Nat.beq pc 24 then some (.invokevirtual 237, 0) else none)))) else (bif Nat.blt pc 31 then (bif Nat.blt pc 30 then (bif Nat.beq pc 27 then some (.goto 8, 35) else none) else (bif Nat.beq pc 30 then some (.aload_n 0, 0) else none)) else (bif Nat.blt pc 32 then (bif Nat.beq pc 31 then some (.iload_n 1, 0) else none) else (bif Nat.blt pc 35 then (bif Nat.beq pc 32 then some (.invokevirtual 240, 0) else none) else (bif Nat.beq pc 35 then some (.ireturn, 0) else none)))))
def MX7_doneOf : MI := (yX7_doneOf, cX7_doneOf, 3, (some .int), 7, zTab 36 tX7_doneOf)
theorem kX7_doneOf : zTok MX7_doneOf := zTok_of 36 tX7_doneOf rfl (by decide +kernel)
theorem oX7_doneOf : zokM MX7_doneOf 2 = true := zokM_mk (z_in (List.mem_of_getElem? (i := 1151) (by decide +kernel)) rfl) z_ini7 (by decide +kernel)
theorem iX7_doneOf : zokI MX7_doneOf = true := zokI_mk (z_in (List.mem_of_getElem? (i := 1150) (by decide +kernel)) rfl) (z_in (List.mem_of_getElem? (i := 50) (by decide +kernel)) rfl)
def tX7_done : Nat → Option (Instr × Nat) := fun pc => bif Nat.blt pc 15 then (bif Nat.blt pc 5 then (bif Nat.blt pc 1 then (bif Nat.beq pc 0 then some (.aload_n 0, 0) else none) else (bif Nat.blt pc 2 then (bif Nat.beq pc 1 then some (.iload_n 1, 0) else none) else (bif Nat.beq pc 2 then some (.invokevirtual 146, 0) else none))) else (bif Nat.blt pc 9 then (bif Nat.blt pc 8 then (bif Nat.beq pc 5 then some (.ifCond .eq 19, 24) else none) else (bif Nat.beq pc 8 then some (.iload_n 2, 0) else none)) else (bif Nat.blt pc 12 then (bif Nat.beq pc 9 then some (.invokestatic 149, 0) else none) else (bif Nat.beq pc 12 then some (.ifCond .eq 12, 24) else none)))) else (bif Nat.blt pc 18 then (bif Nat.blt pc 16 then (bif Nat.beq pc 15 then some (.aload_n 0, 0) else none) else (bif Nat.blt pc 17 then (bif Nat.beq pc 16 then some (.iload_n 1, 0) else none) else (bif Nat.beq pc 17 then some (.iload_n 2, 0) else none))) else (bif Nat.blt pc 24 then (bif Nat.blt pc 21 then (bif Nat.beq pc 18 then some (.invokevirtual 243, 0) else none) else (bif Nat.beq pc 21 then some (.goto 5, 26) else none)) else (bif Nat.blt pc 26 then (bif Nat.beq pc 24 then some (.bipush (-2), 0) else none) else (bif Nat.beq pc 26 then some (.ireturn, 0) else none))))
def MX7_done : MI := (yX7_done, cX7_done, 3, (some .int), 7, zTab 27 tX7_done)
theorem kX7_done : zTok MX7_done := zTok_of 27 tX7_done rfl (by decide +kernel)
theorem oX7_done : zokM MX7_done 2 = true := zokM_mk (z_in (List.mem_of_getElem? (i := 1147) (by decide +kernel)) rfl) z_ini7 (by decide +kernel)
theorem iX7_done : zokI MX7_done = true := zokI_mk (z_in (List.mem_of_getElem? (i := 1145) (by decide +kernel)) rfl) (z_in (List.mem_of_getElem? (i := 1146) (by decide +kernel)) rfl)
def tX7_alfredOf : Nat → Option (Instr × Nat) := fun pc => bif Nat.blt pc 54 then (bif Nat.blt pc 24 then (bif Nat.blt pc 9 then (bif Nat.blt pc 5 then (bif Nat.blt pc 1 then (bif Nat.beq pc 0 then some (.aload_n 0, 0) else none) else (bif Nat.blt pc 4 then (bif Nat.beq pc 1 then some (.invokevirtual 219, 0) else none) else (bif Nat.beq pc 4 then some (.iconst (-1), 0) else none))) else (bif Nat.blt pc 7 then (bif Nat.blt pc 6 then (bif Nat.beq pc 5 then some (.istore_n 2, 0) else none) else (bif Nat.beq pc 6 then some (.iconst 0, 0) else none)) else (bif Nat.blt pc 8 then (bif Nat.beq pc 7 then some (.istore_n 3, 0) else none) else (bif Nat.beq pc 8 then some (.iconst 0, 0) else none)))) else (bif Nat.blt pc 17 then (bif Nat.blt pc 13 then (bif Nat.blt pc 11 then (bif Nat.beq pc 9 then some (.istore 4, 0) else none) else (bif Nat.beq pc 11 then some (.iload 4, 0) else none)) else (bif Nat.blt pc 14 then (bif Nat.beq pc 13 then some (.aload_n 0, 0) else none) else (bif Nat.beq pc 14 then some (.getfield 119, 0) else none))) else (bif Nat.blt pc 21 then (bif Nat.blt pc 20 then (bif Nat.beq pc 17 then some (.if_icmp .ge 79, 96) else none) else (bif Nat.beq pc 20 then some (.iconst 0, 0) else none)) else (bif Nat.blt pc 23 then (bif Nat.beq pc 21 then some (.istore 5, 0) else none) else (bif Nat.beq pc 23 then some (.iconst 0, 0) else none))))) else (bif Nat.blt pc 39 then (bif Nat.blt pc 30 then (bif Nat.blt pc 26 then (bif Nat.beq pc 24 then some (.istore 6, 0) else none) else (bif Nat.blt pc 28 then (bif Nat.beq pc 26 then some (.iload 6, 0) else none) else (bif Nat.beq pc 28 then some (.bipush 24, 0) else none))) else (bif Nat.blt pc 35 then (bif Nat.blt pc 33 then (bif Nat.beq pc 30 then some (.if_icmp .ge 34, 64) else none) else (bif Nat.beq pc 33 then some (.iload 5, 0) else none)) else (bif Nat.blt pc 36 then (bif Nat.beq pc 35 then some (.aload_n 0, 0) else none) else (bif Nat.beq pc 36 then some (.getfield 58, 0) else none)))) else (bif Nat.blt pc 45 then (bif Nat.blt pc 43 then (bif Nat.blt pc 41 then (bif Nat.beq pc 39 then some (.bipush 12, 0) else none) else (bif Nat.beq pc 41 then some (.iload 6, 0) else none)) else (bif Nat.blt pc 44 then (bif Nat.beq pc 43 then some (.imul, 0) else none) else (bif Nat.beq pc 44 then some (.iaload, 0) else none))) else (bif Nat.blt pc 50 then (bif Nat.blt pc 47 then (bif Nat.beq pc 45 then some (.iload 4, 0) else none) else (bif Nat.beq pc 47 then some (.if_icmp .ne 7, 54) else none)) else (bif Nat.blt pc 51 then (bif Nat.beq pc 50 then some (.iconst 1, 0) else none) else (bif Nat.beq pc 51 then some (.goto 4, 55) else none)))))) else (bif Nat.blt pc 83 then (bif Nat.blt pc 67 then (bif Nat.blt pc 58 then (bif Nat.blt pc 55 then (bif Nat.beq pc 54 then some (.iconst 0, 0) else none) else (bif Nat.blt pc 56 then (bif Nat.beq pc 55 then some (.iadd, 0) else none) else (bif Nat.beq pc 56 then some (.istore 5, 0) else none))) else (bif Nat.blt pc 64 then (bif Nat.blt pc 61 then (bif Nat.beq pc 58 then some (.iinc 6 1, 0) else none) else (bif Nat.beq pc 61 then some (.goto (-35), 26) else none)) else (bif Nat.blt pc 66 then (bif Nat.beq pc 64 then some (.iload 5, 0) else none) else (bif Nat.beq pc 66 then some (.iload_n 3, 0) else none)))) else (bif Nat.blt pc 76 then (bif Nat.blt pc 72 then (bif Nat.blt pc 70 then (bif Nat.beq pc 67 then some (.if_icmp .le 8, 75) else none) else (bif Nat.beq pc 70 then some (.iload 4, 0) else none)) else (bif Nat.blt pc 75 then (bif Nat.beq pc 72 then some (.goto 4, 76) else none) else (bif Nat.beq pc 75 then some (.iload_n 2, 0) else none))) else (bif Nat.blt pc 79 then (bif Nat.blt pc 77 then (bif Nat.beq pc 76 then some (.istore_n 2, 0) else none) else (bif Nat.beq pc 77 then some (.iload 5, 0) else none)) else (bif Nat.blt pc 80 then (bif Nat.beq pc 79 then some (.iload_n 3, 0) else none) else (bif Nat.beq pc 80 then some (.if_icmp .le 8, 88) else none))))) else (bif Nat.blt pc 97 then (bif Nat.blt pc 89 then (bif Nat.blt pc 85 then (bif Nat.beq pc 83 then some (.iload 5, 0) else none) else (bif Nat.blt pc 88 then (bif Nat.beq pc 85 then some (.goto 4, 89) else none) else (bif Nat.beq pc 88 then some (.iload_n 3, 0) else none))) else (bif Nat.blt pc 93 then (bif Nat.blt pc 90 then (bif Nat.beq pc 89 then some (.istore_n 3, 0) else none) else (bif Nat.beq pc 90 then some (.iinc 4 1, 0) else none)) else (bif Nat.blt pc 96 then (bif Nat.beq pc 93 then some (.goto (-82), 11) else none) else (bif Nat.beq pc 96 then some (.iload_n 2, 0) else none)))) else (bif Nat.blt pc 105 then (bif Nat.blt pc 101 then (bif Nat.blt pc 98 then (bif Nat.beq pc 97 then some (.iconst (-1), 0) else none) else (bif Nat.beq pc 98 then some (.if_icmp .eq 7, 105) else none)) else (bif Nat.blt pc 102 then (bif Nat.beq pc 101 then some (.iload_n 1, 0) else none) else (bif Nat.beq pc 102 then some (.ifCond .ne 7, 109) else none))) else (bif Nat.blt pc 109 then (bif Nat.blt pc 106 then (bif Nat.beq pc 105 then some (.iload_n 2, 0) else none) else (bif Nat.beq pc 106 then some (.goto 4, 110) else none)) else (bif Nat.blt pc 110 then (bif Nat.beq pc 109 then some (.iload_n 3, 0) else none) else (bif Nat.beq pc 110 then some (.ireturn, 0) else none))))))
def MX7_alfredOf : MI := (yX7_alfredOf, cX7_alfredOf, 7, (some .int), 7, zTab 111 tX7_alfredOf)
theorem kX7_alfredOf : zTok MX7_alfredOf := zTok_of 111 tX7_alfredOf rfl (by decide +kernel)
theorem oX7_alfredOf : zokM MX7_alfredOf 1 = true := zokM_mk (z_in (List.mem_of_getElem? (i := 1170) (by decide +kernel)) rfl) z_ini7 (by decide +kernel)
theorem iX7_alfredOf : zokI MX7_alfredOf = true := zokI_mk (z_in (List.mem_of_getElem? (i := 1169) (by decide +kernel)) rfl) (z_in (List.mem_of_getElem? (i := 53) (by decide +kernel)) rfl)
def tX7_alfred : Nat → Option (Instr × Nat) := fun pc => bif Nat.blt pc 8 then (bif Nat.blt pc 4 then (bif Nat.blt pc 1 then (bif Nat.beq pc 0 then some (.iload_n 1, 0) else none) else (bif Nat.beq pc 1 then some (.invokestatic 246, 0) else none)) else (bif Nat.blt pc 7 then (bif Nat.beq pc 4 then some (.ifCond .eq 11, 15) else none) else (bif Nat.beq pc 7 then some (.aload_n 0, 0) else none))) else (bif Nat.blt pc 12 then (bif Nat.blt pc 9 then (bif Nat.beq pc 8 then some (.iload_n 1, 0) else none) else (bif Nat.beq pc 9 then some (.invokevirtual 249, 0) else none)) else (bif Nat.blt pc 15 then (bif Nat.beq pc 12 then some (.goto 5, 17) else none) else (bif Nat.blt pc 17 then (bif Nat.beq pc 15 then some (.bipush (-2), 0) else none) else (bif Nat.beq pc 17 then some (.ireturn, 0) else none))))
def MX7_alfred : MI := (yX7_alfred, cX7_alfred, 2, (some .int), 7, zTab 18 tX7_alfred)
theorem kX7_alfred : zTok MX7_alfred := zTok_of 18 tX7_alfred rfl (by decide +kernel)
theorem oX7_alfred : zokM MX7_alfred 1 = true := zokM_mk (z_in (List.mem_of_getElem? (i := 1163) (by decide +kernel)) rfl) z_ini7 (by decide +kernel)
theorem iX7_alfred : zokI MX7_alfred = true := zokI_mk (z_in (List.mem_of_getElem? (i := 1161) (by decide +kernel)) rfl) (z_in (List.mem_of_getElem? (i := 1162) (by decide +kernel)) rfl)
def tX7_kettleOf : Nat → Option (Instr × Nat) := fun pc => bif Nat.blt pc 22 then (bif Nat.blt pc 9 then (bif Nat.blt pc 5 then (bif Nat.blt pc 1 then (bif Nat.beq pc 0 then some (.aload_n 0, 0) else none) else (bif Nat.blt pc 4 then (bif Nat.beq pc 1 then some (.invokevirtual 219, 0) else none) else (bif Nat.beq pc 4 then some (.iconst 0, 0) else none))) else (bif Nat.blt pc 7 then (bif Nat.blt pc 6 then (bif Nat.beq pc 5 then some (.istore_n 1, 0) else none) else (bif Nat.beq pc 6 then some (.iconst 0, 0) else none)) else (bif Nat.blt pc 8 then (bif Nat.beq pc 7 then some (.istore_n 2, 0) else none) else (bif Nat.beq pc 8 then some (.iload_n 2, 0) else none)))) else (bif Nat.blt pc 16 then (bif Nat.blt pc 10 then (bif Nat.beq pc 9 then some (.aload_n 0, 0) else none) else (bif Nat.blt pc 13 then (bif Nat.beq pc 10 then some (.getfield 119, 0) else none) else (bif Nat.beq pc 13 then some (.if_icmp .ge 29, 42) else none))) else (bif Nat.blt pc 18 then (bif Nat.blt pc 17 then (bif Nat.beq pc 16 then some (.iload_n 1, 0) else none) else (bif Nat.beq pc 17 then some (.aload_n 0, 0) else none)) else (bif Nat.blt pc 21 then (bif Nat.beq pc 18 then some (.getfield 49, 0) else none) else (bif Nat.beq pc 21 then some (.iload_n 2, 0) else none))))) else (bif Nat.blt pc 33 then (bif Nat.blt pc 27 then (bif Nat.blt pc 23 then (bif Nat.beq pc 22 then some (.iaload, 0) else none) else (bif Nat.blt pc 24 then (bif Nat.beq pc 23 then some (.iconst 1, 0) else none) else (bif Nat.beq pc 24 then some (.if_icmp .ne 9, 33) else none))) else (bif Nat.blt pc 29 then (bif Nat.blt pc 28 then (bif Nat.beq pc 27 then some (.iconst 1, 0) else none) else (bif Nat.beq pc 28 then some (.iload_n 2, 0) else none)) else (bif Nat.blt pc 30 then (bif Nat.beq pc 29 then some (.ishl, 0) else none) else (bif Nat.beq pc 30 then some (.goto 4, 34) else none)))) else (bif Nat.blt pc 36 then (bif Nat.blt pc 34 then (bif Nat.beq pc 33 then some (.iconst 0, 0) else none) else (bif Nat.blt pc 35 then (bif Nat.beq pc 34 then some (.ior, 0) else none) else (bif Nat.beq pc 35 then some (.istore_n 1, 0) else none))) else (bif Nat.blt pc 42 then (bif Nat.blt pc 39 then (bif Nat.beq pc 36 then some (.iinc 2 1, 0) else none) else (bif Nat.beq pc 39 then some (.goto (-31), 8) else none)) else (bif Nat.blt pc 43 then (bif Nat.beq pc 42 then some (.iload_n 1, 0) else none) else (bif Nat.beq pc 43 then some (.ireturn, 0) else none)))))
def MX7_kettleOf : MI := (yX7_kettleOf, cX7_kettleOf, 3, (some .int), 7, zTab 44 tX7_kettleOf)
theorem kX7_kettleOf : zTok MX7_kettleOf := zTok_of 44 tX7_kettleOf rfl (by decide +kernel)
theorem oX7_kettleOf : zokM MX7_kettleOf 0 = true := zokM_mk (z_in (List.mem_of_getElem? (i := 1178) (by decide +kernel)) rfl) z_ini7 (by decide +kernel)
theorem iX7_kettleOf : zokI MX7_kettleOf = true := zokI_mk (z_in (List.mem_of_getElem? (i := 1177) (by decide +kernel)) rfl) (z_in (List.mem_of_getElem? (i := 54) (by decide +kernel)) rfl)
def tX7_kettle : Nat → Option (Instr × Nat) := fun pc => bif Nat.blt pc 1 then (bif Nat.beq pc 0 then some (.aload_n 0, 0) else none) else (bif Nat.blt pc 4 then (bif Nat.beq pc 1 then some (.invokevirtual 252, 0) else none) else (bif Nat.beq pc 4 then some (.ireturn, 0) else none))
def MX7_kettle : MI := (yX7_kettle, cX7_kettle, 1, (some .int), 7, zTab 5 tX7_kettle)
theorem kX7_kettle : zTok MX7_kettle := zTok_of 5 tX7_kettle rfl (by decide +kernel)
theorem oX7_kettle : zokM MX7_kettle 0 = true := zokM_mk (z_in (List.mem_of_getElem? (i := 1174) (by decide +kernel)) rfl) z_ini7 (by decide +kernel)
theorem iX7_kettle : zokI MX7_kettle = true := zokI_mk (z_in (List.mem_of_getElem? (i := 1172) (by decide +kernel)) rfl) (z_in (List.mem_of_getElem? (i := 1173) (by decide +kernel)) rfl)
def tX7_servedNow : Nat → Option (Instr × Nat) := fun pc => bif Nat.blt pc 18 then (bif Nat.blt pc 6 then (bif Nat.blt pc 3 then (bif Nat.blt pc 1 then (bif Nat.beq pc 0 then some (.iconst 0, 0) else none) else (bif Nat.blt pc 2 then (bif Nat.beq pc 1 then some (.istore_n 1, 0) else none) else (bif Nat.beq pc 2 then some (.iconst 0, 0) else none))) else (bif Nat.blt pc 4 then (bif Nat.beq pc 3 then some (.istore_n 2, 0) else none) else (bif Nat.blt pc 5 then (bif Nat.beq pc 4 then some (.iload_n 2, 0) else none) else (bif Nat.beq pc 5 then some (.aload_n 0, 0) else none)))) else (bif Nat.blt pc 13 then (bif Nat.blt pc 9 then (bif Nat.beq pc 6 then some (.getfield 119, 0) else none) else (bif Nat.blt pc 12 then (bif Nat.beq pc 9 then some (.if_icmp .ge 27, 36) else none) else (bif Nat.beq pc 12 then some (.iload_n 1, 0) else none))) else (bif Nat.blt pc 14 then (bif Nat.beq pc 13 then some (.aload_n 0, 0) else none) else (bif Nat.blt pc 17 then (bif Nat.beq pc 14 then some (.getfield 49, 0) else none) else (bif Nat.beq pc 17 then some (.iload_n 2, 0) else none))))) else (bif Nat.blt pc 28 then (bif Nat.blt pc 23 then (bif Nat.blt pc 19 then (bif Nat.beq pc 18 then some (.iaload, 0) else none) else (bif Nat.blt pc 20 then (bif Nat.beq pc 19 then some (.iconst 2, 0) else none) else (bif Nat.beq pc 20 then some (.if_icmp .ne 7, 27) else none))) else (bif Nat.blt pc 24 then (bif Nat.beq pc 23 then some (.iconst 1, 0) else none) else (bif Nat.blt pc 27 then (bif Nat.beq pc 24 then some (.goto 4, 28) else none) else (bif Nat.beq pc 27 then some (.iconst 0, 0) else none)))) else (bif Nat.blt pc 33 then (bif Nat.blt pc 29 then (bif Nat.beq pc 28 then some (.iadd, 0) else none) else (bif Nat.blt pc 30 then (bif Nat.beq pc 29 then some (.istore_n 1, 0) else none) else (bif Nat.beq pc 30 then some (.iinc 2 1, 0) else none))) else (bif Nat.blt pc 36 then (bif Nat.beq pc 33 then some (.goto (-29), 4) else none) else (bif Nat.blt pc 37 then (bif Nat.beq pc 36 then some (.iload_n 1, 0) else none) else (bif Nat.beq pc 37 then some (.ireturn, 0) else none)))))
def MX7_servedNow : MI := (yX7_servedNow, cX7_servedNow, 3, (some .int), 7, zTab 38 tX7_servedNow)
theorem kX7_servedNow : zTok MX7_servedNow := zTok_of 38 tX7_servedNow rfl (by decide +kernel)
theorem oX7_servedNow : zokM MX7_servedNow 0 = true := zokM_mk (z_in (List.mem_of_getElem? (i := 1198) (by decide +kernel)) rfl) z_ini7 (by decide +kernel)
theorem iX7_servedNow : zokI MX7_servedNow = true := zokI_mk (z_in (List.mem_of_getElem? (i := 1197) (by decide +kernel)) rfl) (z_in (List.mem_of_getElem? (i := 57) (by decide +kernel)) rfl)
def tX7_comeOf : Nat → Option (Instr × Nat) := fun pc => bif Nat.blt pc 59 then (bif Nat.blt pc 28 then (bif Nat.blt pc 12 then (bif Nat.blt pc 8 then (bif Nat.blt pc 4 then (bif Nat.blt pc 1 then (bif Nat.beq pc 0 then some (.aload_n 0, 0) else none) else (bif Nat.beq pc 1 then some (.invokevirtual 213, 0) else none)) else (bif Nat.blt pc 5 then (bif Nat.beq pc 4 then some (.aload_n 0, 0) else none) else (bif Nat.beq pc 5 then some (.getfield 16, 0) else none))) else (bif Nat.blt pc 10 then (bif Nat.blt pc 9 then (bif Nat.beq pc 8 then some (.iload_n 1, 0) else none) else (bif Nat.beq pc 9 then some (.iaload, 0) else none)) else (bif Nat.blt pc 11 then (bif Nat.beq pc 10 then some (.istore_n 3, 0) else none) else (bif Nat.beq pc 11 then some (.iconst (-1), 0) else none)))) else (bif Nat.blt pc 18 then (bif Nat.blt pc 15 then (bif Nat.blt pc 14 then (bif Nat.beq pc 12 then some (.istore 4, 0) else none) else (bif Nat.beq pc 14 then some (.iconst 0, 0) else none)) else (bif Nat.blt pc 17 then (bif Nat.beq pc 15 then some (.istore 5, 0) else none) else (bif Nat.beq pc 17 then some (.iconst 0, 0) else none))) else (bif Nat.blt pc 22 then (bif Nat.blt pc 20 then (bif Nat.beq pc 18 then some (.istore 6, 0) else none) else (bif Nat.beq pc 20 then some (.iload 6, 0) else none)) else (bif Nat.blt pc 24 then (bif Nat.beq pc 22 then some (.bipush 24, 0) else none) else (bif Nat.blt pc 27 then (bif Nat.beq pc 24 then some (.if_icmp .ge 86, 110) else none) else (bif Nat.beq pc 27 then some (.aload_n 0, 0) else none)))))) else (bif Nat.blt pc 44 then (bif Nat.blt pc 35 then (bif Nat.blt pc 32 then (bif Nat.blt pc 31 then (bif Nat.beq pc 28 then some (.getfield 16, 0) else none) else (bif Nat.beq pc 31 then some (.iload_n 1, 0) else none)) else (bif Nat.blt pc 34 then (bif Nat.beq pc 32 then some (.iload 6, 0) else none) else (bif Nat.beq pc 34 then some (.iastore, 0) else none))) else (bif Nat.blt pc 39 then (bif Nat.blt pc 36 then (bif Nat.beq pc 35 then some (.aload_n 0, 0) else none) else (bif Nat.beq pc 36 then some (.invokevirtual 216, 0) else none)) else (bif Nat.blt pc 40 then (bif Nat.beq pc 39 then some (.aload_n 0, 0) else none) else (bif Nat.blt pc 41 then (bif Nat.beq pc 40 then some (.iload_n 1, 0) else none) else (bif Nat.beq pc 41 then some (.invokevirtual 237, 0) else none))))) else (bif Nat.blt pc 51 then (bif Nat.blt pc 47 then (bif Nat.blt pc 46 then (bif Nat.beq pc 44 then some (.istore 7, 0) else none) else (bif Nat.beq pc 46 then some (.aload_n 0, 0) else none)) else (bif Nat.blt pc 50 then (bif Nat.beq pc 47 then some (.getfield 49, 0) else none) else (bif Nat.beq pc 50 then some (.iload_n 1, 0) else none))) else (bif Nat.blt pc 53 then (bif Nat.blt pc 52 then (bif Nat.beq pc 51 then some (.iaload, 0) else none) else (bif Nat.beq pc 52 then some (.iconst 2, 0) else none)) else (bif Nat.blt pc 56 then (bif Nat.beq pc 53 then some (.if_icmp .ne 20, 73) else none) else (bif Nat.blt pc 58 then (bif Nat.beq pc 56 then some (.iload 4, 0) else none) else (bif Nat.beq pc 58 then some (.iconst (-1), 0) else none))))))) else (bif Nat.blt pc 100 then (bif Nat.blt pc 78 then (bif Nat.blt pc 69 then (bif Nat.blt pc 64 then (bif Nat.blt pc 62 then (bif Nat.beq pc 59 then some (.if_icmp .eq 10, 69) else none) else (bif Nat.beq pc 62 then some (.iload 7, 0) else none)) else (bif Nat.blt pc 66 then (bif Nat.beq pc 64 then some (.iload 5, 0) else none) else (bif Nat.beq pc 66 then some (.if_icmp .ge 7, 73) else none))) else (bif Nat.blt pc 73 then (bif Nat.blt pc 70 then (bif Nat.beq pc 69 then some (.iconst 1, 0) else none) else (bif Nat.beq pc 70 then some (.goto 4, 74) else none)) else (bif Nat.blt pc 74 then (bif Nat.beq pc 73 then some (.iconst 0, 0) else none) else (bif Nat.blt pc 76 then (bif Nat.beq pc 74 then some (.istore 8, 0) else none) else (bif Nat.beq pc 76 then some (.iload 8, 0) else none))))) else (bif Nat.blt pc 88 then (bif Nat.blt pc 83 then (bif Nat.blt pc 81 then (bif Nat.beq pc 78 then some (.ifCond .eq 8, 86) else none) else (bif Nat.beq pc 81 then some (.iload 6, 0) else none)) else (bif Nat.blt pc 86 then (bif Nat.beq pc 83 then some (.goto 5, 88) else none) else (bif Nat.beq pc 86 then some (.iload 4, 0) else none))) else (bif Nat.blt pc 92 then (bif Nat.blt pc 90 then (bif Nat.beq pc 88 then some (.istore 4, 0) else none) else (bif Nat.beq pc 90 then some (.iload 8, 0) else none)) else (bif Nat.blt pc 95 then (bif Nat.beq pc 92 then some (.ifCond .eq 8, 100) else none) else (bif Nat.blt pc 97 then (bif Nat.beq pc 95 then some (.iload 7, 0) else none) else (bif Nat.beq pc 97 then some (.goto 5, 102) else none)))))) else (bif Nat.blt pc 117 then (bif Nat.blt pc 110 then (bif Nat.blt pc 104 then (bif Nat.blt pc 102 then (bif Nat.beq pc 100 then some (.iload 5, 0) else none) else (bif Nat.beq pc 102 then some (.istore 5, 0) else none)) else (bif Nat.blt pc 107 then (bif Nat.beq pc 104 then some (.iinc 6 1, 0) else none) else (bif Nat.beq pc 107 then some (.goto (-87), 20) else none))) else (bif Nat.blt pc 114 then (bif Nat.blt pc 111 then (bif Nat.beq pc 110 then some (.aload_n 0, 0) else none) else (bif Nat.beq pc 111 then some (.getfield 16, 0) else none)) else (bif Nat.blt pc 115 then (bif Nat.beq pc 114 then some (.iload_n 1, 0) else none) else (bif Nat.blt pc 116 then (bif Nat.beq pc 115 then some (.iload_n 3, 0) else none) else (bif Nat.beq pc 116 then some (.iastore, 0) else none))))) else (bif Nat.blt pc 124 then (bif Nat.blt pc 120 then (bif Nat.blt pc 119 then (bif Nat.beq pc 117 then some (.iload 4, 0) else none) else (bif Nat.beq pc 119 then some (.iconst (-1), 0) else none)) else (bif Nat.blt pc 123 then (bif Nat.beq pc 120 then some (.if_icmp .eq 7, 127) else none) else (bif Nat.beq pc 123 then some (.iload_n 2, 0) else none))) else (bif Nat.blt pc 129 then (bif Nat.blt pc 127 then (bif Nat.beq pc 124 then some (.ifCond .ne 8, 132) else none) else (bif Nat.beq pc 127 then some (.iload 4, 0) else none)) else (bif Nat.blt pc 132 then (bif Nat.beq pc 129 then some (.goto 5, 134) else none) else (bif Nat.blt pc 134 then (bif Nat.beq pc 132 then some (.iload 5, 0) else none) else (bif Nat.beq pc 134 then some (.ireturn, 0) else none)))))))
def MX7_comeOf : MI := (yX7_comeOf, cX7_comeOf, 9, (some .int), 7, zTab 135 tX7_comeOf)
theorem kX7_comeOf : zTok MX7_comeOf := zTok_of 135 tX7_comeOf rfl (by decide +kernel)
theorem oX7_comeOf : zokM MX7_comeOf 2 = true := zokM_mk (z_in (List.mem_of_getElem? (i := 1186) (by decide +kernel)) rfl) z_ini7 (by decide +kernel)
theorem iX7_comeOf : zokI MX7_comeOf = true := zokI_mk (z_in (List.mem_of_getElem? (i := 1185) (by decide +kernel)) rfl) (z_in (List.mem_of_getElem? (i := 55) (by decide +kernel)) rfl)
def tX7_come : Nat → Option (Instr × Nat) := fun pc => bif Nat.blt pc 15 then (bif Nat.blt pc 5 then (bif Nat.blt pc 1 then (bif Nat.beq pc 0 then some (.aload_n 0, 0) else none) else (bif Nat.blt pc 2 then (bif Nat.beq pc 1 then some (.iload_n 1, 0) else none) else (bif Nat.beq pc 2 then some (.invokevirtual 146, 0) else none))) else (bif Nat.blt pc 9 then (bif Nat.blt pc 8 then (bif Nat.beq pc 5 then some (.ifCond .eq 19, 24) else none) else (bif Nat.beq pc 8 then some (.iload_n 2, 0) else none)) else (bif Nat.blt pc 12 then (bif Nat.beq pc 9 then some (.invokestatic 246, 0) else none) else (bif Nat.beq pc 12 then some (.ifCond .eq 12, 24) else none)))) else (bif Nat.blt pc 18 then (bif Nat.blt pc 16 then (bif Nat.beq pc 15 then some (.aload_n 0, 0) else none) else (bif Nat.blt pc 17 then (bif Nat.beq pc 16 then some (.iload_n 1, 0) else none) else (bif Nat.beq pc 17 then some (.iload_n 2, 0) else none))) else (bif Nat.blt pc 24 then (bif Nat.blt pc 21 then (bif Nat.beq pc 18 then some (.invokevirtual 255, 0) else none) else (bif Nat.beq pc 21 then some (.goto 5, 26) else none)) else (bif Nat.blt pc 26 then (bif Nat.beq pc 24 then some (.bipush (-2), 0) else none) else (bif Nat.beq pc 26 then some (.ireturn, 0) else none))))
def MX7_come : MI := (yX7_come, cX7_come, 3, (some .int), 7, zTab 27 tX7_come)
theorem kX7_come : zTok MX7_come := zTok_of 27 tX7_come rfl (by decide +kernel)
theorem oX7_come : zokM MX7_come 2 = true := zokM_mk (z_in (List.mem_of_getElem? (i := 1182) (by decide +kernel)) rfl) z_ini7 (by decide +kernel)
theorem iX7_come : zokI MX7_come = true := zokI_mk (z_in (List.mem_of_getElem? (i := 1180) (by decide +kernel)) rfl) (z_in (List.mem_of_getElem? (i := 1181) (by decide +kernel)) rfl)
def tX7_openOf : Nat → Option (Instr × Nat) := fun pc => bif Nat.blt pc 39 then (bif Nat.blt pc 17 then (bif Nat.blt pc 7 then (bif Nat.blt pc 4 then (bif Nat.blt pc 1 then (bif Nat.beq pc 0 then some (.aload_n 0, 0) else none) else (bif Nat.beq pc 1 then some (.invokevirtual 213, 0) else none)) else (bif Nat.blt pc 5 then (bif Nat.beq pc 4 then some (.iconst (-1), 0) else none) else (bif Nat.blt pc 6 then (bif Nat.beq pc 5 then some (.istore_n 3, 0) else none) else (bif Nat.beq pc 6 then some (.iconst (-1), 0) else none)))) else (bif Nat.blt pc 11 then (bif Nat.blt pc 9 then (bif Nat.beq pc 7 then some (.istore 4, 0) else none) else (bif Nat.blt pc 10 then (bif Nat.beq pc 9 then some (.aload_n 0, 0) else none) else (bif Nat.beq pc 10 then some (.iload_n 1, 0) else none))) else (bif Nat.blt pc 14 then (bif Nat.beq pc 11 then some (.putfield 180, 0) else none) else (bif Nat.blt pc 15 then (bif Nat.beq pc 14 then some (.iconst 0, 0) else none) else (bif Nat.beq pc 15 then some (.istore 5, 0) else none))))) else (bif Nat.blt pc 26 then (bif Nat.blt pc 20 then (bif Nat.blt pc 19 then (bif Nat.beq pc 17 then some (.iload 5, 0) else none) else (bif Nat.beq pc 19 then some (.iconst 4, 0) else none)) else (bif Nat.blt pc 23 then (bif Nat.beq pc 20 then some (.if_icmp .ge 55, 75) else none) else (bif Nat.blt pc 24 then (bif Nat.beq pc 23 then some (.aload_n 0, 0) else none) else (bif Nat.beq pc 24 then some (.iload 5, 0) else none)))) else (bif Nat.blt pc 33 then (bif Nat.blt pc 29 then (bif Nat.beq pc 26 then some (.putfield 183, 0) else none) else (bif Nat.blt pc 30 then (bif Nat.beq pc 29 then some (.aload_n 0, 0) else none) else (bif Nat.beq pc 30 then some (.invokevirtual 216, 0) else none))) else (bif Nat.blt pc 34 then (bif Nat.beq pc 33 then some (.aload_n 0, 0) else none) else (bif Nat.blt pc 37 then (bif Nat.beq pc 34 then some (.invokevirtual 258, 0) else none) else (bif Nat.beq pc 37 then some (.istore 6, 0) else none)))))) else (bif Nat.blt pc 62 then (bif Nat.blt pc 51 then (bif Nat.blt pc 43 then (bif Nat.blt pc 41 then (bif Nat.beq pc 39 then some (.iload 6, 0) else none) else (bif Nat.beq pc 41 then some (.iload 4, 0) else none)) else (bif Nat.blt pc 46 then (bif Nat.beq pc 43 then some (.if_icmp .le 8, 51) else none) else (bif Nat.blt pc 48 then (bif Nat.beq pc 46 then some (.iload 5, 0) else none) else (bif Nat.beq pc 48 then some (.goto 4, 52) else none)))) else (bif Nat.blt pc 55 then (bif Nat.blt pc 52 then (bif Nat.beq pc 51 then some (.iload_n 3, 0) else none) else (bif Nat.blt pc 53 then (bif Nat.beq pc 52 then some (.istore_n 3, 0) else none) else (bif Nat.beq pc 53 then some (.iload 6, 0) else none))) else (bif Nat.blt pc 57 then (bif Nat.beq pc 55 then some (.iload 4, 0) else none) else (bif Nat.blt pc 60 then (bif Nat.beq pc 57 then some (.if_icmp .le 8, 65) else none) else (bif Nat.beq pc 60 then some (.iload 6, 0) else none))))) else (bif Nat.blt pc 75 then (bif Nat.blt pc 67 then (bif Nat.blt pc 65 then (bif Nat.beq pc 62 then some (.goto 5, 67) else none) else (bif Nat.beq pc 65 then some (.iload 4, 0) else none)) else (bif Nat.blt pc 69 then (bif Nat.beq pc 67 then some (.istore 4, 0) else none) else (bif Nat.blt pc 72 then (bif Nat.beq pc 69 then some (.iinc 5 1, 0) else none) else (bif Nat.beq pc 72 then some (.goto (-55), 17) else none)))) else (bif Nat.blt pc 80 then (bif Nat.blt pc 76 then (bif Nat.beq pc 75 then some (.iload_n 2, 0) else none) else (bif Nat.blt pc 79 then (bif Nat.beq pc 76 then some (.ifCond .ne 7, 83) else none) else (bif Nat.beq pc 79 then some (.iload_n 3, 0) else none))) else (bif Nat.blt pc 83 then (bif Nat.beq pc 80 then some (.goto 5, 85) else none) else (bif Nat.blt pc 85 then (bif Nat.beq pc 83 then some (.iload 4, 0) else none) else (bif Nat.beq pc 85 then some (.ireturn, 0) else none))))))
def MX7_openOf : MI := (yX7_openOf, cX7_openOf, 7, (some .int), 7, zTab 86 tX7_openOf)
theorem kX7_openOf : zTok MX7_openOf := zTok_of 86 tX7_openOf rfl (by decide +kernel)
theorem oX7_openOf : zokM MX7_openOf 2 = true := zokM_mk (z_in (List.mem_of_getElem? (i := 1194) (by decide +kernel)) rfl) z_ini7 (by decide +kernel)
theorem iX7_openOf : zokI MX7_openOf = true := zokI_mk (z_in (List.mem_of_getElem? (i := 1193) (by decide +kernel)) rfl) (z_in (List.mem_of_getElem? (i := 56) (by decide +kernel)) rfl)
def tX7_open : Nat → Option (Instr × Nat) := fun pc => bif Nat.blt pc 14 then (bif Nat.blt pc 7 then (bif Nat.blt pc 1 then (bif Nat.beq pc 0 then some (.iload_n 1, 0) else none) else (bif Nat.blt pc 4 then (bif Nat.beq pc 1 then some (.invokestatic 116, 0) else none) else (bif Nat.beq pc 4 then some (.ifCond .eq 19, 23) else none))) else (bif Nat.blt pc 8 then (bif Nat.beq pc 7 then some (.iload_n 2, 0) else none) else (bif Nat.blt pc 11 then (bif Nat.beq pc 8 then some (.invokestatic 246, 0) else none) else (bif Nat.beq pc 11 then some (.ifCond .eq 12, 23) else none)))) else (bif Nat.blt pc 17 then (bif Nat.blt pc 15 then (bif Nat.beq pc 14 then some (.aload_n 0, 0) else none) else (bif Nat.blt pc 16 then (bif Nat.beq pc 15 then some (.iload_n 1, 0) else none) else (bif Nat.beq pc 16 then some (.iload_n 2, 0) else none))) else (bif Nat.blt pc 23 then (bif Nat.blt pc 20 then (bif Nat.beq pc 17 then some (.invokevirtual 261, 0) else none) else (bif Nat.beq pc 20 then some (.goto 5, 25) else none)) else (bif Nat.blt pc 25 then (bif Nat.beq pc 23 then some (.bipush (-2), 0) else none) else (bif Nat.beq pc 25 then some (.ireturn, 0) else none))))
def MX7_open : MI := (yX7_open, cX7_open, 3, (some .int), 7, zTab 26 tX7_open)
theorem kX7_open : zTok MX7_open := zTok_of 26 tX7_open rfl (by decide +kernel)
theorem oX7_open : zokM MX7_open 2 = true := zokM_mk (z_in (List.mem_of_getElem? (i := 1190) (by decide +kernel)) rfl) z_ini7 (by decide +kernel)
theorem iX7_open : zokI MX7_open = true := zokI_mk (z_in (List.mem_of_getElem? (i := 1188) (by decide +kernel)) rfl) (z_in (List.mem_of_getElem? (i := 1189) (by decide +kernel)) rfl)
def tX7_letOf : Nat → Option (Instr × Nat) := fun pc => bif Nat.blt pc 52 then (bif Nat.blt pc 24 then (bif Nat.blt pc 10 then (bif Nat.blt pc 5 then (bif Nat.blt pc 1 then (bif Nat.beq pc 0 then some (.aload_n 0, 0) else none) else (bif Nat.blt pc 4 then (bif Nat.beq pc 1 then some (.invokevirtual 213, 0) else none) else (bif Nat.beq pc 4 then some (.iconst (-1), 0) else none))) else (bif Nat.blt pc 7 then (bif Nat.blt pc 6 then (bif Nat.beq pc 5 then some (.istore_n 3, 0) else none) else (bif Nat.beq pc 6 then some (.iconst (-1), 0) else none)) else (bif Nat.blt pc 9 then (bif Nat.beq pc 7 then some (.istore 4, 0) else none) else (bif Nat.beq pc 9 then some (.aload_n 0, 0) else none)))) else (bif Nat.blt pc 16 then (bif Nat.blt pc 14 then (bif Nat.blt pc 11 then (bif Nat.beq pc 10 then some (.aload_n 0, 0) else none) else (bif Nat.beq pc 11 then some (.getfield 161, 0) else none)) else (bif Nat.blt pc 15 then (bif Nat.beq pc 14 then some (.iconst 1, 0) else none) else (bif Nat.beq pc 15 then some (.iadd, 0) else none))) else (bif Nat.blt pc 20 then (bif Nat.blt pc 19 then (bif Nat.beq pc 16 then some (.putfield 174, 0) else none) else (bif Nat.beq pc 19 then some (.aload_n 0, 0) else none)) else (bif Nat.blt pc 23 then (bif Nat.beq pc 20 then some (.getfield 37, 0) else none) else (bif Nat.beq pc 23 then some (.aload_n 0, 0) else none))))) else (bif Nat.blt pc 38 then (bif Nat.blt pc 30 then (bif Nat.blt pc 28 then (bif Nat.blt pc 27 then (bif Nat.beq pc 24 then some (.getfield 161, 0) else none) else (bif Nat.beq pc 27 then some (.iconst 1, 0) else none)) else (bif Nat.blt pc 29 then (bif Nat.beq pc 28 then some (.iastore, 0) else none) else (bif Nat.beq pc 29 then some (.aload_n 0, 0) else none))) else (bif Nat.blt pc 34 then (bif Nat.blt pc 33 then (bif Nat.beq pc 30 then some (.getfield 40, 0) else none) else (bif Nat.beq pc 33 then some (.aload_n 0, 0) else none)) else (bif Nat.blt pc 37 then (bif Nat.beq pc 34 then some (.getfield 161, 0) else none) else (bif Nat.beq pc 37 then some (.iload_n 1, 0) else none)))) else (bif Nat.blt pc 44 then (bif Nat.blt pc 40 then (bif Nat.blt pc 39 then (bif Nat.beq pc 38 then some (.iastore, 0) else none) else (bif Nat.beq pc 39 then some (.iconst 0, 0) else none)) else (bif Nat.blt pc 42 then (bif Nat.beq pc 40 then some (.istore 5, 0) else none) else (bif Nat.beq pc 42 then some (.iload 5, 0) else none))) else (bif Nat.blt pc 48 then (bif Nat.blt pc 45 then (bif Nat.beq pc 44 then some (.aload_n 0, 0) else none) else (bif Nat.beq pc 45 then some (.getfield 119, 0) else none)) else (bif Nat.blt pc 51 then (bif Nat.beq pc 48 then some (.if_icmp .ge 60, 108) else none) else (bif Nat.beq pc 51 then some (.aload_n 0, 0) else none)))))) else (bif Nat.blt pc 85 then (bif Nat.blt pc 67 then (bif Nat.blt pc 61 then (bif Nat.blt pc 56 then (bif Nat.blt pc 55 then (bif Nat.beq pc 52 then some (.getfield 43, 0) else none) else (bif Nat.beq pc 55 then some (.aload_n 0, 0) else none)) else (bif Nat.blt pc 59 then (bif Nat.beq pc 56 then some (.getfield 161, 0) else none) else (bif Nat.beq pc 59 then some (.iload 5, 0) else none))) else (bif Nat.blt pc 63 then (bif Nat.blt pc 62 then (bif Nat.beq pc 61 then some (.iastore, 0) else none) else (bif Nat.beq pc 62 then some (.aload_n 0, 0) else none)) else (bif Nat.blt pc 66 then (bif Nat.beq pc 63 then some (.invokevirtual 216, 0) else none) else (bif Nat.beq pc 66 then some (.aload_n 0, 0) else none)))) else (bif Nat.blt pc 76 then (bif Nat.blt pc 72 then (bif Nat.blt pc 70 then (bif Nat.beq pc 67 then some (.invokevirtual 258, 0) else none) else (bif Nat.beq pc 70 then some (.istore 6, 0) else none)) else (bif Nat.blt pc 74 then (bif Nat.beq pc 72 then some (.iload 6, 0) else none) else (bif Nat.beq pc 74 then some (.iload 4, 0) else none))) else (bif Nat.blt pc 81 then (bif Nat.blt pc 79 then (bif Nat.beq pc 76 then some (.if_icmp .le 8, 84) else none) else (bif Nat.beq pc 79 then some (.iload 5, 0) else none)) else (bif Nat.blt pc 84 then (bif Nat.beq pc 81 then some (.goto 4, 85) else none) else (bif Nat.beq pc 84 then some (.iload_n 3, 0) else none))))) else (bif Nat.blt pc 102 then (bif Nat.blt pc 93 then (bif Nat.blt pc 88 then (bif Nat.blt pc 86 then (bif Nat.beq pc 85 then some (.istore_n 3, 0) else none) else (bif Nat.beq pc 86 then some (.iload 6, 0) else none)) else (bif Nat.blt pc 90 then (bif Nat.beq pc 88 then some (.iload 4, 0) else none) else (bif Nat.beq pc 90 then some (.if_icmp .le 8, 98) else none))) else (bif Nat.blt pc 98 then (bif Nat.blt pc 95 then (bif Nat.beq pc 93 then some (.iload 6, 0) else none) else (bif Nat.beq pc 95 then some (.goto 5, 100) else none)) else (bif Nat.blt pc 100 then (bif Nat.beq pc 98 then some (.iload 4, 0) else none) else (bif Nat.beq pc 100 then some (.istore 4, 0) else none)))) else (bif Nat.blt pc 112 then (bif Nat.blt pc 108 then (bif Nat.blt pc 105 then (bif Nat.beq pc 102 then some (.iinc 5 1, 0) else none) else (bif Nat.beq pc 105 then some (.goto (-63), 42) else none)) else (bif Nat.blt pc 109 then (bif Nat.beq pc 108 then some (.iload_n 2, 0) else none) else (bif Nat.beq pc 109 then some (.ifCond .ne 7, 116) else none))) else (bif Nat.blt pc 116 then (bif Nat.blt pc 113 then (bif Nat.beq pc 112 then some (.iload_n 3, 0) else none) else (bif Nat.beq pc 113 then some (.goto 5, 118) else none)) else (bif Nat.blt pc 118 then (bif Nat.beq pc 116 then some (.iload 4, 0) else none) else (bif Nat.beq pc 118 then some (.ireturn, 0) else none))))))
def MX7_letOf : MI := (yX7_letOf, cX7_letOf, 7, (some .int), 7, zTab 119 tX7_letOf)
theorem kX7_letOf : zTok MX7_letOf := zTok_of 119 tX7_letOf rfl (by decide +kernel)
theorem oX7_letOf : zokM MX7_letOf 2 = true := zokM_mk (z_in (List.mem_of_getElem? (i := 1206) (by decide +kernel)) rfl) z_ini7 (by decide +kernel)
theorem iX7_letOf : zokI MX7_letOf = true := zokI_mk (z_in (List.mem_of_getElem? (i := 1205) (by decide +kernel)) rfl) (z_in (List.mem_of_getElem? (i := 58) (by decide +kernel)) rfl)
def tX7_let : Nat → Option (Instr × Nat) := fun pc => bif Nat.blt pc 14 then (bif Nat.blt pc 7 then (bif Nat.blt pc 1 then (bif Nat.beq pc 0 then some (.iload_n 1, 0) else none) else (bif Nat.blt pc 4 then (bif Nat.beq pc 1 then some (.invokestatic 116, 0) else none) else (bif Nat.beq pc 4 then some (.ifCond .eq 19, 23) else none))) else (bif Nat.blt pc 8 then (bif Nat.beq pc 7 then some (.iload_n 2, 0) else none) else (bif Nat.blt pc 11 then (bif Nat.beq pc 8 then some (.invokestatic 246, 0) else none) else (bif Nat.beq pc 11 then some (.ifCond .eq 12, 23) else none)))) else (bif Nat.blt pc 17 then (bif Nat.blt pc 15 then (bif Nat.beq pc 14 then some (.aload_n 0, 0) else none) else (bif Nat.blt pc 16 then (bif Nat.beq pc 15 then some (.iload_n 1, 0) else none) else (bif Nat.beq pc 16 then some (.iload_n 2, 0) else none))) else (bif Nat.blt pc 23 then (bif Nat.blt pc 20 then (bif Nat.beq pc 17 then some (.invokevirtual 264, 0) else none) else (bif Nat.beq pc 20 then some (.goto 5, 25) else none)) else (bif Nat.blt pc 25 then (bif Nat.beq pc 23 then some (.bipush (-2), 0) else none) else (bif Nat.beq pc 25 then some (.ireturn, 0) else none))))
def MX7_let : MI := (yX7_let, cX7_let, 3, (some .int), 7, zTab 26 tX7_let)
theorem kX7_let : zTok MX7_let := zTok_of 26 tX7_let rfl (by decide +kernel)
theorem oX7_let : zokM MX7_let 2 = true := zokM_mk (z_in (List.mem_of_getElem? (i := 1202) (by decide +kernel)) rfl) z_ini7 (by decide +kernel)
theorem iX7_let : zokI MX7_let = true := zokI_mk (z_in (List.mem_of_getElem? (i := 1200) (by decide +kernel)) rfl) (z_in (List.mem_of_getElem? (i := 1201) (by decide +kernel)) rfl)
def tX7_isSpared : Nat → Option (Instr × Nat) := fun pc => bif Nat.blt pc 10 then (bif Nat.blt pc 5 then (bif Nat.blt pc 1 then (bif Nat.beq pc 0 then some (.aload_n 0, 0) else none) else (bif Nat.blt pc 2 then (bif Nat.beq pc 1 then some (.iload_n 1, 0) else none) else (bif Nat.beq pc 2 then some (.putfield 177, 0) else none))) else (bif Nat.blt pc 6 then (bif Nat.beq pc 5 then some (.aload_n 0, 0) else none) else (bif Nat.blt pc 9 then (bif Nat.beq pc 6 then some (.invokevirtual 216, 0) else none) else (bif Nat.beq pc 9 then some (.aload_n 0, 0) else none)))) else (bif Nat.blt pc 17 then (bif Nat.blt pc 13 then (bif Nat.beq pc 10 then some (.getfield 186, 0) else none) else (bif Nat.blt pc 16 then (bif Nat.beq pc 13 then some (.ifCond .ne 7, 20) else none) else (bif Nat.beq pc 16 then some (.iconst 1, 0) else none))) else (bif Nat.blt pc 20 then (bif Nat.beq pc 17 then some (.goto 4, 21) else none) else (bif Nat.blt pc 21 then (bif Nat.beq pc 20 then some (.iconst 0, 0) else none) else (bif Nat.beq pc 21 then some (.ireturn, 0) else none))))
def MX7_isSpared : MI := (yX7_isSpared, cX7_isSpared, 2, (some .boolean), 7, zTab 22 tX7_isSpared)
theorem kX7_isSpared : zTok MX7_isSpared := zTok_of 22 tX7_isSpared rfl (by decide +kernel)
theorem oX7_isSpared : zokM MX7_isSpared 1 = true := zokM_mk (z_in (List.mem_of_getElem? (i := 1218) (by decide +kernel)) rfl) z_ini7 (by decide +kernel)
theorem iX7_isSpared : zokI MX7_isSpared = true := zokI_mk (z_in (List.mem_of_getElem? (i := 1217) (by decide +kernel)) rfl) (z_in (List.mem_of_getElem? (i := 60) (by decide +kernel)) rfl)
def tX7_spareBy : Nat → Option (Instr × Nat) := fun pc => bif Nat.blt pc 59 then (bif Nat.blt pc 29 then (bif Nat.blt pc 14 then (bif Nat.blt pc 6 then (bif Nat.blt pc 4 then (bif Nat.blt pc 1 then (bif Nat.beq pc 0 then some (.aload_n 0, 0) else none) else (bif Nat.beq pc 1 then some (.invokevirtual 213, 0) else none)) else (bif Nat.blt pc 5 then (bif Nat.beq pc 4 then some (.aload_n 0, 0) else none) else (bif Nat.beq pc 5 then some (.iconst 0, 0) else none))) else (bif Nat.blt pc 12 then (bif Nat.blt pc 9 then (bif Nat.beq pc 6 then some (.invokevirtual 267, 0) else none) else (bif Nat.beq pc 9 then some (.ifCond .eq 5, 14) else none)) else (bif Nat.blt pc 13 then (bif Nat.beq pc 12 then some (.iconst 0, 0) else none) else (bif Nat.beq pc 13 then some (.ireturn, 0) else none)))) else (bif Nat.blt pc 18 then (bif Nat.blt pc 16 then (bif Nat.blt pc 15 then (bif Nat.beq pc 14 then some (.iconst 0, 0) else none) else (bif Nat.beq pc 15 then some (.istore_n 1, 0) else none)) else (bif Nat.blt pc 17 then (bif Nat.beq pc 16 then some (.iload_n 1, 0) else none) else (bif Nat.beq pc 17 then some (.aload_n 0, 0) else none))) else (bif Nat.blt pc 24 then (bif Nat.blt pc 21 then (bif Nat.beq pc 18 then some (.getfield 161, 0) else none) else (bif Nat.beq pc 21 then some (.if_icmp .ge 28, 49) else none)) else (bif Nat.blt pc 25 then (bif Nat.beq pc 24 then some (.aload_n 0, 0) else none) else (bif Nat.blt pc 28 then (bif Nat.beq pc 25 then some (.getfield 70, 0) else none) else (bif Nat.beq pc 28 then some (.iconst 0, 0) else none)))))) else (bif Nat.blt pc 42 then (bif Nat.blt pc 33 then (bif Nat.blt pc 31 then (bif Nat.blt pc 30 then (bif Nat.beq pc 29 then some (.iload_n 1, 0) else none) else (bif Nat.beq pc 30 then some (.iastore, 0) else none)) else (bif Nat.blt pc 32 then (bif Nat.beq pc 31 then some (.aload_n 0, 0) else none) else (bif Nat.beq pc 32 then some (.iconst 1, 0) else none))) else (bif Nat.blt pc 35 then (bif Nat.blt pc 34 then (bif Nat.beq pc 33 then some (.iload_n 1, 0) else none) else (bif Nat.beq pc 34 then some (.ishl, 0) else none)) else (bif Nat.blt pc 38 then (bif Nat.beq pc 35 then some (.invokevirtual 267, 0) else none) else (bif Nat.blt pc 41 then (bif Nat.beq pc 38 then some (.ifCond .eq 5, 43) else none) else (bif Nat.beq pc 41 then some (.iconst 1, 0) else none))))) else (bif Nat.blt pc 50 then (bif Nat.blt pc 46 then (bif Nat.blt pc 43 then (bif Nat.beq pc 42 then some (.ireturn, 0) else none) else (bif Nat.beq pc 43 then some (.iinc 1 1, 0) else none)) else (bif Nat.blt pc 49 then (bif Nat.beq pc 46 then some (.goto (-30), 16) else none) else (bif Nat.beq pc 49 then some (.iconst 0, 0) else none))) else (bif Nat.blt pc 52 then (bif Nat.blt pc 51 then (bif Nat.beq pc 50 then some (.istore_n 1, 0) else none) else (bif Nat.beq pc 51 then some (.iload_n 1, 0) else none)) else (bif Nat.blt pc 53 then (bif Nat.beq pc 52 then some (.aload_n 0, 0) else none) else (bif Nat.blt pc 56 then (bif Nat.beq pc 53 then some (.getfield 161, 0) else none) else (bif Nat.beq pc 56 then some (.if_icmp .ge 57, 113) else none))))))) else (bif Nat.blt pc 85 then (bif Nat.blt pc 72 then (bif Nat.blt pc 63 then (bif Nat.blt pc 61 then (bif Nat.blt pc 60 then (bif Nat.beq pc 59 then some (.iload_n 1, 0) else none) else (bif Nat.beq pc 60 then some (.iconst 1, 0) else none)) else (bif Nat.blt pc 62 then (bif Nat.beq pc 61 then some (.iadd, 0) else none) else (bif Nat.beq pc 62 then some (.istore_n 2, 0) else none))) else (bif Nat.blt pc 65 then (bif Nat.blt pc 64 then (bif Nat.beq pc 63 then some (.iload_n 2, 0) else none) else (bif Nat.beq pc 64 then some (.aload_n 0, 0) else none)) else (bif Nat.blt pc 68 then (bif Nat.beq pc 65 then some (.getfield 161, 0) else none) else (bif Nat.blt pc 71 then (bif Nat.beq pc 68 then some (.if_icmp .ge 39, 107) else none) else (bif Nat.beq pc 71 then some (.aload_n 0, 0) else none))))) else (bif Nat.blt pc 78 then (bif Nat.blt pc 76 then (bif Nat.blt pc 75 then (bif Nat.beq pc 72 then some (.getfield 70, 0) else none) else (bif Nat.beq pc 75 then some (.iconst 0, 0) else none)) else (bif Nat.blt pc 77 then (bif Nat.beq pc 76 then some (.iload_n 1, 0) else none) else (bif Nat.beq pc 77 then some (.iastore, 0) else none))) else (bif Nat.blt pc 82 then (bif Nat.blt pc 79 then (bif Nat.beq pc 78 then some (.aload_n 0, 0) else none) else (bif Nat.beq pc 79 then some (.getfield 70, 0) else none)) else (bif Nat.blt pc 83 then (bif Nat.beq pc 82 then some (.iconst 1, 0) else none) else (bif Nat.blt pc 84 then (bif Nat.beq pc 83 then some (.iload_n 2, 0) else none) else (bif Nat.beq pc 84 then some (.iastore, 0) else none)))))) else (bif Nat.blt pc 96 then (bif Nat.blt pc 89 then (bif Nat.blt pc 87 then (bif Nat.blt pc 86 then (bif Nat.beq pc 85 then some (.aload_n 0, 0) else none) else (bif Nat.beq pc 86 then some (.iconst 1, 0) else none)) else (bif Nat.blt pc 88 then (bif Nat.beq pc 87 then some (.iload_n 1, 0) else none) else (bif Nat.beq pc 88 then some (.ishl, 0) else none))) else (bif Nat.blt pc 91 then (bif Nat.blt pc 90 then (bif Nat.beq pc 89 then some (.iconst 1, 0) else none) else (bif Nat.beq pc 90 then some (.iload_n 2, 0) else none)) else (bif Nat.blt pc 92 then (bif Nat.beq pc 91 then some (.ishl, 0) else none) else (bif Nat.blt pc 93 then (bif Nat.beq pc 92 then some (.ior, 0) else none) else (bif Nat.beq pc 93 then some (.invokevirtual 267, 0) else none))))) else (bif Nat.blt pc 104 then (bif Nat.blt pc 100 then (bif Nat.blt pc 99 then (bif Nat.beq pc 96 then some (.ifCond .eq 5, 101) else none) else (bif Nat.beq pc 99 then some (.iconst 2, 0) else none)) else (bif Nat.blt pc 101 then (bif Nat.beq pc 100 then some (.ireturn, 0) else none) else (bif Nat.beq pc 101 then some (.iinc 2 1, 0) else none))) else (bif Nat.blt pc 110 then (bif Nat.blt pc 107 then (bif Nat.beq pc 104 then some (.goto (-41), 63) else none) else (bif Nat.beq pc 107 then some (.iinc 1 1, 0) else none)) else (bif Nat.blt pc 113 then (bif Nat.beq pc 110 then some (.goto (-59), 51) else none) else (bif Nat.blt pc 114 then (bif Nat.beq pc 113 then some (.iconst (-1), 0) else none) else (bif Nat.beq pc 114 then some (.ireturn, 0) else none)))))))
def MX7_spareBy : MI := (yX7_spareBy, cX7_spareBy, 3, (some .int), 7, zTab 115 tX7_spareBy)
theorem kX7_spareBy : zTok MX7_spareBy := zTok_of 115 tX7_spareBy rfl (by decide +kernel)
theorem oX7_spareBy : zokM MX7_spareBy 0 = true := zokM_mk (z_in (List.mem_of_getElem? (i := 1214) (by decide +kernel)) rfl) z_ini7 (by decide +kernel)
theorem iX7_spareBy : zokI MX7_spareBy = true := zokI_mk (z_in (List.mem_of_getElem? (i := 1213) (by decide +kernel)) rfl) (z_in (List.mem_of_getElem? (i := 59) (by decide +kernel)) rfl)
def tX7_ofRow : Nat → Option (Instr × Nat) := fun pc => bif Nat.blt pc 11 then (bif Nat.blt pc 5 then (bif Nat.blt pc 1 then (bif Nat.beq pc 0 then some (.iload_n 2, 0) else none) else (bif Nat.blt pc 2 then (bif Nat.beq pc 1 then some (.iconst (-1), 0) else none) else (bif Nat.beq pc 2 then some (.if_icmp .ne 7, 9) else none))) else (bif Nat.blt pc 9 then (bif Nat.blt pc 6 then (bif Nat.beq pc 5 then some (.iload_n 1, 0) else none) else (bif Nat.beq pc 6 then some (.goto 18, 24) else none)) else (bif Nat.blt pc 10 then (bif Nat.beq pc 9 then some (.iload_n 2, 0) else none) else (bif Nat.beq pc 10 then some (.iload_n 1, 0) else none)))) else (bif Nat.blt pc 19 then (bif Nat.blt pc 15 then (bif Nat.blt pc 14 then (bif Nat.beq pc 11 then some (.if_icmp .ge 12, 23) else none) else (bif Nat.beq pc 14 then some (.aload_n 0, 0) else none)) else (bif Nat.blt pc 18 then (bif Nat.beq pc 15 then some (.getfield 70, 0) else none) else (bif Nat.beq pc 18 then some (.iload_n 2, 0) else none))) else (bif Nat.blt pc 23 then (bif Nat.blt pc 20 then (bif Nat.beq pc 19 then some (.iaload, 0) else none) else (bif Nat.beq pc 20 then some (.goto 4, 24) else none)) else (bif Nat.blt pc 24 then (bif Nat.beq pc 23 then some (.iconst (-1), 0) else none) else (bif Nat.beq pc 24 then some (.ireturn, 0) else none))))
def MX7_ofRow : MI := (yX7_ofRow, cX7_ofRow, 3, (some .int), 7, zTab 25 tX7_ofRow)
theorem kX7_ofRow : zTok MX7_ofRow := zTok_of 25 tX7_ofRow rfl (by decide +kernel)
theorem oX7_ofRow : zokM MX7_ofRow 2 = true := zokM_mk (z_in (List.mem_of_getElem? (i := 1222) (by decide +kernel)) rfl) z_ini7 (by decide +kernel)
theorem iX7_ofRow : zokI MX7_ofRow = true := zokI_mk (z_in (List.mem_of_getElem? (i := 1221) (by decide +kernel)) rfl) (z_in (List.mem_of_getElem? (i := 61) (by decide +kernel)) rfl)
def tX7_spare : Nat → Option (Instr × Nat) := fun pc => bif Nat.blt pc 10 then (bif Nat.blt pc 3 then (bif Nat.blt pc 1 then (bif Nat.beq pc 0 then some (.iload_n 1, 0) else none) else (bif Nat.blt pc 2 then (bif Nat.beq pc 1 then some (.iconst (-1), 0) else none) else (bif Nat.beq pc 2 then some (.iconst 1, 0) else none))) else (bif Nat.blt pc 6 then (bif Nat.beq pc 3 then some (.invokestatic 104, 0) else none) else (bif Nat.blt pc 9 then (bif Nat.beq pc 6 then some (.ifCond .eq 15, 21) else none) else (bif Nat.beq pc 9 then some (.aload_n 0, 0) else none)))) else (bif Nat.blt pc 15 then (bif Nat.blt pc 11 then (bif Nat.beq pc 10 then some (.aload_n 0, 0) else none) else (bif Nat.blt pc 14 then (bif Nat.beq pc 11 then some (.invokevirtual 270, 0) else none) else (bif Nat.beq pc 14 then some (.iload_n 1, 0) else none))) else (bif Nat.blt pc 21 then (bif Nat.blt pc 18 then (bif Nat.beq pc 15 then some (.invokevirtual 273, 0) else none) else (bif Nat.beq pc 18 then some (.goto 5, 23) else none)) else (bif Nat.blt pc 23 then (bif Nat.beq pc 21 then some (.bipush (-2), 0) else none) else (bif Nat.beq pc 23 then some (.ireturn, 0) else none))))
def MX7_spare : MI := (yX7_spare, cX7_spare, 2, (some .int), 7, zTab 24 tX7_spare)
theorem kX7_spare : zTok MX7_spare := zTok_of 24 tX7_spare rfl (by decide +kernel)
theorem oX7_spare : zokM MX7_spare 1 = true := zokM_mk (z_in (List.mem_of_getElem? (i := 1210) (by decide +kernel)) rfl) z_ini7 (by decide +kernel)
theorem iX7_spare : zokI MX7_spare = true := zokI_mk (z_in (List.mem_of_getElem? (i := 1208) (by decide +kernel)) rfl) (z_in (List.mem_of_getElem? (i := 1209) (by decide +kernel)) rfl)
def tX7_seen : Nat → Option (Instr × Nat) := fun pc => bif Nat.blt pc 47 then (bif Nat.blt pc 24 then (bif Nat.blt pc 11 then (bif Nat.blt pc 4 then (bif Nat.blt pc 1 then (bif Nat.beq pc 0 then some (.iload_n 1, 0) else none) else (bif Nat.beq pc 1 then some (.invokestatic 116, 0) else none)) else (bif Nat.blt pc 7 then (bif Nat.beq pc 4 then some (.ifCond .eq 20, 24) else none) else (bif Nat.blt pc 8 then (bif Nat.beq pc 7 then some (.iload_n 2, 0) else none) else (bif Nat.beq pc 8 then some (.invokestatic 158, 0) else none)))) else (bif Nat.blt pc 16 then (bif Nat.blt pc 14 then (bif Nat.beq pc 11 then some (.ifCond .eq 13, 24) else none) else (bif Nat.blt pc 15 then (bif Nat.beq pc 14 then some (.iload_n 3, 0) else none) else (bif Nat.beq pc 15 then some (.iconst 0, 0) else none))) else (bif Nat.blt pc 18 then (bif Nat.beq pc 16 then some (.bipush 12, 0) else none) else (bif Nat.blt pc 21 then (bif Nat.beq pc 18 then some (.invokestatic 104, 0) else none) else (bif Nat.beq pc 21 then some (.ifCond .ne 6, 27) else none))))) else (bif Nat.blt pc 36 then (bif Nat.blt pc 28 then (bif Nat.blt pc 26 then (bif Nat.beq pc 24 then some (.bipush (-2), 0) else none) else (bif Nat.blt pc 27 then (bif Nat.beq pc 26 then some (.ireturn, 0) else none) else (bif Nat.beq pc 27 then some (.aload_n 0, 0) else none))) else (bif Nat.blt pc 31 then (bif Nat.beq pc 28 then some (.getfield 276, 0) else none) else (bif Nat.blt pc 33 then (bif Nat.beq pc 31 then some (.bipush 8, 0) else none) else (bif Nat.beq pc 33 then some (.if_icmp .ne 6, 39) else none)))) else (bif Nat.blt pc 40 then (bif Nat.blt pc 38 then (bif Nat.beq pc 36 then some (.bipush (-4), 0) else none) else (bif Nat.blt pc 39 then (bif Nat.beq pc 38 then some (.ireturn, 0) else none) else (bif Nat.beq pc 39 then some (.aload_n 0, 0) else none))) else (bif Nat.blt pc 43 then (bif Nat.beq pc 40 then some (.getfield 73, 0) else none) else (bif Nat.blt pc 44 then (bif Nat.beq pc 43 then some (.aload_n 0, 0) else none) else (bif Nat.beq pc 44 then some (.getfield 276, 0) else none)))))) else (bif Nat.blt pc 64 then (bif Nat.blt pc 54 then (bif Nat.blt pc 49 then (bif Nat.blt pc 48 then (bif Nat.beq pc 47 then some (.iload_n 1, 0) else none) else (bif Nat.beq pc 48 then some (.iastore, 0) else none)) else (bif Nat.blt pc 50 then (bif Nat.beq pc 49 then some (.aload_n 0, 0) else none) else (bif Nat.blt pc 53 then (bif Nat.beq pc 50 then some (.getfield 76, 0) else none) else (bif Nat.beq pc 53 then some (.aload_n 0, 0) else none)))) else (bif Nat.blt pc 59 then (bif Nat.blt pc 57 then (bif Nat.beq pc 54 then some (.getfield 276, 0) else none) else (bif Nat.blt pc 58 then (bif Nat.beq pc 57 then some (.iload_n 2, 0) else none) else (bif Nat.beq pc 58 then some (.iastore, 0) else none))) else (bif Nat.blt pc 60 then (bif Nat.beq pc 59 then some (.aload_n 0, 0) else none) else (bif Nat.blt pc 63 then (bif Nat.beq pc 60 then some (.getfield 79, 0) else none) else (bif Nat.beq pc 63 then some (.aload_n 0, 0) else none))))) else (bif Nat.blt pc 74 then (bif Nat.blt pc 69 then (bif Nat.blt pc 67 then (bif Nat.beq pc 64 then some (.getfield 276, 0) else none) else (bif Nat.blt pc 68 then (bif Nat.beq pc 67 then some (.iload_n 3, 0) else none) else (bif Nat.beq pc 68 then some (.iastore, 0) else none))) else (bif Nat.blt pc 70 then (bif Nat.beq pc 69 then some (.aload_n 0, 0) else none) else (bif Nat.blt pc 71 then (bif Nat.beq pc 70 then some (.dup, 0) else none) else (bif Nat.beq pc 71 then some (.getfield 276, 0) else none)))) else (bif Nat.blt pc 79 then (bif Nat.blt pc 75 then (bif Nat.beq pc 74 then some (.iconst 1, 0) else none) else (bif Nat.blt pc 76 then (bif Nat.beq pc 75 then some (.iadd, 0) else none) else (bif Nat.beq pc 76 then some (.putfield 276, 0) else none))) else (bif Nat.blt pc 80 then (bif Nat.beq pc 79 then some (.aload_n 0, 0) else none) else (bif Nat.blt pc 83 then (bif Nat.beq pc 80 then some (.getfield 276, 0) else none) else (bif Nat.beq pc 83 then some (.ireturn, 0) else none))))))
def MX7_seen : MI := (yX7_seen, cX7_seen, 4, (some .int), 7, zTab 84 tX7_seen)
theorem kX7_seen : zTok MX7_seen := zTok_of 84 tX7_seen rfl (by decide +kernel)
theorem oX7_seen : zokM MX7_seen 3 = true := zokM_mk (z_in (List.mem_of_getElem? (i := 1226) (by decide +kernel)) rfl) z_ini7 (by decide +kernel)
theorem iX7_seen : zokI MX7_seen = true := zokI_mk (z_in (List.mem_of_getElem? (i := 1224) (by decide +kernel)) rfl) (z_in (List.mem_of_getElem? (i := 1225) (by decide +kernel)) rfl)
def tX7_forget : Nat → Option (Instr × Nat) := fun pc => bif Nat.blt pc 6 then (bif Nat.blt pc 4 then (bif Nat.blt pc 1 then (bif Nat.beq pc 0 then some (.aload_n 0, 0) else none) else (bif Nat.beq pc 1 then some (.getfield 276, 0) else none)) else (bif Nat.blt pc 5 then (bif Nat.beq pc 4 then some (.istore_n 1, 0) else none) else (bif Nat.beq pc 5 then some (.aload_n 0, 0) else none))) else (bif Nat.blt pc 10 then (bif Nat.blt pc 7 then (bif Nat.beq pc 6 then some (.iconst 0, 0) else none) else (bif Nat.beq pc 7 then some (.putfield 276, 0) else none)) else (bif Nat.blt pc 11 then (bif Nat.beq pc 10 then some (.iload_n 1, 0) else none) else (bif Nat.beq pc 11 then some (.ireturn, 0) else none)))
def MX7_forget : MI := (yX7_forget, cX7_forget, 2, (some .int), 7, zTab 12 tX7_forget)
theorem kX7_forget : zTok MX7_forget := zTok_of 12 tX7_forget rfl (by decide +kernel)
theorem oX7_forget : zokM MX7_forget 0 = true := zokM_mk (z_in (List.mem_of_getElem? (i := 1230) (by decide +kernel)) rfl) z_ini7 (by decide +kernel)
theorem iX7_forget : zokI MX7_forget = true := zokI_mk (z_in (List.mem_of_getElem? (i := 1228) (by decide +kernel)) rfl) (z_in (List.mem_of_getElem? (i := 1229) (by decide +kernel)) rfl)
def tX7_isSeen : Nat → Option (Instr × Nat) := fun pc => bif Nat.blt pc 38 then (bif Nat.blt pc 17 then (bif Nat.blt pc 7 then (bif Nat.blt pc 4 then (bif Nat.blt pc 1 then (bif Nat.beq pc 0 then some (.aload_n 0, 0) else none) else (bif Nat.beq pc 1 then some (.invokevirtual 216, 0) else none)) else (bif Nat.blt pc 5 then (bif Nat.beq pc 4 then some (.iconst 1, 0) else none) else (bif Nat.blt pc 6 then (bif Nat.beq pc 5 then some (.istore_n 1, 0) else none) else (bif Nat.beq pc 6 then some (.iconst 0, 0) else none)))) else (bif Nat.blt pc 10 then (bif Nat.blt pc 8 then (bif Nat.beq pc 7 then some (.istore_n 2, 0) else none) else (bif Nat.blt pc 9 then (bif Nat.beq pc 8 then some (.iload_n 2, 0) else none) else (bif Nat.beq pc 9 then some (.aload_n 0, 0) else none))) else (bif Nat.blt pc 13 then (bif Nat.beq pc 10 then some (.getfield 276, 0) else none) else (bif Nat.blt pc 16 then (bif Nat.beq pc 13 then some (.if_icmp .ge 61, 74) else none) else (bif Nat.beq pc 16 then some (.iload_n 1, 0) else none))))) else (bif Nat.blt pc 30 then (bif Nat.blt pc 24 then (bif Nat.blt pc 20 then (bif Nat.beq pc 17 then some (.ifCond .eq 57, 74) else none) else (bif Nat.blt pc 21 then (bif Nat.beq pc 20 then some (.aload_n 0, 0) else none) else (bif Nat.beq pc 21 then some (.getfield 58, 0) else none))) else (bif Nat.blt pc 26 then (bif Nat.beq pc 24 then some (.bipush 12, 0) else none) else (bif Nat.blt pc 27 then (bif Nat.beq pc 26 then some (.aload_n 0, 0) else none) else (bif Nat.beq pc 27 then some (.getfield 73, 0) else none)))) else (bif Nat.blt pc 33 then (bif Nat.blt pc 31 then (bif Nat.beq pc 30 then some (.iload_n 2, 0) else none) else (bif Nat.blt pc 32 then (bif Nat.beq pc 31 then some (.iaload, 0) else none) else (bif Nat.beq pc 32 then some (.imul, 0) else none))) else (bif Nat.blt pc 34 then (bif Nat.beq pc 33 then some (.aload_n 0, 0) else none) else (bif Nat.blt pc 37 then (bif Nat.beq pc 34 then some (.getfield 76, 0) else none) else (bif Nat.beq pc 37 then some (.iload_n 2, 0) else none)))))) else (bif Nat.blt pc 54 then (bif Nat.blt pc 43 then (bif Nat.blt pc 40 then (bif Nat.blt pc 39 then (bif Nat.beq pc 38 then some (.iaload, 0) else none) else (bif Nat.beq pc 39 then some (.iadd, 0) else none)) else (bif Nat.blt pc 41 then (bif Nat.beq pc 40 then some (.iaload, 0) else none) else (bif Nat.blt pc 42 then (bif Nat.beq pc 41 then some (.istore_n 3, 0) else none) else (bif Nat.beq pc 42 then some (.iload_n 3, 0) else none)))) else (bif Nat.blt pc 49 then (bif Nat.blt pc 44 then (bif Nat.beq pc 43 then some (.iconst (-1), 0) else none) else (bif Nat.blt pc 47 then (bif Nat.beq pc 44 then some (.if_icmp .ne 8, 52) else none) else (bif Nat.beq pc 47 then some (.bipush 12, 0) else none))) else (bif Nat.blt pc 52 then (bif Nat.beq pc 49 then some (.goto 4, 53) else none) else (bif Nat.blt pc 53 then (bif Nat.beq pc 52 then some (.iload_n 3, 0) else none) else (bif Nat.beq pc 53 then some (.aload_n 0, 0) else none))))) else (bif Nat.blt pc 66 then (bif Nat.blt pc 59 then (bif Nat.blt pc 57 then (bif Nat.beq pc 54 then some (.getfield 79, 0) else none) else (bif Nat.blt pc 58 then (bif Nat.beq pc 57 then some (.iload_n 2, 0) else none) else (bif Nat.beq pc 58 then some (.iaload, 0) else none))) else (bif Nat.blt pc 62 then (bif Nat.beq pc 59 then some (.if_icmp .ne 7, 66) else none) else (bif Nat.blt pc 63 then (bif Nat.beq pc 62 then some (.iconst 1, 0) else none) else (bif Nat.beq pc 63 then some (.goto 4, 67) else none)))) else (bif Nat.blt pc 71 then (bif Nat.blt pc 67 then (bif Nat.beq pc 66 then some (.iconst 0, 0) else none) else (bif Nat.blt pc 68 then (bif Nat.beq pc 67 then some (.istore_n 1, 0) else none) else (bif Nat.beq pc 68 then some (.iinc 2 1, 0) else none))) else (bif Nat.blt pc 74 then (bif Nat.beq pc 71 then some (.goto (-63), 8) else none) else (bif Nat.blt pc 75 then (bif Nat.beq pc 74 then some (.iload_n 1, 0) else none) else (bif Nat.beq pc 75 then some (.ireturn, 0) else none))))))
def MX7_isSeen : MI := (yX7_isSeen, cX7_isSeen, 4, (some .boolean), 7, zTab 76 tX7_isSeen)
theorem kX7_isSeen : zTok MX7_isSeen := zTok_of 76 tX7_isSeen rfl (by decide +kernel)
theorem oX7_isSeen : zokM MX7_isSeen 0 = true := zokM_mk (z_in (List.mem_of_getElem? (i := 1242) (by decide +kernel)) rfl) z_ini7 (by decide +kernel)
theorem iX7_isSeen : zokI MX7_isSeen = true := zokI_mk (z_in (List.mem_of_getElem? (i := 1241) (by decide +kernel)) rfl) (z_in (List.mem_of_getElem? (i := 63) (by decide +kernel)) rfl)
def tX7_neverNow : Nat → Option (Instr × Nat) := fun pc => bif Nat.blt pc 23 then (bif Nat.blt pc 9 then (bif Nat.blt pc 5 then (bif Nat.blt pc 1 then (bif Nat.beq pc 0 then some (.aload_n 0, 0) else none) else (bif Nat.blt pc 4 then (bif Nat.beq pc 1 then some (.invokevirtual 213, 0) else none) else (bif Nat.beq pc 4 then some (.iconst 0, 0) else none))) else (bif Nat.blt pc 7 then (bif Nat.blt pc 6 then (bif Nat.beq pc 5 then some (.istore_n 1, 0) else none) else (bif Nat.beq pc 6 then some (.iconst 0, 0) else none)) else (bif Nat.blt pc 8 then (bif Nat.beq pc 7 then some (.istore_n 2, 0) else none) else (bif Nat.beq pc 8 then some (.iload_n 2, 0) else none)))) else (bif Nat.blt pc 17 then (bif Nat.blt pc 13 then (bif Nat.blt pc 10 then (bif Nat.beq pc 9 then some (.aload_n 0, 0) else none) else (bif Nat.beq pc 10 then some (.getfield 161, 0) else none)) else (bif Nat.blt pc 16 then (bif Nat.beq pc 13 then some (.if_icmp .ge 33, 46) else none) else (bif Nat.beq pc 16 then some (.aload_n 0, 0) else none))) else (bif Nat.blt pc 19 then (bif Nat.blt pc 18 then (bif Nat.beq pc 17 then some (.iconst 1, 0) else none) else (bif Nat.beq pc 18 then some (.iload_n 2, 0) else none)) else (bif Nat.blt pc 20 then (bif Nat.beq pc 19 then some (.ishl, 0) else none) else (bif Nat.beq pc 20 then some (.putfield 177, 0) else none))))) else (bif Nat.blt pc 34 then (bif Nat.blt pc 28 then (bif Nat.blt pc 24 then (bif Nat.beq pc 23 then some (.iload_n 1, 0) else none) else (bif Nat.blt pc 25 then (bif Nat.beq pc 24 then some (.aload_n 0, 0) else none) else (bif Nat.beq pc 25 then some (.invokevirtual 279, 0) else none))) else (bif Nat.blt pc 32 then (bif Nat.blt pc 31 then (bif Nat.beq pc 28 then some (.ifCond .eq 9, 37) else none) else (bif Nat.beq pc 31 then some (.iconst 1, 0) else none)) else (bif Nat.blt pc 33 then (bif Nat.beq pc 32 then some (.iload_n 2, 0) else none) else (bif Nat.beq pc 33 then some (.ishl, 0) else none)))) else (bif Nat.blt pc 40 then (bif Nat.blt pc 38 then (bif Nat.blt pc 37 then (bif Nat.beq pc 34 then some (.goto 4, 38) else none) else (bif Nat.beq pc 37 then some (.iconst 0, 0) else none)) else (bif Nat.blt pc 39 then (bif Nat.beq pc 38 then some (.ior, 0) else none) else (bif Nat.beq pc 39 then some (.istore_n 1, 0) else none))) else (bif Nat.blt pc 46 then (bif Nat.blt pc 43 then (bif Nat.beq pc 40 then some (.iinc 2 1, 0) else none) else (bif Nat.beq pc 43 then some (.goto (-35), 8) else none)) else (bif Nat.blt pc 47 then (bif Nat.beq pc 46 then some (.iload_n 1, 0) else none) else (bif Nat.beq pc 47 then some (.ireturn, 0) else none)))))
def MX7_neverNow : MI := (yX7_neverNow, cX7_neverNow, 3, (some .int), 7, zTab 48 tX7_neverNow)
theorem kX7_neverNow : zTok MX7_neverNow := zTok_of 48 tX7_neverNow rfl (by decide +kernel)
theorem oX7_neverNow : zokM MX7_neverNow 0 = true := zokM_mk (z_in (List.mem_of_getElem? (i := 1238) (by decide +kernel)) rfl) z_ini7 (by decide +kernel)
theorem iX7_neverNow : zokI MX7_neverNow = true := zokI_mk (z_in (List.mem_of_getElem? (i := 1237) (by decide +kernel)) rfl) (z_in (List.mem_of_getElem? (i := 62) (by decide +kernel)) rfl)
def tX7_never : Nat → Option (Instr × Nat) := fun pc => bif Nat.blt pc 1 then (bif Nat.beq pc 0 then some (.aload_n 0, 0) else none) else (bif Nat.blt pc 4 then (bif Nat.beq pc 1 then some (.invokevirtual 283, 0) else none) else (bif Nat.beq pc 4 then some (.ireturn, 0) else none))
def MX7_never : MI := (yX7_never, cX7_never, 1, (some .int), 7, zTab 5 tX7_never)
theorem kX7_never : zTok MX7_never := zTok_of 5 tX7_never rfl (by decide +kernel)
theorem oX7_never : zokM MX7_never 0 = true := zokM_mk (z_in (List.mem_of_getElem? (i := 1234) (by decide +kernel)) rfl) z_ini7 (by decide +kernel)
theorem iX7_never : zokI MX7_never = true := zokI_mk (z_in (List.mem_of_getElem? (i := 1232) (by decide +kernel)) rfl) (z_in (List.mem_of_getElem? (i := 1233) (by decide +kernel)) rfl)
def tX7_sortsBy : Nat → Option (Instr × Nat) := fun pc => bif Nat.blt pc 30 then (bif Nat.blt pc 13 then (bif Nat.blt pc 8 then (bif Nat.blt pc 4 then (bif Nat.blt pc 1 then (bif Nat.beq pc 0 then some (.aload_n 0, 0) else none) else (bif Nat.beq pc 1 then some (.invokevirtual 213, 0) else none)) else (bif Nat.blt pc 5 then (bif Nat.beq pc 4 then some (.aload_n 0, 0) else none) else (bif Nat.beq pc 5 then some (.getfield 19, 0) else none))) else (bif Nat.blt pc 10 then (bif Nat.blt pc 9 then (bif Nat.beq pc 8 then some (.iload_n 1, 0) else none) else (bif Nat.beq pc 9 then some (.iaload, 0) else none)) else (bif Nat.blt pc 11 then (bif Nat.beq pc 10 then some (.istore_n 2, 0) else none) else (bif Nat.blt pc 12 then (bif Nat.beq pc 11 then some (.iconst 0, 0) else none) else (bif Nat.beq pc 12 then some (.istore_n 3, 0) else none))))) else (bif Nat.blt pc 22 then (bif Nat.blt pc 16 then (bif Nat.blt pc 14 then (bif Nat.beq pc 13 then some (.iconst 0, 0) else none) else (bif Nat.beq pc 14 then some (.istore 4, 0) else none)) else (bif Nat.blt pc 18 then (bif Nat.beq pc 16 then some (.iload 4, 0) else none) else (bif Nat.blt pc 19 then (bif Nat.beq pc 18 then some (.iconst 3, 0) else none) else (bif Nat.beq pc 19 then some (.if_icmp .ge 35, 54) else none)))) else (bif Nat.blt pc 26 then (bif Nat.blt pc 23 then (bif Nat.beq pc 22 then some (.aload_n 0, 0) else none) else (bif Nat.beq pc 23 then some (.getfield 19, 0) else none)) else (bif Nat.blt pc 27 then (bif Nat.beq pc 26 then some (.iload_n 1, 0) else none) else (bif Nat.blt pc 29 then (bif Nat.beq pc 27 then some (.iload 4, 0) else none) else (bif Nat.beq pc 29 then some (.iastore, 0) else none)))))) else (bif Nat.blt pc 47 then (bif Nat.blt pc 39 then (bif Nat.blt pc 32 then (bif Nat.blt pc 31 then (bif Nat.beq pc 30 then some (.iload_n 3, 0) else none) else (bif Nat.beq pc 31 then some (.aload_n 0, 0) else none)) else (bif Nat.blt pc 35 then (bif Nat.beq pc 32 then some (.invokevirtual 279, 0) else none) else (bif Nat.blt pc 38 then (bif Nat.beq pc 35 then some (.ifCond .eq 10, 45) else none) else (bif Nat.beq pc 38 then some (.iconst 1, 0) else none)))) else (bif Nat.blt pc 42 then (bif Nat.blt pc 41 then (bif Nat.beq pc 39 then some (.iload 4, 0) else none) else (bif Nat.beq pc 41 then some (.ishl, 0) else none)) else (bif Nat.blt pc 45 then (bif Nat.beq pc 42 then some (.goto 4, 46) else none) else (bif Nat.blt pc 46 then (bif Nat.beq pc 45 then some (.iconst 0, 0) else none) else (bif Nat.beq pc 46 then some (.ior, 0) else none))))) else (bif Nat.blt pc 58 then (bif Nat.blt pc 51 then (bif Nat.blt pc 48 then (bif Nat.beq pc 47 then some (.istore_n 3, 0) else none) else (bif Nat.beq pc 48 then some (.iinc 4 1, 0) else none)) else (bif Nat.blt pc 54 then (bif Nat.beq pc 51 then some (.goto (-35), 16) else none) else (bif Nat.blt pc 55 then (bif Nat.beq pc 54 then some (.aload_n 0, 0) else none) else (bif Nat.beq pc 55 then some (.getfield 19, 0) else none)))) else (bif Nat.blt pc 60 then (bif Nat.blt pc 59 then (bif Nat.beq pc 58 then some (.iload_n 1, 0) else none) else (bif Nat.beq pc 59 then some (.iload_n 2, 0) else none)) else (bif Nat.blt pc 61 then (bif Nat.beq pc 60 then some (.iastore, 0) else none) else (bif Nat.blt pc 62 then (bif Nat.beq pc 61 then some (.iload_n 3, 0) else none) else (bif Nat.beq pc 62 then some (.ireturn, 0) else none))))))
def MX7_sortsBy : MI := (yX7_sortsBy, cX7_sortsBy, 5, (some .int), 7, zTab 63 tX7_sortsBy)
theorem kX7_sortsBy : zTok MX7_sortsBy := zTok_of 63 tX7_sortsBy rfl (by decide +kernel)
theorem oX7_sortsBy : zokM MX7_sortsBy 1 = true := zokM_mk (z_in (List.mem_of_getElem? (i := 1250) (by decide +kernel)) rfl) z_ini7 (by decide +kernel)
theorem iX7_sortsBy : zokI MX7_sortsBy = true := zokI_mk (z_in (List.mem_of_getElem? (i := 1249) (by decide +kernel)) rfl) (z_in (List.mem_of_getElem? (i := 64) (by decide +kernel)) rfl)
def tX7_rowAt : Nat → Option (Instr × Nat) := fun pc => bif Nat.blt pc 23 then (bif Nat.blt pc 9 then (bif Nat.blt pc 3 then (bif Nat.blt pc 1 then (bif Nat.beq pc 0 then some (.lconst 0, 0) else none) else (bif Nat.blt pc 2 then (bif Nat.beq pc 1 then some (.lstore_n 2, 0) else none) else (bif Nat.beq pc 2 then some (.iconst 0, 0) else none))) else (bif Nat.blt pc 5 then (bif Nat.beq pc 3 then some (.istore 4, 0) else none) else (bif Nat.blt pc 7 then (bif Nat.beq pc 5 then some (.iload 4, 0) else none) else (bif Nat.beq pc 7 then some (.bipush 12, 0) else none)))) else (bif Nat.blt pc 16 then (bif Nat.blt pc 12 then (bif Nat.beq pc 9 then some (.if_icmp .ge 31, 40) else none) else (bif Nat.blt pc 15 then (bif Nat.beq pc 12 then some (.ldc2_w 286, 0) else none) else (bif Nat.beq pc 15 then some (.lload_n 2, 0) else none))) else (bif Nat.blt pc 18 then (bif Nat.blt pc 17 then (bif Nat.beq pc 16 then some (.lmul, 0) else none) else (bif Nat.beq pc 17 then some (.aload_n 0, 0) else none)) else (bif Nat.blt pc 21 then (bif Nat.beq pc 18 then some (.getfield 58, 0) else none) else (bif Nat.beq pc 21 then some (.bipush 12, 0) else none))))) else (bif Nat.blt pc 31 then (bif Nat.blt pc 27 then (bif Nat.blt pc 24 then (bif Nat.beq pc 23 then some (.iload_n 1, 0) else none) else (bif Nat.blt pc 25 then (bif Nat.beq pc 24 then some (.imul, 0) else none) else (bif Nat.beq pc 25 then some (.iload 4, 0) else none))) else (bif Nat.blt pc 29 then (bif Nat.blt pc 28 then (bif Nat.beq pc 27 then some (.iadd, 0) else none) else (bif Nat.beq pc 28 then some (.iaload, 0) else none)) else (bif Nat.blt pc 30 then (bif Nat.beq pc 29 then some (.i2l, 0) else none) else (bif Nat.beq pc 30 then some (.ladd, 0) else none)))) else (bif Nat.blt pc 34 then (bif Nat.blt pc 32 then (bif Nat.beq pc 31 then some (.lconst 1, 0) else none) else (bif Nat.blt pc 33 then (bif Nat.beq pc 32 then some (.ladd, 0) else none) else (bif Nat.beq pc 33 then some (.lstore_n 2, 0) else none))) else (bif Nat.blt pc 40 then (bif Nat.blt pc 37 then (bif Nat.beq pc 34 then some (.iinc 4 1, 0) else none) else (bif Nat.beq pc 37 then some (.goto (-32), 5) else none)) else (bif Nat.blt pc 41 then (bif Nat.beq pc 40 then some (.lload_n 2, 0) else none) else (bif Nat.beq pc 41 then some (.lreturn, 0) else none)))))
def MX7_rowAt : MI := (yX7_rowAt, cX7_rowAt, 5, (some .long), 7, zTab 42 tX7_rowAt)
theorem kX7_rowAt : zTok MX7_rowAt := zTok_of 42 tX7_rowAt rfl (by decide +kernel)
theorem oX7_rowAt : zokM MX7_rowAt 1 = true := zokM_mk (z_in (List.mem_of_getElem? (i := 1258) (by decide +kernel)) rfl) z_ini7 (by decide +kernel)
theorem iX7_rowAt : zokI MX7_rowAt = true := zokI_mk (z_in (List.mem_of_getElem? (i := 1257) (by decide +kernel)) rfl) (z_in (List.mem_of_getElem? (i := 66) (by decide +kernel)) rfl)
def tX7_parcelsBy : Nat → Option (Instr × Nat) := fun pc => bif Nat.blt pc 47 then (bif Nat.blt pc 23 then (bif Nat.blt pc 11 then (bif Nat.blt pc 5 then (bif Nat.blt pc 1 then (bif Nat.beq pc 0 then some (.aload_n 0, 0) else none) else (bif Nat.blt pc 4 then (bif Nat.beq pc 1 then some (.invokevirtual 213, 0) else none) else (bif Nat.beq pc 4 then some (.aload_n 0, 0) else none))) else (bif Nat.blt pc 9 then (bif Nat.blt pc 8 then (bif Nat.beq pc 5 then some (.getfield 22, 0) else none) else (bif Nat.beq pc 8 then some (.iload_n 1, 0) else none)) else (bif Nat.blt pc 10 then (bif Nat.beq pc 9 then some (.iaload, 0) else none) else (bif Nat.beq pc 10 then some (.istore_n 2, 0) else none)))) else (bif Nat.blt pc 14 then (bif Nat.blt pc 12 then (bif Nat.beq pc 11 then some (.iconst 0, 0) else none) else (bif Nat.blt pc 13 then (bif Nat.beq pc 12 then some (.istore_n 3, 0) else none) else (bif Nat.beq pc 13 then some (.iconst 1, 0) else none))) else (bif Nat.blt pc 18 then (bif Nat.blt pc 16 then (bif Nat.beq pc 14 then some (.istore 4, 0) else none) else (bif Nat.beq pc 16 then some (.iload 4, 0) else none)) else (bif Nat.blt pc 20 then (bif Nat.beq pc 18 then some (.bipush 10, 0) else none) else (bif Nat.beq pc 20 then some (.if_icmp .ge 70, 90) else none))))) else (bif Nat.blt pc 33 then (bif Nat.blt pc 28 then (bif Nat.blt pc 24 then (bif Nat.beq pc 23 then some (.aload_n 0, 0) else none) else (bif Nat.blt pc 27 then (bif Nat.beq pc 24 then some (.getfield 22, 0) else none) else (bif Nat.beq pc 27 then some (.iload_n 1, 0) else none))) else (bif Nat.blt pc 31 then (bif Nat.blt pc 30 then (bif Nat.beq pc 28 then some (.iload 4, 0) else none) else (bif Nat.beq pc 30 then some (.iastore, 0) else none)) else (bif Nat.blt pc 32 then (bif Nat.beq pc 31 then some (.iload_n 3, 0) else none) else (bif Nat.beq pc 32 then some (.aload_n 0, 0) else none)))) else (bif Nat.blt pc 40 then (bif Nat.blt pc 36 then (bif Nat.beq pc 33 then some (.invokevirtual 279, 0) else none) else (bif Nat.blt pc 39 then (bif Nat.beq pc 36 then some (.ifCond .eq 10, 46) else none) else (bif Nat.beq pc 39 then some (.iconst 1, 0) else none))) else (bif Nat.blt pc 43 then (bif Nat.blt pc 42 then (bif Nat.beq pc 40 then some (.iload 4, 0) else none) else (bif Nat.beq pc 42 then some (.ishl, 0) else none)) else (bif Nat.blt pc 46 then (bif Nat.beq pc 43 then some (.goto 4, 47) else none) else (bif Nat.beq pc 46 then some (.iconst 0, 0) else none)))))) else (bif Nat.blt pc 71 then (bif Nat.blt pc 59 then (bif Nat.blt pc 50 then (bif Nat.blt pc 48 then (bif Nat.beq pc 47 then some (.ior, 0) else none) else (bif Nat.blt pc 49 then (bif Nat.beq pc 48 then some (.istore_n 3, 0) else none) else (bif Nat.beq pc 49 then some (.iconst 0, 0) else none))) else (bif Nat.blt pc 54 then (bif Nat.blt pc 52 then (bif Nat.beq pc 50 then some (.istore 5, 0) else none) else (bif Nat.beq pc 52 then some (.iload 5, 0) else none)) else (bif Nat.blt pc 56 then (bif Nat.beq pc 54 then some (.bipush 24, 0) else none) else (bif Nat.beq pc 56 then some (.if_icmp .ge 28, 84) else none)))) else (bif Nat.blt pc 65 then (bif Nat.blt pc 60 then (bif Nat.beq pc 59 then some (.aload_n 0, 0) else none) else (bif Nat.blt pc 63 then (bif Nat.beq pc 60 then some (.getfield 82, 0) else none) else (bif Nat.beq pc 63 then some (.bipush 24, 0) else none))) else (bif Nat.blt pc 68 then (bif Nat.blt pc 67 then (bif Nat.beq pc 65 then some (.iload 4, 0) else none) else (bif Nat.beq pc 67 then some (.imul, 0) else none)) else (bif Nat.blt pc 70 then (bif Nat.beq pc 68 then some (.iload 5, 0) else none) else (bif Nat.beq pc 70 then some (.iadd, 0) else none))))) else (bif Nat.blt pc 87 then (bif Nat.blt pc 77 then (bif Nat.blt pc 72 then (bif Nat.beq pc 71 then some (.aload_n 0, 0) else none) else (bif Nat.blt pc 74 then (bif Nat.beq pc 72 then some (.iload 5, 0) else none) else (bif Nat.beq pc 74 then some (.invokevirtual 288, 0) else none))) else (bif Nat.blt pc 81 then (bif Nat.blt pc 78 then (bif Nat.beq pc 77 then some (.lastore, 0) else none) else (bif Nat.beq pc 78 then some (.iinc 5 1, 0) else none)) else (bif Nat.blt pc 84 then (bif Nat.beq pc 81 then some (.goto (-29), 52) else none) else (bif Nat.beq pc 84 then some (.iinc 4 1, 0) else none)))) else (bif Nat.blt pc 95 then (bif Nat.blt pc 91 then (bif Nat.blt pc 90 then (bif Nat.beq pc 87 then some (.goto (-71), 16) else none) else (bif Nat.beq pc 90 then some (.aload_n 0, 0) else none)) else (bif Nat.blt pc 94 then (bif Nat.beq pc 91 then some (.getfield 22, 0) else none) else (bif Nat.beq pc 94 then some (.iload_n 1, 0) else none))) else (bif Nat.blt pc 97 then (bif Nat.blt pc 96 then (bif Nat.beq pc 95 then some (.iload_n 2, 0) else none) else (bif Nat.beq pc 96 then some (.iastore, 0) else none)) else (bif Nat.blt pc 98 then (bif Nat.beq pc 97 then some (.iload_n 3, 0) else none) else (bif Nat.beq pc 98 then some (.ireturn, 0) else none))))))
def MX7_parcelsBy : MI := (yX7_parcelsBy, cX7_parcelsBy, 6, (some .int), 7, zTab 99 tX7_parcelsBy)
theorem kX7_parcelsBy : zTok MX7_parcelsBy := zTok_of 99 tX7_parcelsBy rfl (by decide +kernel)
theorem oX7_parcelsBy : zokM MX7_parcelsBy 1 = true := zokM_mk (z_in (List.mem_of_getElem? (i := 1254) (by decide +kernel)) rfl) z_ini7 (by decide +kernel)
theorem iX7_parcelsBy : zokI MX7_parcelsBy = true := zokI_mk (z_in (List.mem_of_getElem? (i := 1253) (by decide +kernel)) rfl) (z_in (List.mem_of_getElem? (i := 65) (by decide +kernel)) rfl)
def tX7_was : Nat → Option (Instr × Nat) := fun pc => bif Nat.blt pc 19 then (bif Nat.blt pc 8 then (bif Nat.blt pc 2 then (bif Nat.blt pc 1 then (bif Nat.beq pc 0 then some (.aload_n 0, 0) else none) else (bif Nat.beq pc 1 then some (.iload_n 1, 0) else none)) else (bif Nat.blt pc 5 then (bif Nat.beq pc 2 then some (.invokevirtual 146, 0) else none) else (bif Nat.beq pc 5 then some (.ifCond .eq 30, 35) else none))) else (bif Nat.blt pc 12 then (bif Nat.blt pc 9 then (bif Nat.beq pc 8 then some (.iload_n 2, 0) else none) else (bif Nat.beq pc 9 then some (.invokestatic 246, 0) else none)) else (bif Nat.blt pc 15 then (bif Nat.beq pc 12 then some (.ifCond .eq 23, 35) else none) else (bif Nat.blt pc 16 then (bif Nat.beq pc 15 then some (.iload_n 2, 0) else none) else (bif Nat.beq pc 16 then some (.ifCond .ne 11, 27) else none))))) else (bif Nat.blt pc 28 then (bif Nat.blt pc 21 then (bif Nat.blt pc 20 then (bif Nat.beq pc 19 then some (.aload_n 0, 0) else none) else (bif Nat.beq pc 20 then some (.iload_n 1, 0) else none)) else (bif Nat.blt pc 24 then (bif Nat.beq pc 21 then some (.invokevirtual 292, 0) else none) else (bif Nat.blt pc 27 then (bif Nat.beq pc 24 then some (.goto 13, 37) else none) else (bif Nat.beq pc 27 then some (.aload_n 0, 0) else none)))) else (bif Nat.blt pc 32 then (bif Nat.blt pc 29 then (bif Nat.beq pc 28 then some (.iload_n 1, 0) else none) else (bif Nat.beq pc 29 then some (.invokevirtual 295, 0) else none)) else (bif Nat.blt pc 35 then (bif Nat.beq pc 32 then some (.goto 5, 37) else none) else (bif Nat.blt pc 37 then (bif Nat.beq pc 35 then some (.bipush (-2), 0) else none) else (bif Nat.beq pc 37 then some (.ireturn, 0) else none)))))
def MX7_was : MI := (yX7_was, cX7_was, 3, (some .int), 7, zTab 38 tX7_was)
theorem kX7_was : zTok MX7_was := zTok_of 38 tX7_was rfl (by decide +kernel)
theorem oX7_was : zokM MX7_was 2 = true := zokM_mk (z_in (List.mem_of_getElem? (i := 1246) (by decide +kernel)) rfl) z_ini7 (by decide +kernel)
theorem iX7_was : zokI MX7_was = true := zokI_mk (z_in (List.mem_of_getElem? (i := 1244) (by decide +kernel)) rfl) (z_in (List.mem_of_getElem? (i := 1245) (by decide +kernel)) rfl)
def tX7_askOf : Nat → Option (Instr × Nat) := fun pc => bif Nat.blt pc 88 then (bif Nat.blt pc 40 then (bif Nat.blt pc 18 then (bif Nat.blt pc 8 then (bif Nat.blt pc 5 then (bif Nat.blt pc 1 then (bif Nat.beq pc 0 then some (.aload_n 0, 0) else none) else (bif Nat.blt pc 2 then (bif Nat.beq pc 1 then some (.iload_n 1, 0) else none) else (bif Nat.beq pc 2 then some (.invokevirtual 295, 0) else none))) else (bif Nat.blt pc 6 then (bif Nat.beq pc 5 then some (.istore_n 2, 0) else none) else (bif Nat.blt pc 7 then (bif Nat.beq pc 6 then some (.iconst (-1), 0) else none) else (bif Nat.beq pc 7 then some (.istore_n 3, 0) else none)))) else (bif Nat.blt pc 12 then (bif Nat.blt pc 9 then (bif Nat.beq pc 8 then some (.iconst 0, 0) else none) else (bif Nat.blt pc 11 then (bif Nat.beq pc 9 then some (.istore 4, 0) else none) else (bif Nat.beq pc 11 then some (.iconst 0, 0) else none))) else (bif Nat.blt pc 14 then (bif Nat.beq pc 12 then some (.istore 5, 0) else none) else (bif Nat.blt pc 16 then (bif Nat.beq pc 14 then some (.iload 5, 0) else none) else (bif Nat.beq pc 16 then some (.bipush 24, 0) else none))))) else (bif Nat.blt pc 29 then (bif Nat.blt pc 24 then (bif Nat.blt pc 21 then (bif Nat.beq pc 18 then some (.if_icmp .ge 166, 184) else none) else (bif Nat.blt pc 22 then (bif Nat.beq pc 21 then some (.iconst 0, 0) else none) else (bif Nat.beq pc 22 then some (.istore 6, 0) else none))) else (bif Nat.blt pc 25 then (bif Nat.beq pc 24 then some (.iconst 1, 0) else none) else (bif Nat.blt pc 27 then (bif Nat.beq pc 25 then some (.istore 7, 0) else none) else (bif Nat.beq pc 27 then some (.iload 7, 0) else none)))) else (bif Nat.blt pc 35 then (bif Nat.blt pc 31 then (bif Nat.beq pc 29 then some (.bipush 10, 0) else none) else (bif Nat.blt pc 34 then (bif Nat.beq pc 31 then some (.if_icmp .ge 102, 133) else none) else (bif Nat.beq pc 34 then some (.iconst 0, 0) else none))) else (bif Nat.blt pc 37 then (bif Nat.beq pc 35 then some (.istore 8, 0) else none) else (bif Nat.blt pc 38 then (bif Nat.beq pc 37 then some (.iconst 1, 0) else none) else (bif Nat.beq pc 38 then some (.istore 9, 0) else none)))))) else (bif Nat.blt pc 67 then (bif Nat.blt pc 52 then (bif Nat.blt pc 47 then (bif Nat.blt pc 42 then (bif Nat.beq pc 40 then some (.iload 9, 0) else none) else (bif Nat.blt pc 44 then (bif Nat.beq pc 42 then some (.bipush 10, 0) else none) else (bif Nat.beq pc 44 then some (.if_icmp .ge 67, 111) else none))) else (bif Nat.blt pc 49 then (bif Nat.beq pc 47 then some (.iload 8, 0) else none) else (bif Nat.blt pc 50 then (bif Nat.beq pc 49 then some (.iload_n 2, 0) else none) else (bif Nat.beq pc 50 then some (.iload 7, 0) else none)))) else (bif Nat.blt pc 59 then (bif Nat.blt pc 55 then (bif Nat.beq pc 52 then some (.invokestatic 197, 0) else none) else (bif Nat.blt pc 58 then (bif Nat.beq pc 55 then some (.ifCond .eq 46, 101) else none) else (bif Nat.beq pc 58 then some (.iload_n 2, 0) else none))) else (bif Nat.blt pc 61 then (bif Nat.beq pc 59 then some (.iload 9, 0) else none) else (bif Nat.blt pc 64 then (bif Nat.beq pc 61 then some (.invokestatic 197, 0) else none) else (bif Nat.beq pc 64 then some (.ifCond .eq 37, 101) else none))))) else (bif Nat.blt pc 78 then (bif Nat.blt pc 73 then (bif Nat.blt pc 68 then (bif Nat.beq pc 67 then some (.aload_n 0, 0) else none) else (bif Nat.blt pc 71 then (bif Nat.beq pc 68 then some (.getfield 82, 0) else none) else (bif Nat.beq pc 71 then some (.bipush 24, 0) else none))) else (bif Nat.blt pc 75 then (bif Nat.beq pc 73 then some (.iload 7, 0) else none) else (bif Nat.blt pc 76 then (bif Nat.beq pc 75 then some (.imul, 0) else none) else (bif Nat.beq pc 76 then some (.iload 5, 0) else none)))) else (bif Nat.blt pc 81 then (bif Nat.blt pc 79 then (bif Nat.beq pc 78 then some (.iadd, 0) else none) else (bif Nat.blt pc 80 then (bif Nat.beq pc 79 then some (.laload, 0) else none) else (bif Nat.beq pc 80 then some (.aload_n 0, 0) else none))) else (bif Nat.blt pc 84 then (bif Nat.beq pc 81 then some (.getfield 82, 0) else none) else (bif Nat.blt pc 86 then (bif Nat.beq pc 84 then some (.bipush 24, 0) else none) else (bif Nat.beq pc 86 then some (.iload 9, 0) else none))))))) else (bif Nat.blt pc 135 then (bif Nat.blt pc 108 then (bif Nat.blt pc 97 then (bif Nat.blt pc 92 then (bif Nat.blt pc 89 then (bif Nat.beq pc 88 then some (.imul, 0) else none) else (bif Nat.blt pc 91 then (bif Nat.beq pc 89 then some (.iload 5, 0) else none) else (bif Nat.beq pc 91 then some (.iadd, 0) else none))) else (bif Nat.blt pc 93 then (bif Nat.beq pc 92 then some (.laload, 0) else none) else (bif Nat.blt pc 94 then (bif Nat.beq pc 93 then some (.lcmp, 0) else none) else (bif Nat.beq pc 94 then some (.ifCond .ne 7, 101) else none)))) else (bif Nat.blt pc 102 then (bif Nat.blt pc 98 then (bif Nat.beq pc 97 then some (.iconst 1, 0) else none) else (bif Nat.blt pc 101 then (bif Nat.beq pc 98 then some (.goto 4, 102) else none) else (bif Nat.beq pc 101 then some (.iconst 0, 0) else none))) else (bif Nat.blt pc 103 then (bif Nat.beq pc 102 then some (.iadd, 0) else none) else (bif Nat.blt pc 105 then (bif Nat.beq pc 103 then some (.istore 8, 0) else none) else (bif Nat.beq pc 105 then some (.iinc 9 1, 0) else none))))) else (bif Nat.blt pc 123 then (bif Nat.blt pc 115 then (bif Nat.blt pc 111 then (bif Nat.beq pc 108 then some (.goto (-68), 40) else none) else (bif Nat.blt pc 113 then (bif Nat.beq pc 111 then some (.iload 8, 0) else none) else (bif Nat.beq pc 113 then some (.iload 6, 0) else none))) else (bif Nat.blt pc 118 then (bif Nat.beq pc 115 then some (.if_icmp .le 8, 123) else none) else (bif Nat.blt pc 120 then (bif Nat.beq pc 118 then some (.iload 8, 0) else none) else (bif Nat.beq pc 120 then some (.goto 5, 125) else none)))) else (bif Nat.blt pc 130 then (bif Nat.blt pc 125 then (bif Nat.beq pc 123 then some (.iload 6, 0) else none) else (bif Nat.blt pc 127 then (bif Nat.beq pc 125 then some (.istore 6, 0) else none) else (bif Nat.beq pc 127 then some (.iinc 7 1, 0) else none))) else (bif Nat.blt pc 133 then (bif Nat.beq pc 130 then some (.goto (-103), 27) else none) else (bif Nat.blt pc 134 then (bif Nat.beq pc 133 then some (.iload_n 3, 0) else none) else (bif Nat.beq pc 134 then some (.iconst (-1), 0) else none)))))) else (bif Nat.blt pc 162 then (bif Nat.blt pc 149 then (bif Nat.blt pc 142 then (bif Nat.blt pc 138 then (bif Nat.beq pc 135 then some (.if_icmp .eq 10, 145) else none) else (bif Nat.blt pc 140 then (bif Nat.beq pc 138 then some (.iload 6, 0) else none) else (bif Nat.beq pc 140 then some (.iload 4, 0) else none))) else (bif Nat.blt pc 145 then (bif Nat.beq pc 142 then some (.if_icmp .ge 7, 149) else none) else (bif Nat.blt pc 146 then (bif Nat.beq pc 145 then some (.iconst 1, 0) else none) else (bif Nat.beq pc 146 then some (.goto 4, 150) else none)))) else (bif Nat.blt pc 154 then (bif Nat.blt pc 150 then (bif Nat.beq pc 149 then some (.iconst 0, 0) else none) else (bif Nat.blt pc 152 then (bif Nat.beq pc 150 then some (.istore 7, 0) else none) else (bif Nat.beq pc 152 then some (.iload 7, 0) else none))) else (bif Nat.blt pc 157 then (bif Nat.beq pc 154 then some (.ifCond .eq 8, 162) else none) else (bif Nat.blt pc 159 then (bif Nat.beq pc 157 then some (.iload 5, 0) else none) else (bif Nat.beq pc 159 then some (.goto 4, 163) else none))))) else (bif Nat.blt pc 174 then (bif Nat.blt pc 166 then (bif Nat.blt pc 163 then (bif Nat.beq pc 162 then some (.iload_n 3, 0) else none) else (bif Nat.blt pc 164 then (bif Nat.beq pc 163 then some (.istore_n 3, 0) else none) else (bif Nat.beq pc 164 then some (.iload 7, 0) else none))) else (bif Nat.blt pc 169 then (bif Nat.beq pc 166 then some (.ifCond .eq 8, 174) else none) else (bif Nat.blt pc 171 then (bif Nat.beq pc 169 then some (.iload 6, 0) else none) else (bif Nat.beq pc 171 then some (.goto 5, 176) else none)))) else (bif Nat.blt pc 181 then (bif Nat.blt pc 176 then (bif Nat.beq pc 174 then some (.iload 4, 0) else none) else (bif Nat.blt pc 178 then (bif Nat.beq pc 176 then some (.istore 4, 0) else none) else (bif Nat.beq pc 178 then some (.iinc 5 1, 0) else none))) else (bif Nat.blt pc 184 then (bif Nat.beq pc 181 then some (.goto (-167), 14) else none) else (bif Nat.blt pc 185 then (bif Nat.beq pc 184 then some (.iload_n 3, 0) else none) else (bif Nat.beq pc 185 then some (.ireturn, 0) else none)))))))
def MX7_askOf : MI := (yX7_askOf, cX7_askOf, 10, (some .int), 7, zTab 186 tX7_askOf)
theorem kX7_askOf : zTok MX7_askOf := zTok_of 186 tX7_askOf rfl (by decide +kernel)
theorem oX7_askOf : zokM MX7_askOf 1 = true := zokM_mk (z_in (List.mem_of_getElem? (i := 1267) (by decide +kernel)) rfl) z_ini7 (by decide +kernel)
theorem iX7_askOf : zokI MX7_askOf = true := zokI_mk (z_in (List.mem_of_getElem? (i := 1266) (by decide +kernel)) rfl) (z_in (List.mem_of_getElem? (i := 67) (by decide +kernel)) rfl)
def tX7_ask : Nat → Option (Instr × Nat) := fun pc => bif Nat.blt pc 9 then (bif Nat.blt pc 2 then (bif Nat.blt pc 1 then (bif Nat.beq pc 0 then some (.aload_n 0, 0) else none) else (bif Nat.beq pc 1 then some (.iload_n 1, 0) else none)) else (bif Nat.blt pc 5 then (bif Nat.beq pc 2 then some (.invokevirtual 146, 0) else none) else (bif Nat.blt pc 8 then (bif Nat.beq pc 5 then some (.ifCond .eq 11, 16) else none) else (bif Nat.beq pc 8 then some (.aload_n 0, 0) else none)))) else (bif Nat.blt pc 13 then (bif Nat.blt pc 10 then (bif Nat.beq pc 9 then some (.iload_n 1, 0) else none) else (bif Nat.beq pc 10 then some (.invokevirtual 298, 0) else none)) else (bif Nat.blt pc 16 then (bif Nat.beq pc 13 then some (.goto 5, 18) else none) else (bif Nat.blt pc 18 then (bif Nat.beq pc 16 then some (.bipush (-2), 0) else none) else (bif Nat.beq pc 18 then some (.ireturn, 0) else none))))
def MX7_ask : MI := (yX7_ask, cX7_ask, 2, (some .int), 7, zTab 19 tX7_ask)
theorem kX7_ask : zTok MX7_ask := zTok_of 19 tX7_ask rfl (by decide +kernel)
theorem oX7_ask : zokM MX7_ask 1 = true := zokM_mk (z_in (List.mem_of_getElem? (i := 1263) (by decide +kernel)) rfl) z_ini7 (by decide +kernel)
theorem iX7_ask : zokI MX7_ask = true := zokI_mk (z_in (List.mem_of_getElem? (i := 1261) (by decide +kernel)) rfl) (z_in (List.mem_of_getElem? (i := 1262) (by decide +kernel)) rfl)
def tX7_chanceOf : Nat → Option (Instr × Nat) := fun pc => bif Nat.blt pc 61 then (bif Nat.blt pc 29 then (bif Nat.blt pc 13 then (bif Nat.blt pc 7 then (bif Nat.blt pc 4 then (bif Nat.blt pc 1 then (bif Nat.beq pc 0 then some (.aload_n 0, 0) else none) else (bif Nat.beq pc 1 then some (.invokevirtual 213, 0) else none)) else (bif Nat.blt pc 5 then (bif Nat.beq pc 4 then some (.lconst 0, 0) else none) else (bif Nat.beq pc 5 then some (.lstore 4, 0) else none))) else (bif Nat.blt pc 10 then (bif Nat.blt pc 8 then (bif Nat.beq pc 7 then some (.iconst 0, 0) else none) else (bif Nat.beq pc 8 then some (.istore 6, 0) else none)) else (bif Nat.blt pc 12 then (bif Nat.beq pc 10 then some (.iload 6, 0) else none) else (bif Nat.beq pc 12 then some (.iconst 1, 0) else none)))) else (bif Nat.blt pc 21 then (bif Nat.blt pc 17 then (bif Nat.blt pc 14 then (bif Nat.beq pc 13 then some (.aload_n 0, 0) else none) else (bif Nat.beq pc 14 then some (.getfield 161, 0) else none)) else (bif Nat.blt pc 18 then (bif Nat.beq pc 17 then some (.ishl, 0) else none) else (bif Nat.beq pc 18 then some (.if_icmp .ge 93, 111) else none))) else (bif Nat.blt pc 24 then (bif Nat.blt pc 22 then (bif Nat.beq pc 21 then some (.lconst 1, 0) else none) else (bif Nat.beq pc 22 then some (.lstore 7, 0) else none)) else (bif Nat.blt pc 25 then (bif Nat.beq pc 24 then some (.iconst 0, 0) else none) else (bif Nat.blt pc 27 then (bif Nat.beq pc 25 then some (.istore 9, 0) else none) else (bif Nat.beq pc 27 then some (.iload 9, 0) else none)))))) else (bif Nat.blt pc 48 then (bif Nat.blt pc 38 then (bif Nat.blt pc 33 then (bif Nat.blt pc 30 then (bif Nat.beq pc 29 then some (.aload_n 0, 0) else none) else (bif Nat.beq pc 30 then some (.getfield 161, 0) else none)) else (bif Nat.blt pc 36 then (bif Nat.beq pc 33 then some (.if_icmp .ge 34, 67) else none) else (bif Nat.beq pc 36 then some (.lload 7, 0) else none))) else (bif Nat.blt pc 42 then (bif Nat.blt pc 40 then (bif Nat.beq pc 38 then some (.iload 6, 0) else none) else (bif Nat.beq pc 40 then some (.iload 9, 0) else none)) else (bif Nat.blt pc 45 then (bif Nat.beq pc 42 then some (.invokestatic 197, 0) else none) else (bif Nat.beq pc 45 then some (.ifCond .eq 11, 56) else none)))) else (bif Nat.blt pc 53 then (bif Nat.blt pc 51 then (bif Nat.blt pc 50 then (bif Nat.beq pc 48 then some (.bipush 16, 0) else none) else (bif Nat.beq pc 50 then some (.iload_n 1, 0) else none)) else (bif Nat.blt pc 52 then (bif Nat.beq pc 51 then some (.isub, 0) else none) else (bif Nat.beq pc 52 then some (.i2l, 0) else none))) else (bif Nat.blt pc 57 then (bif Nat.blt pc 56 then (bif Nat.beq pc 53 then some (.goto 5, 58) else none) else (bif Nat.beq pc 56 then some (.iload_n 1, 0) else none)) else (bif Nat.blt pc 58 then (bif Nat.beq pc 57 then some (.i2l, 0) else none) else (bif Nat.blt pc 59 then (bif Nat.beq pc 58 then some (.lmul, 0) else none) else (bif Nat.beq pc 59 then some (.lstore 7, 0) else none))))))) else (bif Nat.blt pc 93 then (bif Nat.blt pc 77 then (bif Nat.blt pc 70 then (bif Nat.blt pc 67 then (bif Nat.blt pc 64 then (bif Nat.beq pc 61 then some (.iinc 9 1, 0) else none) else (bif Nat.beq pc 64 then some (.goto (-37), 27) else none)) else (bif Nat.blt pc 69 then (bif Nat.beq pc 67 then some (.lload 7, 0) else none) else (bif Nat.beq pc 69 then some (.lconst 0, 0) else none))) else (bif Nat.blt pc 74 then (bif Nat.blt pc 71 then (bif Nat.beq pc 70 then some (.lcmp, 0) else none) else (bif Nat.beq pc 71 then some (.ifCond .le 34, 105) else none)) else (bif Nat.blt pc 75 then (bif Nat.beq pc 74 then some (.aload_n 0, 0) else none) else (bif Nat.beq pc 75 then some (.iload 6, 0) else none)))) else (bif Nat.blt pc 86 then (bif Nat.blt pc 81 then (bif Nat.blt pc 80 then (bif Nat.beq pc 77 then some (.putfield 177, 0) else none) else (bif Nat.beq pc 80 then some (.aload_n 0, 0) else none)) else (bif Nat.blt pc 84 then (bif Nat.beq pc 81 then some (.invokevirtual 216, 0) else none) else (bif Nat.beq pc 84 then some (.lload 4, 0) else none))) else (bif Nat.blt pc 90 then (bif Nat.blt pc 87 then (bif Nat.beq pc 86 then some (.aload_n 0, 0) else none) else (bif Nat.beq pc 87 then some (.getfield 49, 0) else none)) else (bif Nat.blt pc 91 then (bif Nat.beq pc 90 then some (.iload_n 2, 0) else none) else (bif Nat.blt pc 92 then (bif Nat.beq pc 91 then some (.iaload, 0) else none) else (bif Nat.beq pc 92 then some (.iconst 2, 0) else none)))))) else (bif Nat.blt pc 113 then (bif Nat.blt pc 102 then (bif Nat.blt pc 98 then (bif Nat.blt pc 96 then (bif Nat.beq pc 93 then some (.if_icmp .ne 8, 101) else none) else (bif Nat.beq pc 96 then some (.lload 7, 0) else none)) else (bif Nat.blt pc 101 then (bif Nat.beq pc 98 then some (.goto 4, 102) else none) else (bif Nat.beq pc 101 then some (.lconst 0, 0) else none))) else (bif Nat.blt pc 105 then (bif Nat.blt pc 103 then (bif Nat.beq pc 102 then some (.ladd, 0) else none) else (bif Nat.beq pc 103 then some (.lstore 4, 0) else none)) else (bif Nat.blt pc 108 then (bif Nat.beq pc 105 then some (.iinc 6 1, 0) else none) else (bif Nat.blt pc 111 then (bif Nat.beq pc 108 then some (.goto (-98), 10) else none) else (bif Nat.beq pc 111 then some (.lload 4, 0) else none))))) else (bif Nat.blt pc 119 then (bif Nat.blt pc 115 then (bif Nat.blt pc 114 then (bif Nat.beq pc 113 then some (.lconst 1, 0) else none) else (bif Nat.beq pc 114 then some (.iconst 4, 0) else none)) else (bif Nat.blt pc 116 then (bif Nat.beq pc 115 then some (.aload_n 0, 0) else none) else (bif Nat.beq pc 116 then some (.getfield 161, 0) else none))) else (bif Nat.blt pc 121 then (bif Nat.blt pc 120 then (bif Nat.beq pc 119 then some (.imul, 0) else none) else (bif Nat.beq pc 120 then some (.lshl, 0) else none)) else (bif Nat.blt pc 122 then (bif Nat.beq pc 121 then some (.iload_n 3, 0) else none) else (bif Nat.blt pc 125 then (bif Nat.beq pc 122 then some (.invokestatic 301, 0) else none) else (bif Nat.beq pc 125 then some (.lreturn, 0) else none)))))))
def MX7_chanceOf : MI := (yX7_chanceOf, cX7_chanceOf, 10, (some .long), 7, zTab 126 tX7_chanceOf)
theorem kX7_chanceOf : zTok MX7_chanceOf := zTok_of 126 tX7_chanceOf rfl (by decide +kernel)
theorem oX7_chanceOf : zokM MX7_chanceOf 3 = true := zokM_mk (z_in (List.mem_of_getElem? (i := 1275) (by decide +kernel)) rfl) z_ini7 (by decide +kernel)
theorem iX7_chanceOf : zokI MX7_chanceOf = true := zokI_mk (z_in (List.mem_of_getElem? (i := 1274) (by decide +kernel)) rfl) (z_in (List.mem_of_getElem? (i := 68) (by decide +kernel)) rfl)
def tX7_chance : Nat → Option (Instr × Nat) := fun pc => bif Nat.blt pc 19 then (bif Nat.blt pc 10 then (bif Nat.blt pc 2 then (bif Nat.blt pc 1 then (bif Nat.beq pc 0 then some (.iload_n 1, 0) else none) else (bif Nat.beq pc 1 then some (.iconst 0, 0) else none)) else (bif Nat.blt pc 4 then (bif Nat.beq pc 2 then some (.bipush 16, 0) else none) else (bif Nat.blt pc 7 then (bif Nat.beq pc 4 then some (.invokestatic 104, 0) else none) else (bif Nat.beq pc 7 then some (.ifCond .eq 28, 35) else none)))) else (bif Nat.blt pc 12 then (bif Nat.blt pc 11 then (bif Nat.beq pc 10 then some (.aload_n 0, 0) else none) else (bif Nat.beq pc 11 then some (.iload_n 2, 0) else none)) else (bif Nat.blt pc 15 then (bif Nat.beq pc 12 then some (.invokevirtual 146, 0) else none) else (bif Nat.blt pc 18 then (bif Nat.beq pc 15 then some (.ifCond .eq 20, 35) else none) else (bif Nat.beq pc 18 then some (.iload_n 3, 0) else none))))) else (bif Nat.blt pc 28 then (bif Nat.blt pc 25 then (bif Nat.blt pc 22 then (bif Nat.beq pc 19 then some (.invokestatic 246, 0) else none) else (bif Nat.beq pc 22 then some (.ifCond .eq 13, 35) else none)) else (bif Nat.blt pc 26 then (bif Nat.beq pc 25 then some (.aload_n 0, 0) else none) else (bif Nat.blt pc 27 then (bif Nat.beq pc 26 then some (.iload_n 1, 0) else none) else (bif Nat.beq pc 27 then some (.iload_n 2, 0) else none)))) else (bif Nat.blt pc 35 then (bif Nat.blt pc 29 then (bif Nat.beq pc 28 then some (.iload_n 3, 0) else none) else (bif Nat.blt pc 32 then (bif Nat.beq pc 29 then some (.invokevirtual 305, 0) else none) else (bif Nat.beq pc 32 then some (.goto 8, 40) else none))) else (bif Nat.blt pc 37 then (bif Nat.beq pc 35 then some (.bipush (-2), 0) else none) else (bif Nat.blt pc 40 then (bif Nat.beq pc 37 then some (.invokestatic 309, 0) else none) else (bif Nat.beq pc 40 then some (.lreturn, 0) else none)))))
def MX7_chance : MI := (yX7_chance, cX7_chance, 4, (some .long), 7, zTab 41 tX7_chance)
theorem kX7_chance : zTok MX7_chance := zTok_of 41 tX7_chance rfl (by decide +kernel)
theorem oX7_chance : zokM MX7_chance 3 = true := zokM_mk (z_in (List.mem_of_getElem? (i := 1271) (by decide +kernel)) rfl) z_ini7 (by decide +kernel)
theorem iX7_chance : zokI MX7_chance = true := zokI_mk (z_in (List.mem_of_getElem? (i := 1269) (by decide +kernel)) rfl) (z_in (List.mem_of_getElem? (i := 1270) (by decide +kernel)) rfl)
def tX7_decadesOf : Nat → Option (Instr × Nat) := fun pc => bif Nat.blt pc 71 then (bif Nat.blt pc 38 then (bif Nat.blt pc 16 then (bif Nat.blt pc 7 then (bif Nat.blt pc 4 then (bif Nat.blt pc 1 then (bif Nat.beq pc 0 then some (.aload_n 0, 0) else none) else (bif Nat.beq pc 1 then some (.invokevirtual 213, 0) else none)) else (bif Nat.blt pc 5 then (bif Nat.beq pc 4 then some (.iload_n 1, 0) else none) else (bif Nat.beq pc 5 then some (.istore 4, 0) else none))) else (bif Nat.blt pc 9 then (bif Nat.blt pc 8 then (bif Nat.beq pc 7 then some (.aload_n 0, 0) else none) else (bif Nat.beq pc 8 then some (.aload_n 0, 0) else none)) else (bif Nat.blt pc 12 then (bif Nat.beq pc 9 then some (.getfield 119, 0) else none) else (bif Nat.blt pc 15 then (bif Nat.beq pc 12 then some (.ifCond .ne 7, 19) else none) else (bif Nat.beq pc 15 then some (.iconst 0, 0) else none))))) else (bif Nat.blt pc 26 then (bif Nat.blt pc 20 then (bif Nat.blt pc 19 then (bif Nat.beq pc 16 then some (.goto 4, 20) else none) else (bif Nat.beq pc 19 then some (.iload_n 2, 0) else none)) else (bif Nat.blt pc 23 then (bif Nat.beq pc 20 then some (.putfield 174, 0) else none) else (bif Nat.blt pc 24 then (bif Nat.beq pc 23 then some (.iconst 0, 0) else none) else (bif Nat.beq pc 24 then some (.istore 5, 0) else none)))) else (bif Nat.blt pc 29 then (bif Nat.blt pc 28 then (bif Nat.beq pc 26 then some (.iload 5, 0) else none) else (bif Nat.beq pc 28 then some (.aload_n 0, 0) else none)) else (bif Nat.blt pc 32 then (bif Nat.beq pc 29 then some (.getfield 174, 0) else none) else (bif Nat.blt pc 35 then (bif Nat.beq pc 32 then some (.if_icmp .ge 91, 123) else none) else (bif Nat.beq pc 35 then some (.ldc_w 312, 0) else none)))))) else (bif Nat.blt pc 55 then (bif Nat.blt pc 45 then (bif Nat.blt pc 41 then (bif Nat.blt pc 40 then (bif Nat.beq pc 38 then some (.iload 4, 0) else none) else (bif Nat.beq pc 40 then some (.imul, 0) else none)) else (bif Nat.blt pc 44 then (bif Nat.beq pc 41 then some (.sipush 12345, 0) else none) else (bif Nat.beq pc 44 then some (.iadd, 0) else none))) else (bif Nat.blt pc 48 then (bif Nat.blt pc 47 then (bif Nat.beq pc 45 then some (.istore 4, 0) else none) else (bif Nat.beq pc 47 then some (.aload_n 0, 0) else none)) else (bif Nat.blt pc 51 then (bif Nat.beq pc 48 then some (.getfield 37, 0) else none) else (bif Nat.blt pc 53 then (bif Nat.beq pc 51 then some (.iload 5, 0) else none) else (bif Nat.beq pc 53 then some (.iload 4, 0) else none))))) else (bif Nat.blt pc 61 then (bif Nat.blt pc 58 then (bif Nat.blt pc 57 then (bif Nat.beq pc 55 then some (.bipush 16, 0) else none) else (bif Nat.beq pc 57 then some (.iushr, 0) else none)) else (bif Nat.blt pc 59 then (bif Nat.beq pc 58 then some (.iconst 3, 0) else none) else (bif Nat.blt pc 60 then (bif Nat.beq pc 59 then some (.irem, 0) else none) else (bif Nat.beq pc 60 then some (.iastore, 0) else none)))) else (bif Nat.blt pc 66 then (bif Nat.blt pc 64 then (bif Nat.beq pc 61 then some (.ldc_w 312, 0) else none) else (bif Nat.beq pc 64 then some (.iload 4, 0) else none)) else (bif Nat.blt pc 67 then (bif Nat.beq pc 66 then some (.imul, 0) else none) else (bif Nat.blt pc 70 then (bif Nat.beq pc 67 then some (.sipush 12345, 0) else none) else (bif Nat.beq pc 70 then some (.iadd, 0) else none))))))) else (bif Nat.blt pc 106 then (bif Nat.blt pc 87 then (bif Nat.blt pc 79 then (bif Nat.blt pc 74 then (bif Nat.blt pc 73 then (bif Nat.beq pc 71 then some (.istore 4, 0) else none) else (bif Nat.beq pc 73 then some (.aload_n 0, 0) else none)) else (bif Nat.blt pc 77 then (bif Nat.beq pc 74 then some (.getfield 40, 0) else none) else (bif Nat.beq pc 77 then some (.iload 5, 0) else none))) else (bif Nat.blt pc 83 then (bif Nat.blt pc 81 then (bif Nat.beq pc 79 then some (.iload 4, 0) else none) else (bif Nat.beq pc 81 then some (.bipush 16, 0) else none)) else (bif Nat.blt pc 84 then (bif Nat.beq pc 83 then some (.iushr, 0) else none) else (bif Nat.blt pc 86 then (bif Nat.beq pc 84 then some (.bipush 24, 0) else none) else (bif Nat.beq pc 86 then some (.irem, 0) else none))))) else (bif Nat.blt pc 97 then (bif Nat.blt pc 91 then (bif Nat.blt pc 88 then (bif Nat.beq pc 87 then some (.iastore, 0) else none) else (bif Nat.beq pc 88 then some (.ldc_w 312, 0) else none)) else (bif Nat.blt pc 93 then (bif Nat.beq pc 91 then some (.iload 4, 0) else none) else (bif Nat.blt pc 94 then (bif Nat.beq pc 93 then some (.imul, 0) else none) else (bif Nat.beq pc 94 then some (.sipush 12345, 0) else none)))) else (bif Nat.blt pc 100 then (bif Nat.blt pc 98 then (bif Nat.beq pc 97 then some (.iadd, 0) else none) else (bif Nat.beq pc 98 then some (.istore 4, 0) else none)) else (bif Nat.blt pc 101 then (bif Nat.beq pc 100 then some (.aload_n 0, 0) else none) else (bif Nat.blt pc 104 then (bif Nat.beq pc 101 then some (.getfield 43, 0) else none) else (bif Nat.beq pc 104 then some (.iload 5, 0) else none)))))) else (bif Nat.blt pc 123 then (bif Nat.blt pc 112 then (bif Nat.blt pc 110 then (bif Nat.blt pc 108 then (bif Nat.beq pc 106 then some (.iload 4, 0) else none) else (bif Nat.beq pc 108 then some (.bipush 16, 0) else none)) else (bif Nat.blt pc 111 then (bif Nat.beq pc 110 then some (.iushr, 0) else none) else (bif Nat.beq pc 111 then some (.aload_n 0, 0) else none))) else (bif Nat.blt pc 116 then (bif Nat.blt pc 115 then (bif Nat.beq pc 112 then some (.getfield 119, 0) else none) else (bif Nat.beq pc 115 then some (.irem, 0) else none)) else (bif Nat.blt pc 117 then (bif Nat.beq pc 116 then some (.iastore, 0) else none) else (bif Nat.blt pc 120 then (bif Nat.beq pc 117 then some (.iinc 5 1, 0) else none) else (bif Nat.beq pc 120 then some (.goto (-94), 26) else none))))) else (bif Nat.blt pc 132 then (bif Nat.blt pc 127 then (bif Nat.blt pc 124 then (bif Nat.beq pc 123 then some (.aload_n 0, 0) else none) else (bif Nat.beq pc 124 then some (.invokevirtual 216, 0) else none)) else (bif Nat.blt pc 128 then (bif Nat.beq pc 127 then some (.iload_n 3, 0) else none) else (bif Nat.blt pc 131 then (bif Nat.beq pc 128 then some (.ifCond .ne 10, 138) else none) else (bif Nat.beq pc 131 then some (.aload_n 0, 0) else none)))) else (bif Nat.blt pc 138 then (bif Nat.blt pc 135 then (bif Nat.beq pc 132 then some (.invokevirtual 258, 0) else none) else (bif Nat.beq pc 135 then some (.goto 7, 142) else none)) else (bif Nat.blt pc 139 then (bif Nat.beq pc 138 then some (.aload_n 0, 0) else none) else (bif Nat.blt pc 142 then (bif Nat.beq pc 139 then some (.getfield 186, 0) else none) else (bif Nat.beq pc 142 then some (.ireturn, 0) else none)))))))
def MX7_decadesOf : MI := (yX7_decadesOf, cX7_decadesOf, 6, (some .int), 7, zTab 143 tX7_decadesOf)
theorem kX7_decadesOf : zTok MX7_decadesOf := zTok_of 143 tX7_decadesOf rfl (by decide +kernel)
theorem oX7_decadesOf : zokM MX7_decadesOf 3 = true := zokM_mk (z_in (List.mem_of_getElem? (i := 1290) (by decide +kernel)) rfl) z_ini7 (by decide +kernel)
theorem iX7_decadesOf : zokI MX7_decadesOf = true := zokI_mk (z_in (List.mem_of_getElem? (i := 1289) (by decide +kernel)) rfl) (z_in (List.mem_of_getElem? (i := 69) (by decide +kernel)) rfl)
def tX7_decades : Nat → Option (Instr × Nat) := fun pc => bif Nat.blt pc 17 then (bif Nat.blt pc 7 then (bif Nat.blt pc 2 then (bif Nat.blt pc 1 then (bif Nat.beq pc 0 then some (.iload_n 2, 0) else none) else (bif Nat.beq pc 1 then some (.iconst 0, 0) else none)) else (bif Nat.blt pc 4 then (bif Nat.beq pc 2 then some (.bipush 8, 0) else none) else (bif Nat.beq pc 4 then some (.invokestatic 104, 0) else none))) else (bif Nat.blt pc 11 then (bif Nat.blt pc 10 then (bif Nat.beq pc 7 then some (.ifCond .eq 20, 27) else none) else (bif Nat.beq pc 10 then some (.iload_n 3, 0) else none)) else (bif Nat.blt pc 14 then (bif Nat.beq pc 11 then some (.invokestatic 246, 0) else none) else (bif Nat.beq pc 14 then some (.ifCond .eq 13, 27) else none)))) else (bif Nat.blt pc 21 then (bif Nat.blt pc 19 then (bif Nat.blt pc 18 then (bif Nat.beq pc 17 then some (.aload_n 0, 0) else none) else (bif Nat.beq pc 18 then some (.iload_n 1, 0) else none)) else (bif Nat.blt pc 20 then (bif Nat.beq pc 19 then some (.iload_n 2, 0) else none) else (bif Nat.beq pc 20 then some (.iload_n 3, 0) else none))) else (bif Nat.blt pc 27 then (bif Nat.blt pc 24 then (bif Nat.beq pc 21 then some (.invokevirtual 313, 0) else none) else (bif Nat.beq pc 24 then some (.goto 5, 29) else none)) else (bif Nat.blt pc 29 then (bif Nat.beq pc 27 then some (.bipush (-2), 0) else none) else (bif Nat.beq pc 29 then some (.ireturn, 0) else none))))
def MX7_decades : MI := (yX7_decades, cX7_decades, 4, (some .int), 7, zTab 30 tX7_decades)
theorem kX7_decades : zTok MX7_decades := zTok_of 30 tX7_decades rfl (by decide +kernel)
theorem oX7_decades : zokM MX7_decades 3 = true := zokM_mk (z_in (List.mem_of_getElem? (i := 1286) (by decide +kernel)) rfl) z_ini7 (by decide +kernel)
theorem iX7_decades : zokI MX7_decades = true := zokI_mk (z_in (List.mem_of_getElem? (i := 1284) (by decide +kernel)) rfl) (z_in (List.mem_of_getElem? (i := 1285) (by decide +kernel)) rfl)
def tX7_meets : Nat → Option (Instr × Nat) := fun pc => bif Nat.blt pc 5 then (bif Nat.blt pc 1 then (bif Nat.beq pc 0 then some (.aload_n 0, 0) else none) else (bif Nat.blt pc 2 then (bif Nat.beq pc 1 then some (.iload_n 1, 0) else none) else (bif Nat.beq pc 2 then some (.putfield 316, 0) else none))) else (bif Nat.blt pc 8 then (bif Nat.blt pc 7 then (bif Nat.beq pc 5 then some (.bipush (-10), 0) else none) else (bif Nat.beq pc 7 then some (.iload_n 1, 0) else none)) else (bif Nat.blt pc 9 then (bif Nat.beq pc 8 then some (.isub, 0) else none) else (bif Nat.beq pc 9 then some (.ireturn, 0) else none)))
def MX7_meets : MI := (yX7_meets, cX7_meets, 2, (some .int), 7, zTab 10 tX7_meets)
theorem kX7_meets : zTok MX7_meets := zTok_of 10 tX7_meets rfl (by decide +kernel)
theorem oX7_meets : zokM MX7_meets 1 = true := zokM_mk (z_in (List.mem_of_getElem? (i := 1067) (by decide +kernel)) rfl) z_ini7 (by decide +kernel)
theorem iX7_meets : zokI MX7_meets = true := zokI_mk (z_in (List.mem_of_getElem? (i := 1066) (by decide +kernel)) rfl) (z_in (List.mem_of_getElem? (i := 35) (by decide +kernel)) rfl)
def tX7_isSheet : Nat → Option (Instr × Nat) := fun pc => bif Nat.blt pc 2 then (bif Nat.blt pc 1 then (bif Nat.beq pc 0 then some (.iload_n 0, 0) else none) else (bif Nat.beq pc 1 then some (.iconst 0, 0) else none)) else (bif Nat.blt pc 3 then (bif Nat.beq pc 2 then some (.iconst 3, 0) else none) else (bif Nat.blt pc 6 then (bif Nat.beq pc 3 then some (.invokestatic 104, 0) else none) else (bif Nat.beq pc 6 then some (.ireturn, 0) else none)))
def MX7_isSheet : MI := (yX7_isSheet, cX7_isSheet, 1, (some .boolean), 7, zTab 7 tX7_isSheet)
theorem kX7_isSheet : zTok MX7_isSheet := zTok_of 7 tX7_isSheet rfl (by decide +kernel)
theorem oX7_isSheet : zokM MX7_isSheet 1 = true := zokM_mk (z_in (List.mem_of_getElem? (i := 1063) (by decide +kernel)) rfl) z_ini7 (by decide +kernel)
theorem iX7_isSheet : zokS MX7_isSheet = true := zokS_mk (z_in (List.mem_of_getElem? (i := 1062) (by decide +kernel)) rfl)
def tX7_sheet : Nat → Option (Instr × Nat) := fun pc => bif Nat.blt pc 46 then (bif Nat.blt pc 25 then (bif Nat.blt pc 10 then (bif Nat.blt pc 7 then (bif Nat.blt pc 1 then (bif Nat.beq pc 0 then some (.iload_n 1, 0) else none) else (bif Nat.blt pc 4 then (bif Nat.beq pc 1 then some (.invokestatic 164, 0) else none) else (bif Nat.beq pc 4 then some (.ifCond .eq 18, 22) else none))) else (bif Nat.blt pc 8 then (bif Nat.beq pc 7 then some (.iload_n 2, 0) else none) else (bif Nat.blt pc 9 then (bif Nat.beq pc 8 then some (.iconst 0, 0) else none) else (bif Nat.beq pc 9 then some (.iconst 2, 0) else none)))) else (bif Nat.blt pc 17 then (bif Nat.blt pc 13 then (bif Nat.beq pc 10 then some (.invokestatic 104, 0) else none) else (bif Nat.blt pc 16 then (bif Nat.beq pc 13 then some (.ifCond .eq 9, 22) else none) else (bif Nat.beq pc 16 then some (.iload_n 3, 0) else none))) else (bif Nat.blt pc 22 then (bif Nat.blt pc 19 then (bif Nat.beq pc 17 then some (.bipush 60, 0) else none) else (bif Nat.beq pc 19 then some (.if_icmp .le 6, 25) else none)) else (bif Nat.blt pc 24 then (bif Nat.beq pc 22 then some (.bipush (-2), 0) else none) else (bif Nat.beq pc 24 then some (.ireturn, 0) else none))))) else (bif Nat.blt pc 35 then (bif Nat.blt pc 30 then (bif Nat.blt pc 26 then (bif Nat.beq pc 25 then some (.iload_n 3, 0) else none) else (bif Nat.blt pc 29 then (bif Nat.beq pc 26 then some (.ifCond .ge 9, 35) else none) else (bif Nat.beq pc 29 then some (.aload_n 0, 0) else none))) else (bif Nat.blt pc 31 then (bif Nat.beq pc 30 then some (.iconst 5, 0) else none) else (bif Nat.blt pc 34 then (bif Nat.beq pc 31 then some (.invokevirtual 167, 0) else none) else (bif Nat.beq pc 34 then some (.ireturn, 0) else none)))) else (bif Nat.blt pc 40 then (bif Nat.blt pc 36 then (bif Nat.beq pc 35 then some (.aload_n 0, 0) else none) else (bif Nat.blt pc 39 then (bif Nat.beq pc 36 then some (.getfield 86, 0) else none) else (bif Nat.beq pc 39 then some (.iload_n 1, 0) else none))) else (bif Nat.blt pc 42 then (bif Nat.blt pc 41 then (bif Nat.beq pc 40 then some (.iconst 1, 0) else none) else (bif Nat.beq pc 41 then some (.bastore, 0) else none)) else (bif Nat.blt pc 43 then (bif Nat.beq pc 42 then some (.aload_n 0, 0) else none) else (bif Nat.beq pc 43 then some (.getfield 90, 0) else none)))))) else (bif Nat.blt pc 66 then (bif Nat.blt pc 54 then (bif Nat.blt pc 49 then (bif Nat.blt pc 47 then (bif Nat.beq pc 46 then some (.iload_n 1, 0) else none) else (bif Nat.blt pc 48 then (bif Nat.beq pc 47 then some (.iload_n 2, 0) else none) else (bif Nat.beq pc 48 then some (.iastore, 0) else none))) else (bif Nat.blt pc 50 then (bif Nat.beq pc 49 then some (.aload_n 0, 0) else none) else (bif Nat.blt pc 53 then (bif Nat.beq pc 50 then some (.getfield 93, 0) else none) else (bif Nat.beq pc 53 then some (.iload_n 1, 0) else none)))) else (bif Nat.blt pc 57 then (bif Nat.blt pc 55 then (bif Nat.beq pc 54 then some (.iload_n 3, 0) else none) else (bif Nat.blt pc 56 then (bif Nat.beq pc 55 then some (.iastore, 0) else none) else (bif Nat.beq pc 56 then some (.iconst 0, 0) else none))) else (bif Nat.blt pc 61 then (bif Nat.blt pc 59 then (bif Nat.beq pc 57 then some (.istore 4, 0) else none) else (bif Nat.beq pc 59 then some (.iload 4, 0) else none)) else (bif Nat.blt pc 63 then (bif Nat.beq pc 61 then some (.bipush 60, 0) else none) else (bif Nat.beq pc 63 then some (.if_icmp .ge 22, 85) else none))))) else (bif Nat.blt pc 76 then (bif Nat.blt pc 72 then (bif Nat.blt pc 67 then (bif Nat.beq pc 66 then some (.aload_n 0, 0) else none) else (bif Nat.blt pc 70 then (bif Nat.beq pc 67 then some (.getfield 96, 0) else none) else (bif Nat.beq pc 70 then some (.bipush 60, 0) else none))) else (bif Nat.blt pc 73 then (bif Nat.beq pc 72 then some (.iload_n 1, 0) else none) else (bif Nat.blt pc 74 then (bif Nat.beq pc 73 then some (.imul, 0) else none) else (bif Nat.beq pc 74 then some (.iload 4, 0) else none)))) else (bif Nat.blt pc 79 then (bif Nat.blt pc 77 then (bif Nat.beq pc 76 then some (.iadd, 0) else none) else (bif Nat.blt pc 78 then (bif Nat.beq pc 77 then some (.iconst 0, 0) else none) else (bif Nat.beq pc 78 then some (.iastore, 0) else none))) else (bif Nat.blt pc 85 then (bif Nat.blt pc 82 then (bif Nat.beq pc 79 then some (.iinc 4 1, 0) else none) else (bif Nat.beq pc 82 then some (.goto (-23), 59) else none)) else (bif Nat.blt pc 86 then (bif Nat.beq pc 85 then some (.iload_n 3, 0) else none) else (bif Nat.beq pc 86 then some (.ireturn, 0) else none))))))
def MX7_sheet : MI := (yX7_sheet, cX7_sheet, 5, (some .int), 7, zTab 87 tX7_sheet)
theorem kX7_sheet : zTok MX7_sheet := zTok_of 87 tX7_sheet rfl (by decide +kernel)
theorem oX7_sheet : zokM MX7_sheet 3 = true := zokM_mk (z_in (List.mem_of_getElem? (i := 1295) (by decide +kernel)) rfl) z_ini7 (by decide +kernel)
theorem iX7_sheet : zokI MX7_sheet = true := zokI_mk (z_in (List.mem_of_getElem? (i := 1293) (by decide +kernel)) rfl) (z_in (List.mem_of_getElem? (i := 1294) (by decide +kernel)) rfl)
def tX7_lose : Nat → Option (Instr × Nat) := fun pc => bif Nat.blt pc 21 then (bif Nat.blt pc 11 then (bif Nat.blt pc 7 then (bif Nat.blt pc 1 then (bif Nat.beq pc 0 then some (.iload_n 1, 0) else none) else (bif Nat.blt pc 4 then (bif Nat.beq pc 1 then some (.invokestatic 164, 0) else none) else (bif Nat.beq pc 4 then some (.ifCond .ne 6, 10) else none))) else (bif Nat.blt pc 9 then (bif Nat.beq pc 7 then some (.bipush (-2), 0) else none) else (bif Nat.blt pc 10 then (bif Nat.beq pc 9 then some (.ireturn, 0) else none) else (bif Nat.beq pc 10 then some (.aload_n 0, 0) else none)))) else (bif Nat.blt pc 16 then (bif Nat.blt pc 14 then (bif Nat.beq pc 11 then some (.getfield 86, 0) else none) else (bif Nat.blt pc 15 then (bif Nat.beq pc 14 then some (.iload_n 1, 0) else none) else (bif Nat.beq pc 15 then some (.baload, 0) else none))) else (bif Nat.blt pc 19 then (bif Nat.beq pc 16 then some (.ifCond .ne 9, 25) else none) else (bif Nat.blt pc 20 then (bif Nat.beq pc 19 then some (.aload_n 0, 0) else none) else (bif Nat.beq pc 20 then some (.iconst 1, 0) else none))))) else (bif Nat.blt pc 31 then (bif Nat.blt pc 26 then (bif Nat.blt pc 24 then (bif Nat.beq pc 21 then some (.invokevirtual 167, 0) else none) else (bif Nat.blt pc 25 then (bif Nat.beq pc 24 then some (.ireturn, 0) else none) else (bif Nat.beq pc 25 then some (.aload_n 0, 0) else none))) else (bif Nat.blt pc 29 then (bif Nat.beq pc 26 then some (.getfield 86, 0) else none) else (bif Nat.blt pc 30 then (bif Nat.beq pc 29 then some (.iload_n 1, 0) else none) else (bif Nat.beq pc 30 then some (.iconst 0, 0) else none)))) else (bif Nat.blt pc 36 then (bif Nat.blt pc 32 then (bif Nat.beq pc 31 then some (.bastore, 0) else none) else (bif Nat.blt pc 33 then (bif Nat.beq pc 32 then some (.aload_n 0, 0) else none) else (bif Nat.beq pc 33 then some (.getfield 93, 0) else none))) else (bif Nat.blt pc 37 then (bif Nat.beq pc 36 then some (.iload_n 1, 0) else none) else (bif Nat.blt pc 38 then (bif Nat.beq pc 37 then some (.iaload, 0) else none) else (bif Nat.beq pc 38 then some (.ireturn, 0) else none)))))
def MX7_lose : MI := (yX7_lose, cX7_lose, 2, (some .int), 7, zTab 39 tX7_lose)
theorem kX7_lose : zTok MX7_lose := zTok_of 39 tX7_lose rfl (by decide +kernel)
theorem oX7_lose : zokM MX7_lose 1 = true := zokM_mk (z_in (List.mem_of_getElem? (i := 1299) (by decide +kernel)) rfl) z_ini7 (by decide +kernel)
theorem iX7_lose : zokI MX7_lose = true := zokI_mk (z_in (List.mem_of_getElem? (i := 1297) (by decide +kernel)) rfl) (z_in (List.mem_of_getElem? (i := 1298) (by decide +kernel)) rfl)
def tX7_lacks : Nat → Option (Instr × Nat) := fun pc => bif Nat.blt pc 24 then (bif Nat.blt pc 13 then (bif Nat.blt pc 5 then (bif Nat.blt pc 1 then (bif Nat.beq pc 0 then some (.aload_n 0, 0) else none) else (bif Nat.blt pc 4 then (bif Nat.beq pc 1 then some (.getfield 86, 0) else none) else (bif Nat.beq pc 4 then some (.iload_n 1, 0) else none))) else (bif Nat.blt pc 9 then (bif Nat.blt pc 6 then (bif Nat.beq pc 5 then some (.baload, 0) else none) else (bif Nat.beq pc 6 then some (.ifCond .ne 7, 13) else none)) else (bif Nat.blt pc 10 then (bif Nat.beq pc 9 then some (.iconst 1, 0) else none) else (bif Nat.beq pc 10 then some (.goto 38, 48) else none)))) else (bif Nat.blt pc 18 then (bif Nat.blt pc 14 then (bif Nat.beq pc 13 then some (.aload_n 0, 0) else none) else (bif Nat.blt pc 17 then (bif Nat.beq pc 14 then some (.getfield 90, 0) else none) else (bif Nat.beq pc 17 then some (.iload_n 1, 0) else none))) else (bif Nat.blt pc 20 then (bif Nat.blt pc 19 then (bif Nat.beq pc 18 then some (.iaload, 0) else none) else (bif Nat.beq pc 19 then some (.iload_n 2, 0) else none)) else (bif Nat.blt pc 23 then (bif Nat.beq pc 20 then some (.if_icmp .eq 7, 27) else none) else (bif Nat.beq pc 23 then some (.iconst 3, 0) else none))))) else (bif Nat.blt pc 35 then (bif Nat.blt pc 29 then (bif Nat.blt pc 27 then (bif Nat.beq pc 24 then some (.goto 24, 48) else none) else (bif Nat.blt pc 28 then (bif Nat.beq pc 27 then some (.iload_n 3, 0) else none) else (bif Nat.beq pc 28 then some (.iconst 0, 0) else none))) else (bif Nat.blt pc 33 then (bif Nat.blt pc 30 then (bif Nat.beq pc 29 then some (.aload_n 0, 0) else none) else (bif Nat.beq pc 30 then some (.getfield 93, 0) else none)) else (bif Nat.blt pc 34 then (bif Nat.beq pc 33 then some (.iload_n 1, 0) else none) else (bif Nat.beq pc 34 then some (.iaload, 0) else none)))) else (bif Nat.blt pc 43 then (bif Nat.blt pc 37 then (bif Nat.blt pc 36 then (bif Nat.beq pc 35 then some (.iconst 1, 0) else none) else (bif Nat.beq pc 36 then some (.isub, 0) else none)) else (bif Nat.blt pc 40 then (bif Nat.beq pc 37 then some (.invokestatic 104, 0) else none) else (bif Nat.beq pc 40 then some (.ifCond .eq 7, 47) else none))) else (bif Nat.blt pc 47 then (bif Nat.blt pc 44 then (bif Nat.beq pc 43 then some (.iconst 0, 0) else none) else (bif Nat.beq pc 44 then some (.goto 4, 48) else none)) else (bif Nat.blt pc 48 then (bif Nat.beq pc 47 then some (.iconst 2, 0) else none) else (bif Nat.beq pc 48 then some (.ireturn, 0) else none)))))
def MX7_lacks : MI := (yX7_lacks, cX7_lacks, 4, (some .int), 7, zTab 49 tX7_lacks)
theorem kX7_lacks : zTok MX7_lacks := zTok_of 49 tX7_lacks rfl (by decide +kernel)
theorem oX7_lacks : zokM MX7_lacks 3 = true := zokM_mk (z_in (List.mem_of_getElem? (i := 1307) (by decide +kernel)) rfl) z_ini7 (by decide +kernel)
theorem iX7_lacks : zokI MX7_lacks = true := zokI_mk (z_in (List.mem_of_getElem? (i := 1306) (by decide +kernel)) rfl) (z_in (List.mem_of_getElem? (i := 70) (by decide +kernel)) rfl)
def tX7_keep : Nat → Option (Instr × Nat) := fun pc => bif Nat.blt pc 20 then (bif Nat.blt pc 9 then (bif Nat.blt pc 6 then (bif Nat.blt pc 1 then (bif Nat.beq pc 0 then some (.aload_n 0, 0) else none) else (bif Nat.blt pc 4 then (bif Nat.beq pc 1 then some (.getfield 96, 0) else none) else (bif Nat.beq pc 4 then some (.bipush 60, 0) else none))) else (bif Nat.blt pc 7 then (bif Nat.beq pc 6 then some (.iload_n 1, 0) else none) else (bif Nat.blt pc 8 then (bif Nat.beq pc 7 then some (.imul, 0) else none) else (bif Nat.beq pc 8 then some (.iload_n 2, 0) else none)))) else (bif Nat.blt pc 14 then (bif Nat.blt pc 10 then (bif Nat.beq pc 9 then some (.iadd, 0) else none) else (bif Nat.blt pc 11 then (bif Nat.beq pc 10 then some (.aload_n 0, 0) else none) else (bif Nat.beq pc 11 then some (.getfield 90, 0) else none))) else (bif Nat.blt pc 16 then (bif Nat.blt pc 15 then (bif Nat.beq pc 14 then some (.iload_n 1, 0) else none) else (bif Nat.beq pc 15 then some (.iaload, 0) else none)) else (bif Nat.blt pc 19 then (bif Nat.beq pc 16 then some (.ifCond .ne 8, 24) else none) else (bif Nat.beq pc 19 then some (.iload_n 3, 0) else none))))) else (bif Nat.blt pc 31 then (bif Nat.blt pc 25 then (bif Nat.blt pc 21 then (bif Nat.beq pc 20 then some (.i2b, 0) else none) else (bif Nat.blt pc 24 then (bif Nat.beq pc 21 then some (.goto 19, 40) else none) else (bif Nat.beq pc 24 then some (.aload_n 0, 0) else none))) else (bif Nat.blt pc 29 then (bif Nat.blt pc 28 then (bif Nat.beq pc 25 then some (.getfield 90, 0) else none) else (bif Nat.beq pc 28 then some (.iload_n 1, 0) else none)) else (bif Nat.blt pc 30 then (bif Nat.beq pc 29 then some (.iaload, 0) else none) else (bif Nat.beq pc 30 then some (.iconst 1, 0) else none)))) else (bif Nat.blt pc 36 then (bif Nat.blt pc 34 then (bif Nat.beq pc 31 then some (.if_icmp .ne 8, 39) else none) else (bif Nat.blt pc 35 then (bif Nat.beq pc 34 then some (.iload_n 3, 0) else none) else (bif Nat.beq pc 35 then some (.i2s, 0) else none))) else (bif Nat.blt pc 40 then (bif Nat.blt pc 39 then (bif Nat.beq pc 36 then some (.goto 4, 40) else none) else (bif Nat.beq pc 39 then some (.iload_n 3, 0) else none)) else (bif Nat.blt pc 41 then (bif Nat.beq pc 40 then some (.iastore, 0) else none) else (bif Nat.beq pc 41 then some (.return_, 0) else none)))))
def MX7_keep : MI := (yX7_keep, cX7_keep, 4, none, 7, zTab 42 tX7_keep)
theorem kX7_keep : zTok MX7_keep := zTok_of 42 tX7_keep rfl (by decide +kernel)
theorem oX7_keep : zokM MX7_keep 3 = true := zokM_mk (z_in (List.mem_of_getElem? (i := 1311) (by decide +kernel)) rfl) z_ini7 (by decide +kernel)
theorem iX7_keep : zokI MX7_keep = true := zokI_mk (z_in (List.mem_of_getElem? (i := 1310) (by decide +kernel)) rfl) (z_in (List.mem_of_getElem? (i := 71) (by decide +kernel)) rfl)
def tX7_put : Nat → Option (Instr × Nat) := fun pc => bif Nat.blt pc 23 then (bif Nat.blt pc 13 then (bif Nat.blt pc 7 then (bif Nat.blt pc 1 then (bif Nat.beq pc 0 then some (.iload_n 1, 0) else none) else (bif Nat.blt pc 4 then (bif Nat.beq pc 1 then some (.invokestatic 164, 0) else none) else (bif Nat.beq pc 4 then some (.ifCond .eq 12, 16) else none))) else (bif Nat.blt pc 9 then (bif Nat.blt pc 8 then (bif Nat.beq pc 7 then some (.iload_n 2, 0) else none) else (bif Nat.beq pc 8 then some (.iconst 0, 0) else none)) else (bif Nat.blt pc 10 then (bif Nat.beq pc 9 then some (.iconst 2, 0) else none) else (bif Nat.beq pc 10 then some (.invokestatic 104, 0) else none)))) else (bif Nat.blt pc 19 then (bif Nat.blt pc 16 then (bif Nat.beq pc 13 then some (.ifCond .ne 6, 19) else none) else (bif Nat.blt pc 18 then (bif Nat.beq pc 16 then some (.bipush (-2), 0) else none) else (bif Nat.beq pc 18 then some (.ireturn, 0) else none))) else (bif Nat.blt pc 21 then (bif Nat.blt pc 20 then (bif Nat.beq pc 19 then some (.aload_n 0, 0) else none) else (bif Nat.beq pc 20 then some (.iload_n 1, 0) else none)) else (bif Nat.blt pc 22 then (bif Nat.beq pc 21 then some (.iload_n 2, 0) else none) else (bif Nat.beq pc 22 then some (.iload_n 3, 0) else none))))) else (bif Nat.blt pc 39 then (bif Nat.blt pc 30 then (bif Nat.blt pc 26 then (bif Nat.beq pc 23 then some (.invokevirtual 319, 0) else none) else (bif Nat.blt pc 28 then (bif Nat.beq pc 26 then some (.istore 5, 0) else none) else (bif Nat.beq pc 28 then some (.iload 5, 0) else none))) else (bif Nat.blt pc 34 then (bif Nat.blt pc 33 then (bif Nat.beq pc 30 then some (.ifCond .le 10, 40) else none) else (bif Nat.beq pc 33 then some (.aload_n 0, 0) else none)) else (bif Nat.blt pc 36 then (bif Nat.beq pc 34 then some (.iload 5, 0) else none) else (bif Nat.beq pc 36 then some (.invokevirtual 167, 0) else none)))) else (bif Nat.blt pc 43 then (bif Nat.blt pc 41 then (bif Nat.blt pc 40 then (bif Nat.beq pc 39 then some (.ireturn, 0) else none) else (bif Nat.beq pc 40 then some (.aload_n 0, 0) else none)) else (bif Nat.blt pc 42 then (bif Nat.beq pc 41 then some (.iload_n 1, 0) else none) else (bif Nat.beq pc 42 then some (.iload_n 3, 0) else none))) else (bif Nat.blt pc 48 then (bif Nat.blt pc 45 then (bif Nat.beq pc 43 then some (.iload 4, 0) else none) else (bif Nat.beq pc 45 then some (.invokevirtual 322, 0) else none)) else (bif Nat.blt pc 49 then (bif Nat.beq pc 48 then some (.iconst 1, 0) else none) else (bif Nat.beq pc 49 then some (.ireturn, 0) else none)))))
def MX7_put : MI := (yX7_put, cX7_put, 6, (some .int), 7, zTab 50 tX7_put)
theorem kX7_put : zTok MX7_put := zTok_of 50 tX7_put rfl (by decide +kernel)
theorem oX7_put : zokM MX7_put 4 = true := zokM_mk (z_in (List.mem_of_getElem? (i := 1303) (by decide +kernel)) rfl) z_ini7 (by decide +kernel)
theorem iX7_put : zokI MX7_put = true := zokI_mk (z_in (List.mem_of_getElem? (i := 1301) (by decide +kernel)) rfl) (z_in (List.mem_of_getElem? (i := 1302) (by decide +kernel)) rfl)
def tX7_get : Nat → Option (Instr × Nat) := fun pc => bif Nat.blt pc 29 then (bif Nat.blt pc 16 then (bif Nat.blt pc 8 then (bif Nat.blt pc 4 then (bif Nat.blt pc 1 then (bif Nat.beq pc 0 then some (.iload_n 1, 0) else none) else (bif Nat.beq pc 1 then some (.invokestatic 164, 0) else none)) else (bif Nat.blt pc 7 then (bif Nat.beq pc 4 then some (.ifCond .eq 12, 16) else none) else (bif Nat.beq pc 7 then some (.iload_n 2, 0) else none))) else (bif Nat.blt pc 10 then (bif Nat.blt pc 9 then (bif Nat.beq pc 8 then some (.iconst 0, 0) else none) else (bif Nat.beq pc 9 then some (.iconst 2, 0) else none)) else (bif Nat.blt pc 13 then (bif Nat.beq pc 10 then some (.invokestatic 104, 0) else none) else (bif Nat.beq pc 13 then some (.ifCond .ne 7, 20) else none)))) else (bif Nat.blt pc 22 then (bif Nat.blt pc 20 then (bif Nat.blt pc 19 then (bif Nat.beq pc 16 then some (.ldc_w 326, 0) else none) else (bif Nat.beq pc 19 then some (.ireturn, 0) else none)) else (bif Nat.blt pc 21 then (bif Nat.beq pc 20 then some (.aload_n 0, 0) else none) else (bif Nat.beq pc 21 then some (.iload_n 1, 0) else none))) else (bif Nat.blt pc 24 then (bif Nat.blt pc 23 then (bif Nat.beq pc 22 then some (.iload_n 2, 0) else none) else (bif Nat.beq pc 23 then some (.iload_n 3, 0) else none)) else (bif Nat.blt pc 27 then (bif Nat.beq pc 24 then some (.invokevirtual 319, 0) else none) else (bif Nat.beq pc 27 then some (.istore 4, 0) else none))))) else (bif Nat.blt pc 45 then (bif Nat.blt pc 37 then (bif Nat.blt pc 34 then (bif Nat.blt pc 31 then (bif Nat.beq pc 29 then some (.iload 4, 0) else none) else (bif Nat.beq pc 31 then some (.ifCond .le 13, 44) else none)) else (bif Nat.blt pc 35 then (bif Nat.beq pc 34 then some (.aload_n 0, 0) else none) else (bif Nat.beq pc 35 then some (.iload 4, 0) else none))) else (bif Nat.blt pc 43 then (bif Nat.blt pc 40 then (bif Nat.beq pc 37 then some (.putfield 316, 0) else none) else (bif Nat.beq pc 40 then some (.ldc_w 326, 0) else none)) else (bif Nat.blt pc 44 then (bif Nat.beq pc 43 then some (.ireturn, 0) else none) else (bif Nat.beq pc 44 then some (.aload_n 0, 0) else none)))) else (bif Nat.blt pc 52 then (bif Nat.blt pc 50 then (bif Nat.blt pc 48 then (bif Nat.beq pc 45 then some (.getfield 96, 0) else none) else (bif Nat.beq pc 48 then some (.bipush 60, 0) else none)) else (bif Nat.blt pc 51 then (bif Nat.beq pc 50 then some (.iload_n 1, 0) else none) else (bif Nat.beq pc 51 then some (.imul, 0) else none))) else (bif Nat.blt pc 54 then (bif Nat.blt pc 53 then (bif Nat.beq pc 52 then some (.iload_n 3, 0) else none) else (bif Nat.beq pc 53 then some (.iadd, 0) else none)) else (bif Nat.blt pc 55 then (bif Nat.beq pc 54 then some (.iaload, 0) else none) else (bif Nat.beq pc 55 then some (.ireturn, 0) else none)))))
def MX7_get : MI := (yX7_get, cX7_get, 5, (some .int), 7, zTab 56 tX7_get)
theorem kX7_get : zTok MX7_get := zTok_of 56 tX7_get rfl (by decide +kernel)
theorem oX7_get : zokM MX7_get 3 = true := zokM_mk (z_in (List.mem_of_getElem? (i := 1315) (by decide +kernel)) rfl) z_ini7 (by decide +kernel)
theorem iX7_get : zokI MX7_get = true := zokI_mk (z_in (List.mem_of_getElem? (i := 1313) (by decide +kernel)) rfl) (z_in (List.mem_of_getElem? (i := 1314) (by decide +kernel)) rfl)
def tX7_copy : Nat → Option (Instr × Nat) := fun pc => bif Nat.blt pc 98 then (bif Nat.blt pc 51 then (bif Nat.blt pc 27 then (bif Nat.blt pc 16 then (bif Nat.blt pc 7 then (bif Nat.blt pc 1 then (bif Nat.beq pc 0 then some (.iload_n 1, 0) else none) else (bif Nat.blt pc 4 then (bif Nat.beq pc 1 then some (.invokestatic 164, 0) else none) else (bif Nat.beq pc 4 then some (.ifCond .eq 10, 14) else none))) else (bif Nat.blt pc 11 then (bif Nat.blt pc 8 then (bif Nat.beq pc 7 then some (.iload_n 3, 0) else none) else (bif Nat.beq pc 8 then some (.invokestatic 164, 0) else none)) else (bif Nat.blt pc 14 then (bif Nat.beq pc 11 then some (.ifCond .ne 6, 17) else none) else (bif Nat.beq pc 14 then some (.bipush (-2), 0) else none)))) else (bif Nat.blt pc 21 then (bif Nat.blt pc 17 then (bif Nat.beq pc 16 then some (.ireturn, 0) else none) else (bif Nat.blt pc 18 then (bif Nat.beq pc 17 then some (.aload_n 0, 0) else none) else (bif Nat.beq pc 18 then some (.getfield 86, 0) else none))) else (bif Nat.blt pc 23 then (bif Nat.blt pc 22 then (bif Nat.beq pc 21 then some (.iload_n 1, 0) else none) else (bif Nat.beq pc 22 then some (.baload, 0) else none)) else (bif Nat.blt pc 26 then (bif Nat.beq pc 23 then some (.ifCond .eq 12, 35) else none) else (bif Nat.beq pc 26 then some (.aload_n 0, 0) else none))))) else (bif Nat.blt pc 40 then (bif Nat.blt pc 32 then (bif Nat.blt pc 30 then (bif Nat.beq pc 27 then some (.getfield 86, 0) else none) else (bif Nat.blt pc 31 then (bif Nat.beq pc 30 then some (.iload_n 3, 0) else none) else (bif Nat.beq pc 31 then some (.baload, 0) else none))) else (bif Nat.blt pc 36 then (bif Nat.blt pc 35 then (bif Nat.beq pc 32 then some (.ifCond .ne 9, 41) else none) else (bif Nat.beq pc 35 then some (.aload_n 0, 0) else none)) else (bif Nat.blt pc 37 then (bif Nat.beq pc 36 then some (.iconst 1, 0) else none) else (bif Nat.beq pc 37 then some (.invokevirtual 167, 0) else none)))) else (bif Nat.blt pc 45 then (bif Nat.blt pc 41 then (bif Nat.beq pc 40 then some (.ireturn, 0) else none) else (bif Nat.blt pc 42 then (bif Nat.beq pc 41 then some (.aload_n 0, 0) else none) else (bif Nat.beq pc 42 then some (.getfield 90, 0) else none))) else (bif Nat.blt pc 47 then (bif Nat.blt pc 46 then (bif Nat.beq pc 45 then some (.iload_n 1, 0) else none) else (bif Nat.beq pc 46 then some (.iaload, 0) else none)) else (bif Nat.blt pc 48 then (bif Nat.beq pc 47 then some (.aload_n 0, 0) else none) else (bif Nat.beq pc 48 then some (.getfield 90, 0) else none)))))) else (bif Nat.blt pc 77 then (bif Nat.blt pc 62 then (bif Nat.blt pc 56 then (bif Nat.blt pc 52 then (bif Nat.beq pc 51 then some (.iload_n 3, 0) else none) else (bif Nat.blt pc 53 then (bif Nat.beq pc 52 then some (.iaload, 0) else none) else (bif Nat.beq pc 53 then some (.if_icmp .eq 9, 62) else none))) else (bif Nat.blt pc 58 then (bif Nat.blt pc 57 then (bif Nat.beq pc 56 then some (.aload_n 0, 0) else none) else (bif Nat.beq pc 57 then some (.iconst 4, 0) else none)) else (bif Nat.blt pc 61 then (bif Nat.beq pc 58 then some (.invokevirtual 167, 0) else none) else (bif Nat.beq pc 61 then some (.ireturn, 0) else none)))) else (bif Nat.blt pc 68 then (bif Nat.blt pc 63 then (bif Nat.beq pc 62 then some (.iload_n 2, 0) else none) else (bif Nat.blt pc 66 then (bif Nat.beq pc 63 then some (.ifCond .lt 48, 111) else none) else (bif Nat.beq pc 66 then some (.iload 4, 0) else none))) else (bif Nat.blt pc 73 then (bif Nat.blt pc 71 then (bif Nat.beq pc 68 then some (.ifCond .lt 43, 111) else none) else (bif Nat.beq pc 71 then some (.iload 5, 0) else none)) else (bif Nat.blt pc 76 then (bif Nat.beq pc 73 then some (.ifCond .lt 38, 111) else none) else (bif Nat.beq pc 76 then some (.iload_n 2, 0) else none))))) else (bif Nat.blt pc 87 then (bif Nat.blt pc 81 then (bif Nat.blt pc 78 then (bif Nat.beq pc 77 then some (.i2l, 0) else none) else (bif Nat.blt pc 80 then (bif Nat.beq pc 78 then some (.iload 5, 0) else none) else (bif Nat.beq pc 80 then some (.i2l, 0) else none))) else (bif Nat.blt pc 83 then (bif Nat.blt pc 82 then (bif Nat.beq pc 81 then some (.ladd, 0) else none) else (bif Nat.beq pc 82 then some (.aload_n 0, 0) else none)) else (bif Nat.blt pc 86 then (bif Nat.beq pc 83 then some (.getfield 93, 0) else none) else (bif Nat.beq pc 86 then some (.iload_n 1, 0) else none)))) else (bif Nat.blt pc 90 then (bif Nat.blt pc 88 then (bif Nat.beq pc 87 then some (.iaload, 0) else none) else (bif Nat.blt pc 89 then (bif Nat.beq pc 88 then some (.i2l, 0) else none) else (bif Nat.beq pc 89 then some (.lcmp, 0) else none))) else (bif Nat.blt pc 95 then (bif Nat.blt pc 93 then (bif Nat.beq pc 90 then some (.ifCond .gt 21, 111) else none) else (bif Nat.beq pc 93 then some (.iload 4, 0) else none)) else (bif Nat.blt pc 96 then (bif Nat.beq pc 95 then some (.i2l, 0) else none) else (bif Nat.beq pc 96 then some (.iload 5, 0) else none))))))) else (bif Nat.blt pc 143 then (bif Nat.blt pc 118 then (bif Nat.blt pc 107 then (bif Nat.blt pc 101 then (bif Nat.blt pc 99 then (bif Nat.beq pc 98 then some (.i2l, 0) else none) else (bif Nat.blt pc 100 then (bif Nat.beq pc 99 then some (.ladd, 0) else none) else (bif Nat.beq pc 100 then some (.aload_n 0, 0) else none))) else (bif Nat.blt pc 105 then (bif Nat.blt pc 104 then (bif Nat.beq pc 101 then some (.getfield 93, 0) else none) else (bif Nat.beq pc 104 then some (.iload_n 3, 0) else none)) else (bif Nat.blt pc 106 then (bif Nat.beq pc 105 then some (.iaload, 0) else none) else (bif Nat.beq pc 106 then some (.i2l, 0) else none)))) else (bif Nat.blt pc 112 then (bif Nat.blt pc 108 then (bif Nat.beq pc 107 then some (.lcmp, 0) else none) else (bif Nat.blt pc 111 then (bif Nat.beq pc 108 then some (.ifCond .le 9, 117) else none) else (bif Nat.beq pc 111 then some (.aload_n 0, 0) else none))) else (bif Nat.blt pc 116 then (bif Nat.blt pc 113 then (bif Nat.beq pc 112 then some (.iconst 2, 0) else none) else (bif Nat.beq pc 113 then some (.invokevirtual 167, 0) else none)) else (bif Nat.blt pc 117 then (bif Nat.beq pc 116 then some (.ireturn, 0) else none) else (bif Nat.beq pc 117 then some (.iconst 0, 0) else none))))) else (bif Nat.blt pc 133 then (bif Nat.blt pc 124 then (bif Nat.blt pc 120 then (bif Nat.beq pc 118 then some (.istore 6, 0) else none) else (bif Nat.blt pc 122 then (bif Nat.beq pc 120 then some (.iload 6, 0) else none) else (bif Nat.beq pc 122 then some (.iload 5, 0) else none))) else (bif Nat.blt pc 128 then (bif Nat.blt pc 127 then (bif Nat.beq pc 124 then some (.if_icmp .ge 30, 154) else none) else (bif Nat.beq pc 127 then some (.aload_n 0, 0) else none)) else (bif Nat.blt pc 131 then (bif Nat.beq pc 128 then some (.getfield 99, 0) else none) else (bif Nat.beq pc 131 then some (.iload 6, 0) else none)))) else (bif Nat.blt pc 139 then (bif Nat.blt pc 134 then (bif Nat.beq pc 133 then some (.aload_n 0, 0) else none) else (bif Nat.blt pc 137 then (bif Nat.beq pc 134 then some (.getfield 96, 0) else none) else (bif Nat.beq pc 137 then some (.bipush 60, 0) else none))) else (bif Nat.blt pc 141 then (bif Nat.blt pc 140 then (bif Nat.beq pc 139 then some (.iload_n 1, 0) else none) else (bif Nat.beq pc 140 then some (.imul, 0) else none)) else (bif Nat.blt pc 142 then (bif Nat.beq pc 141 then some (.iload_n 2, 0) else none) else (bif Nat.beq pc 142 then some (.iadd, 0) else none)))))) else (bif Nat.blt pc 170 then (bif Nat.blt pc 155 then (bif Nat.blt pc 147 then (bif Nat.blt pc 145 then (bif Nat.beq pc 143 then some (.iload 6, 0) else none) else (bif Nat.blt pc 146 then (bif Nat.beq pc 145 then some (.iadd, 0) else none) else (bif Nat.beq pc 146 then some (.iaload, 0) else none))) else (bif Nat.blt pc 151 then (bif Nat.blt pc 148 then (bif Nat.beq pc 147 then some (.iastore, 0) else none) else (bif Nat.beq pc 148 then some (.iinc 6 1, 0) else none)) else (bif Nat.blt pc 154 then (bif Nat.beq pc 151 then some (.goto (-31), 120) else none) else (bif Nat.beq pc 154 then some (.iconst 0, 0) else none)))) else (bif Nat.blt pc 161 then (bif Nat.blt pc 157 then (bif Nat.beq pc 155 then some (.istore 6, 0) else none) else (bif Nat.blt pc 159 then (bif Nat.beq pc 157 then some (.iload 6, 0) else none) else (bif Nat.beq pc 159 then some (.iload 5, 0) else none))) else (bif Nat.blt pc 165 then (bif Nat.blt pc 164 then (bif Nat.beq pc 161 then some (.if_icmp .ge 31, 192) else none) else (bif Nat.beq pc 164 then some (.aload_n 0, 0) else none)) else (bif Nat.blt pc 168 then (bif Nat.beq pc 165 then some (.getfield 96, 0) else none) else (bif Nat.beq pc 168 then some (.bipush 60, 0) else none))))) else (bif Nat.blt pc 179 then (bif Nat.blt pc 174 then (bif Nat.blt pc 171 then (bif Nat.beq pc 170 then some (.iload_n 3, 0) else none) else (bif Nat.blt pc 172 then (bif Nat.beq pc 171 then some (.imul, 0) else none) else (bif Nat.beq pc 172 then some (.iload 4, 0) else none))) else (bif Nat.blt pc 177 then (bif Nat.blt pc 175 then (bif Nat.beq pc 174 then some (.iadd, 0) else none) else (bif Nat.beq pc 175 then some (.iload 6, 0) else none)) else (bif Nat.blt pc 178 then (bif Nat.beq pc 177 then some (.iadd, 0) else none) else (bif Nat.beq pc 178 then some (.aload_n 0, 0) else none)))) else (bif Nat.blt pc 186 then (bif Nat.blt pc 184 then (bif Nat.blt pc 182 then (bif Nat.beq pc 179 then some (.getfield 99, 0) else none) else (bif Nat.beq pc 182 then some (.iload 6, 0) else none)) else (bif Nat.blt pc 185 then (bif Nat.beq pc 184 then some (.iaload, 0) else none) else (bif Nat.beq pc 185 then some (.iastore, 0) else none))) else (bif Nat.blt pc 192 then (bif Nat.blt pc 189 then (bif Nat.beq pc 186 then some (.iinc 6 1, 0) else none) else (bif Nat.beq pc 189 then some (.goto (-32), 157) else none)) else (bif Nat.blt pc 193 then (bif Nat.beq pc 192 then some (.iconst 1, 0) else none) else (bif Nat.beq pc 193 then some (.ireturn, 0) else none)))))))
def MX7_copy : MI := (yX7_copy, cX7_copy, 7, (some .int), 7, zTab 194 tX7_copy)
theorem kX7_copy : zTok MX7_copy := zTok_of 194 tX7_copy rfl (by decide +kernel)
theorem oX7_copy : zokM MX7_copy 5 = true := zokM_mk (z_in (List.mem_of_getElem? (i := 1320) (by decide +kernel)) rfl) z_ini7 (by decide +kernel)
theorem iX7_copy : zokI MX7_copy = true := zokI_mk (z_in (List.mem_of_getElem? (i := 1318) (by decide +kernel)) rfl) (z_in (List.mem_of_getElem? (i := 1319) (by decide +kernel)) rfl)
def tX7_write : Nat → Option (Instr × Nat) := fun pc => bif Nat.blt pc 40 then (bif Nat.blt pc 22 then (bif Nat.blt pc 11 then (bif Nat.blt pc 4 then (bif Nat.blt pc 1 then (bif Nat.beq pc 0 then some (.iload_n 1, 0) else none) else (bif Nat.beq pc 1 then some (.invokestatic 116, 0) else none)) else (bif Nat.blt pc 7 then (bif Nat.beq pc 4 then some (.ifCond .eq 10, 14) else none) else (bif Nat.blt pc 8 then (bif Nat.beq pc 7 then some (.iload_n 2, 0) else none) else (bif Nat.beq pc 8 then some (.invokestatic 164, 0) else none)))) else (bif Nat.blt pc 17 then (bif Nat.blt pc 14 then (bif Nat.beq pc 11 then some (.ifCond .ne 6, 17) else none) else (bif Nat.blt pc 16 then (bif Nat.beq pc 14 then some (.bipush (-2), 0) else none) else (bif Nat.beq pc 16 then some (.ireturn, 0) else none))) else (bif Nat.blt pc 18 then (bif Nat.beq pc 17 then some (.aload_n 0, 0) else none) else (bif Nat.blt pc 21 then (bif Nat.beq pc 18 then some (.getfield 86, 0) else none) else (bif Nat.beq pc 21 then some (.iload_n 2, 0) else none))))) else (bif Nat.blt pc 32 then (bif Nat.blt pc 27 then (bif Nat.blt pc 23 then (bif Nat.beq pc 22 then some (.baload, 0) else none) else (bif Nat.blt pc 26 then (bif Nat.beq pc 23 then some (.ifCond .ne 9, 32) else none) else (bif Nat.beq pc 26 then some (.aload_n 0, 0) else none))) else (bif Nat.blt pc 28 then (bif Nat.beq pc 27 then some (.iconst 1, 0) else none) else (bif Nat.blt pc 31 then (bif Nat.beq pc 28 then some (.invokevirtual 167, 0) else none) else (bif Nat.beq pc 31 then some (.ireturn, 0) else none)))) else (bif Nat.blt pc 37 then (bif Nat.blt pc 33 then (bif Nat.beq pc 32 then some (.aload_n 0, 0) else none) else (bif Nat.blt pc 36 then (bif Nat.beq pc 33 then some (.invokevirtual 219, 0) else none) else (bif Nat.beq pc 36 then some (.iconst 0, 0) else none))) else (bif Nat.blt pc 38 then (bif Nat.beq pc 37 then some (.istore_n 3, 0) else none) else (bif Nat.blt pc 39 then (bif Nat.beq pc 38 then some (.iload_n 3, 0) else none) else (bif Nat.beq pc 39 then some (.aload_n 0, 0) else none)))))) else (bif Nat.blt pc 58 then (bif Nat.blt pc 49 then (bif Nat.blt pc 44 then (bif Nat.blt pc 43 then (bif Nat.beq pc 40 then some (.getfield 93, 0) else none) else (bif Nat.beq pc 43 then some (.iload_n 2, 0) else none)) else (bif Nat.blt pc 45 then (bif Nat.beq pc 44 then some (.iaload, 0) else none) else (bif Nat.blt pc 48 then (bif Nat.beq pc 45 then some (.if_icmp .ge 32, 77) else none) else (bif Nat.beq pc 48 then some (.iload_n 3, 0) else none)))) else (bif Nat.blt pc 55 then (bif Nat.blt pc 51 then (bif Nat.beq pc 49 then some (.bipush 12, 0) else none) else (bif Nat.blt pc 54 then (bif Nat.beq pc 51 then some (.if_icmp .ge 26, 77) else none) else (bif Nat.beq pc 54 then some (.aload_n 0, 0) else none))) else (bif Nat.blt pc 56 then (bif Nat.beq pc 55 then some (.iload_n 2, 0) else none) else (bif Nat.blt pc 57 then (bif Nat.beq pc 56 then some (.iload_n 3, 0) else none) else (bif Nat.beq pc 57 then some (.aload_n 0, 0) else none))))) else (bif Nat.blt pc 67 then (bif Nat.blt pc 64 then (bif Nat.blt pc 61 then (bif Nat.beq pc 58 then some (.getfield 58, 0) else none) else (bif Nat.blt pc 63 then (bif Nat.beq pc 61 then some (.bipush 12, 0) else none) else (bif Nat.beq pc 63 then some (.iload_n 1, 0) else none))) else (bif Nat.blt pc 65 then (bif Nat.beq pc 64 then some (.imul, 0) else none) else (bif Nat.blt pc 66 then (bif Nat.beq pc 65 then some (.iload_n 3, 0) else none) else (bif Nat.beq pc 66 then some (.iadd, 0) else none)))) else (bif Nat.blt pc 74 then (bif Nat.blt pc 68 then (bif Nat.beq pc 67 then some (.iaload, 0) else none) else (bif Nat.blt pc 71 then (bif Nat.beq pc 68 then some (.invokevirtual 322, 0) else none) else (bif Nat.beq pc 71 then some (.iinc 3 1, 0) else none))) else (bif Nat.blt pc 77 then (bif Nat.beq pc 74 then some (.goto (-36), 38) else none) else (bif Nat.blt pc 78 then (bif Nat.beq pc 77 then some (.iload_n 3, 0) else none) else (bif Nat.beq pc 78 then some (.ireturn, 0) else none))))))
def MX7_write : MI := (yX7_write, cX7_write, 4, (some .int), 7, zTab 79 tX7_write)
theorem kX7_write : zTok MX7_write := zTok_of 79 tX7_write rfl (by decide +kernel)
theorem oX7_write : zokM MX7_write 2 = true := zokM_mk (z_in (List.mem_of_getElem? (i := 1324) (by decide +kernel)) rfl) z_ini7 (by decide +kernel)
theorem iX7_write : zokI MX7_write = true := zokI_mk (z_in (List.mem_of_getElem? (i := 1322) (by decide +kernel)) rfl) (z_in (List.mem_of_getElem? (i := 1323) (by decide +kernel)) rfl)
def tX7_sumOf : Nat → Option (Instr × Nat) := fun pc => bif Nat.blt pc 21 then (bif Nat.blt pc 9 then (bif Nat.blt pc 4 then (bif Nat.blt pc 1 then (bif Nat.beq pc 0 then some (.aload_n 0, 0) else none) else (bif Nat.beq pc 1 then some (.invokevirtual 219, 0) else none)) else (bif Nat.blt pc 5 then (bif Nat.beq pc 4 then some (.iload_n 1, 0) else none) else (bif Nat.blt pc 8 then (bif Nat.beq pc 5 then some (.ifCond .ne 10, 15) else none) else (bif Nat.beq pc 8 then some (.aload_n 0, 0) else none)))) else (bif Nat.blt pc 16 then (bif Nat.blt pc 12 then (bif Nat.beq pc 9 then some (.getfield 119, 0) else none) else (bif Nat.blt pc 15 then (bif Nat.beq pc 12 then some (.goto 31, 43) else none) else (bif Nat.beq pc 15 then some (.iload_n 1, 0) else none))) else (bif Nat.blt pc 17 then (bif Nat.beq pc 16 then some (.iconst 1, 0) else none) else (bif Nat.blt pc 20 then (bif Nat.beq pc 17 then some (.if_icmp .ne 10, 27) else none) else (bif Nat.beq pc 20 then some (.aload_n 0, 0) else none))))) else (bif Nat.blt pc 32 then (bif Nat.blt pc 27 then (bif Nat.blt pc 24 then (bif Nat.beq pc 21 then some (.getfield 127, 0) else none) else (bif Nat.beq pc 24 then some (.goto 19, 43) else none)) else (bif Nat.blt pc 28 then (bif Nat.beq pc 27 then some (.iload_n 1, 0) else none) else (bif Nat.blt pc 29 then (bif Nat.beq pc 28 then some (.iconst 5, 0) else none) else (bif Nat.beq pc 29 then some (.if_icmp .ne 10, 39) else none)))) else (bif Nat.blt pc 39 then (bif Nat.blt pc 33 then (bif Nat.beq pc 32 then some (.aload_n 0, 0) else none) else (bif Nat.blt pc 36 then (bif Nat.beq pc 33 then some (.invokevirtual 258, 0) else none) else (bif Nat.beq pc 36 then some (.goto 7, 43) else none))) else (bif Nat.blt pc 40 then (bif Nat.beq pc 39 then some (.aload_n 0, 0) else none) else (bif Nat.blt pc 43 then (bif Nat.beq pc 40 then some (.getfield 186, 0) else none) else (bif Nat.beq pc 43 then some (.ireturn, 0) else none)))))
def MX7_sumOf : MI := (yX7_sumOf, cX7_sumOf, 2, (some .int), 7, zTab 44 tX7_sumOf)
theorem kX7_sumOf : zTok MX7_sumOf := zTok_of 44 tX7_sumOf rfl (by decide +kernel)
theorem oX7_sumOf : zokM MX7_sumOf 1 = true := zokM_mk (z_in (List.mem_of_getElem? (i := 1332) (by decide +kernel)) rfl) z_ini7 (by decide +kernel)
theorem iX7_sumOf : zokI MX7_sumOf = true := zokI_mk (z_in (List.mem_of_getElem? (i := 1331) (by decide +kernel)) rfl) (z_in (List.mem_of_getElem? (i := 72) (by decide +kernel)) rfl)
def tX7_count : Nat → Option (Instr × Nat) := fun pc => bif Nat.blt pc 66 then (bif Nat.blt pc 58 then (bif Nat.blt pc 53 then (bif Nat.blt pc 1 then (bif Nat.beq pc 0 then some (.iload_n 1, 0) else none) else (bif Nat.blt pc 52 then (bif Nat.beq pc 1 then some (.tableswitch 81 0 8 #[51, 51, 57, 57, 66, 51, 51, 71, 76], 51) else none) else (bif Nat.beq pc 52 then some (.aload_n 0, 0) else none))) else (bif Nat.blt pc 54 then (bif Nat.beq pc 53 then some (.iload_n 1, 0) else none) else (bif Nat.blt pc 57 then (bif Nat.beq pc 54 then some (.invokevirtual 327, 0) else none) else (bif Nat.beq pc 57 then some (.ireturn, 0) else none)))) else (bif Nat.blt pc 63 then (bif Nat.blt pc 59 then (bif Nat.beq pc 58 then some (.aload_n 0, 0) else none) else (bif Nat.blt pc 62 then (bif Nat.beq pc 59 then some (.getfield 7, 0) else none) else (bif Nat.beq pc 62 then some (.iload_n 1, 0) else none))) else (bif Nat.blt pc 64 then (bif Nat.beq pc 63 then some (.iconst 2, 0) else none) else (bif Nat.blt pc 65 then (bif Nat.beq pc 64 then some (.isub, 0) else none) else (bif Nat.beq pc 65 then some (.iaload, 0) else none))))) else (bif Nat.blt pc 76 then (bif Nat.blt pc 71 then (bif Nat.blt pc 67 then (bif Nat.beq pc 66 then some (.ireturn, 0) else none) else (bif Nat.blt pc 68 then (bif Nat.beq pc 67 then some (.aload_n 0, 0) else none) else (bif Nat.beq pc 68 then some (.getfield 161, 0) else none))) else (bif Nat.blt pc 72 then (bif Nat.beq pc 71 then some (.ireturn, 0) else none) else (bif Nat.blt pc 73 then (bif Nat.beq pc 72 then some (.aload_n 0, 0) else none) else (bif Nat.beq pc 73 then some (.getfield 276, 0) else none)))) else (bif Nat.blt pc 81 then (bif Nat.blt pc 77 then (bif Nat.beq pc 76 then some (.ireturn, 0) else none) else (bif Nat.blt pc 78 then (bif Nat.beq pc 77 then some (.aload_n 0, 0) else none) else (bif Nat.beq pc 78 then some (.getfield 316, 0) else none))) else (bif Nat.blt pc 82 then (bif Nat.beq pc 81 then some (.ireturn, 0) else none) else (bif Nat.blt pc 84 then (bif Nat.beq pc 82 then some (.bipush (-2), 0) else none) else (bif Nat.beq pc 84 then some (.ireturn, 0) else none)))))
def MX7_count : MI := (yX7_count, cX7_count, 2, (some .int), 7, zTab 85 tX7_count)
theorem kX7_count : zTok MX7_count := zTok_of 85 tX7_count rfl (by decide +kernel)
theorem oX7_count : zokM MX7_count 1 = true := zokM_mk (z_in (List.mem_of_getElem? (i := 1328) (by decide +kernel)) rfl) z_ini7 (by decide +kernel)
theorem iX7_count : zokI MX7_count = true := zokI_mk (z_in (List.mem_of_getElem? (i := 1326) (by decide +kernel)) rfl) (z_in (List.mem_of_getElem? (i := 1327) (by decide +kernel)) rfl)
def tX7_minuteDigest : Nat → Option (Instr × Nat) := fun pc => bif Nat.blt pc 19 then (bif Nat.blt pc 8 then (bif Nat.blt pc 3 then (bif Nat.blt pc 1 then (bif Nat.beq pc 0 then some (.lload_n 1, 0) else none) else (bif Nat.beq pc 1 then some (.lstore 5, 0) else none)) else (bif Nat.blt pc 4 then (bif Nat.beq pc 3 then some (.iconst 0, 0) else none) else (bif Nat.blt pc 6 then (bif Nat.beq pc 4 then some (.istore 7, 0) else none) else (bif Nat.beq pc 6 then some (.iload 7, 0) else none)))) else (bif Nat.blt pc 15 then (bif Nat.blt pc 9 then (bif Nat.beq pc 8 then some (.iconst 3, 0) else none) else (bif Nat.blt pc 12 then (bif Nat.beq pc 9 then some (.if_icmp .ge 28, 37) else none) else (bif Nat.beq pc 12 then some (.ldc2_w 330, 0) else none))) else (bif Nat.blt pc 17 then (bif Nat.beq pc 15 then some (.lload 5, 0) else none) else (bif Nat.blt pc 18 then (bif Nat.beq pc 17 then some (.lmul, 0) else none) else (bif Nat.beq pc 18 then some (.aload_n 0, 0) else none))))) else (bif Nat.blt pc 28 then (bif Nat.blt pc 22 then (bif Nat.blt pc 20 then (bif Nat.beq pc 19 then some (.iload_n 3, 0) else none) else (bif Nat.beq pc 20 then some (.iload 4, 0) else none)) else (bif Nat.blt pc 24 then (bif Nat.beq pc 22 then some (.iload 7, 0) else none) else (bif Nat.blt pc 27 then (bif Nat.beq pc 24 then some (.invokevirtual 231, 0) else none) else (bif Nat.beq pc 27 then some (.i2l, 0) else none)))) else (bif Nat.blt pc 34 then (bif Nat.blt pc 29 then (bif Nat.beq pc 28 then some (.ladd, 0) else none) else (bif Nat.blt pc 31 then (bif Nat.beq pc 29 then some (.lstore 5, 0) else none) else (bif Nat.beq pc 31 then some (.iinc 7 1, 0) else none))) else (bif Nat.blt pc 37 then (bif Nat.beq pc 34 then some (.goto (-28), 6) else none) else (bif Nat.blt pc 39 then (bif Nat.beq pc 37 then some (.lload 5, 0) else none) else (bif Nat.beq pc 39 then some (.lreturn, 0) else none)))))
def MX7_minuteDigest : MI := (yX7_minuteDigest, cX7_minuteDigest, 8, (some .long), 7, zTab 40 tX7_minuteDigest)
theorem kX7_minuteDigest : zTok MX7_minuteDigest := zTok_of 40 tX7_minuteDigest rfl (by decide +kernel)
theorem oX7_minuteDigest : zokM MX7_minuteDigest 3 = true := zokM_mk (z_in (List.mem_of_getElem? (i := 1347) (by decide +kernel)) rfl) z_ini7 (by decide +kernel)
theorem iX7_minuteDigest : zokI MX7_minuteDigest = true := zokI_mk (z_in (List.mem_of_getElem? (i := 1346) (by decide +kernel)) rfl) (z_in (List.mem_of_getElem? (i := 74) (by decide +kernel)) rfl)
def tX7_personDigest : Nat → Option (Instr × Nat) := fun pc => bif Nat.blt pc 129 then (bif Nat.blt pc 62 then (bif Nat.blt pc 29 then (bif Nat.blt pc 15 then (bif Nat.blt pc 6 then (bif Nat.blt pc 3 then (bif Nat.blt pc 1 then (bif Nat.beq pc 0 then some (.lload_n 1, 0) else none) else (bif Nat.beq pc 1 then some (.lstore 4, 0) else none)) else (bif Nat.blt pc 4 then (bif Nat.beq pc 3 then some (.iconst 0, 0) else none) else (bif Nat.beq pc 4 then some (.istore 6, 0) else none))) else (bif Nat.blt pc 9 then (bif Nat.blt pc 8 then (bif Nat.beq pc 6 then some (.iload 6, 0) else none) else (bif Nat.beq pc 8 then some (.iconst 3, 0) else none)) else (bif Nat.blt pc 12 then (bif Nat.beq pc 9 then some (.if_icmp .ge 26, 35) else none) else (bif Nat.beq pc 12 then some (.ldc2_w 330, 0) else none)))) else (bif Nat.blt pc 20 then (bif Nat.blt pc 18 then (bif Nat.blt pc 17 then (bif Nat.beq pc 15 then some (.lload 4, 0) else none) else (bif Nat.beq pc 17 then some (.lmul, 0) else none)) else (bif Nat.blt pc 19 then (bif Nat.beq pc 18 then some (.aload_n 0, 0) else none) else (bif Nat.beq pc 19 then some (.iload_n 3, 0) else none))) else (bif Nat.blt pc 25 then (bif Nat.blt pc 22 then (bif Nat.beq pc 20 then some (.iload 6, 0) else none) else (bif Nat.beq pc 22 then some (.invokevirtual 152, 0) else none)) else (bif Nat.blt pc 26 then (bif Nat.beq pc 25 then some (.i2l, 0) else none) else (bif Nat.blt pc 27 then (bif Nat.beq pc 26 then some (.ladd, 0) else none) else (bif Nat.beq pc 27 then some (.lstore 4, 0) else none)))))) else (bif Nat.blt pc 46 then (bif Nat.blt pc 38 then (bif Nat.blt pc 35 then (bif Nat.blt pc 32 then (bif Nat.beq pc 29 then some (.iinc 6 1, 0) else none) else (bif Nat.beq pc 32 then some (.goto (-26), 6) else none)) else (bif Nat.blt pc 36 then (bif Nat.beq pc 35 then some (.aload_n 0, 0) else none) else (bif Nat.beq pc 36 then some (.lload 4, 0) else none))) else (bif Nat.blt pc 40 then (bif Nat.blt pc 39 then (bif Nat.beq pc 38 then some (.iconst 0, 0) else none) else (bif Nat.beq pc 39 then some (.iload_n 3, 0) else none)) else (bif Nat.blt pc 43 then (bif Nat.beq pc 40 then some (.invokevirtual 332, 0) else none) else (bif Nat.blt pc 45 then (bif Nat.beq pc 43 then some (.lstore 4, 0) else none) else (bif Nat.beq pc 45 then some (.aload_n 0, 0) else none))))) else (bif Nat.blt pc 54 then (bif Nat.blt pc 50 then (bif Nat.blt pc 48 then (bif Nat.beq pc 46 then some (.lload 4, 0) else none) else (bif Nat.beq pc 48 then some (.bipush 6, 0) else none)) else (bif Nat.blt pc 51 then (bif Nat.beq pc 50 then some (.iload_n 3, 0) else none) else (bif Nat.beq pc 51 then some (.invokevirtual 332, 0) else none))) else (bif Nat.blt pc 57 then (bif Nat.blt pc 56 then (bif Nat.beq pc 54 then some (.lstore 4, 0) else none) else (bif Nat.beq pc 56 then some (.aload_n 0, 0) else none)) else (bif Nat.blt pc 59 then (bif Nat.beq pc 57 then some (.lload 4, 0) else none) else (bif Nat.blt pc 61 then (bif Nat.beq pc 59 then some (.bipush 13, 0) else none) else (bif Nat.beq pc 61 then some (.iload_n 3, 0) else none))))))) else (bif Nat.blt pc 95 then (bif Nat.blt pc 79 then (bif Nat.blt pc 70 then (bif Nat.blt pc 67 then (bif Nat.blt pc 65 then (bif Nat.beq pc 62 then some (.invokevirtual 332, 0) else none) else (bif Nat.beq pc 65 then some (.lstore 4, 0) else none)) else (bif Nat.blt pc 68 then (bif Nat.beq pc 67 then some (.aload_n 0, 0) else none) else (bif Nat.beq pc 68 then some (.lload 4, 0) else none))) else (bif Nat.blt pc 73 then (bif Nat.blt pc 72 then (bif Nat.beq pc 70 then some (.bipush 23, 0) else none) else (bif Nat.beq pc 72 then some (.iload_n 3, 0) else none)) else (bif Nat.blt pc 76 then (bif Nat.beq pc 73 then some (.invokevirtual 332, 0) else none) else (bif Nat.blt pc 78 then (bif Nat.beq pc 76 then some (.lstore 4, 0) else none) else (bif Nat.beq pc 78 then some (.iconst 0, 0) else none))))) else (bif Nat.blt pc 87 then (bif Nat.blt pc 83 then (bif Nat.blt pc 81 then (bif Nat.beq pc 79 then some (.istore 6, 0) else none) else (bif Nat.beq pc 81 then some (.iload 6, 0) else none)) else (bif Nat.blt pc 84 then (bif Nat.beq pc 83 then some (.iconst 3, 0) else none) else (bif Nat.beq pc 84 then some (.if_icmp .ge 26, 110) else none))) else (bif Nat.blt pc 92 then (bif Nat.blt pc 90 then (bif Nat.beq pc 87 then some (.ldc2_w 330, 0) else none) else (bif Nat.beq pc 90 then some (.lload 4, 0) else none)) else (bif Nat.blt pc 93 then (bif Nat.beq pc 92 then some (.lmul, 0) else none) else (bif Nat.blt pc 94 then (bif Nat.beq pc 93 then some (.aload_n 0, 0) else none) else (bif Nat.beq pc 94 then some (.iload_n 3, 0) else none)))))) else (bif Nat.blt pc 115 then (bif Nat.blt pc 102 then (bif Nat.blt pc 100 then (bif Nat.blt pc 97 then (bif Nat.beq pc 95 then some (.iload 6, 0) else none) else (bif Nat.beq pc 97 then some (.invokevirtual 243, 0) else none)) else (bif Nat.blt pc 101 then (bif Nat.beq pc 100 then some (.i2l, 0) else none) else (bif Nat.beq pc 101 then some (.ladd, 0) else none))) else (bif Nat.blt pc 107 then (bif Nat.blt pc 104 then (bif Nat.beq pc 102 then some (.lstore 4, 0) else none) else (bif Nat.beq pc 104 then some (.iinc 6 1, 0) else none)) else (bif Nat.blt pc 110 then (bif Nat.beq pc 107 then some (.goto (-26), 81) else none) else (bif Nat.blt pc 113 then (bif Nat.beq pc 110 then some (.ldc2_w 330, 0) else none) else (bif Nat.beq pc 113 then some (.lload 4, 0) else none))))) else (bif Nat.blt pc 119 then (bif Nat.blt pc 117 then (bif Nat.blt pc 116 then (bif Nat.beq pc 115 then some (.lmul, 0) else none) else (bif Nat.beq pc 116 then some (.aload_n 0, 0) else none)) else (bif Nat.blt pc 118 then (bif Nat.beq pc 117 then some (.iload_n 3, 0) else none) else (bif Nat.beq pc 118 then some (.iconst 0, 0) else none))) else (bif Nat.blt pc 123 then (bif Nat.blt pc 122 then (bif Nat.beq pc 119 then some (.invokevirtual 255, 0) else none) else (bif Nat.beq pc 122 then some (.i2l, 0) else none)) else (bif Nat.blt pc 124 then (bif Nat.beq pc 123 then some (.ladd, 0) else none) else (bif Nat.blt pc 126 then (bif Nat.beq pc 124 then some (.lstore 4, 0) else none) else (bif Nat.beq pc 126 then some (.ldc2_w 330, 0) else none)))))))) else (bif Nat.blt pc 185 then (bif Nat.blt pc 155 then (bif Nat.blt pc 140 then (bif Nat.blt pc 134 then (bif Nat.blt pc 132 then (bif Nat.blt pc 131 then (bif Nat.beq pc 129 then some (.lload 4, 0) else none) else (bif Nat.beq pc 131 then some (.lmul, 0) else none)) else (bif Nat.blt pc 133 then (bif Nat.beq pc 132 then some (.aload_n 0, 0) else none) else (bif Nat.beq pc 133 then some (.iload_n 3, 0) else none))) else (bif Nat.blt pc 138 then (bif Nat.blt pc 135 then (bif Nat.beq pc 134 then some (.iconst 1, 0) else none) else (bif Nat.beq pc 135 then some (.invokevirtual 255, 0) else none)) else (bif Nat.blt pc 139 then (bif Nat.beq pc 138 then some (.i2l, 0) else none) else (bif Nat.beq pc 139 then some (.ladd, 0) else none)))) else (bif Nat.blt pc 148 then (bif Nat.blt pc 145 then (bif Nat.blt pc 142 then (bif Nat.beq pc 140 then some (.lstore 4, 0) else none) else (bif Nat.beq pc 142 then some (.ldc2_w 330, 0) else none)) else (bif Nat.blt pc 147 then (bif Nat.beq pc 145 then some (.lload 4, 0) else none) else (bif Nat.beq pc 147 then some (.lmul, 0) else none))) else (bif Nat.blt pc 150 then (bif Nat.blt pc 149 then (bif Nat.beq pc 148 then some (.aload_n 0, 0) else none) else (bif Nat.beq pc 149 then some (.iload_n 3, 0) else none)) else (bif Nat.blt pc 153 then (bif Nat.beq pc 150 then some (.invokevirtual 292, 0) else none) else (bif Nat.blt pc 154 then (bif Nat.beq pc 153 then some (.i2l, 0) else none) else (bif Nat.beq pc 154 then some (.ladd, 0) else none)))))) else (bif Nat.blt pc 170 then (bif Nat.blt pc 163 then (bif Nat.blt pc 160 then (bif Nat.blt pc 157 then (bif Nat.beq pc 155 then some (.lstore 4, 0) else none) else (bif Nat.beq pc 157 then some (.ldc2_w 330, 0) else none)) else (bif Nat.blt pc 162 then (bif Nat.beq pc 160 then some (.lload 4, 0) else none) else (bif Nat.beq pc 162 then some (.lmul, 0) else none))) else (bif Nat.blt pc 165 then (bif Nat.blt pc 164 then (bif Nat.beq pc 163 then some (.aload_n 0, 0) else none) else (bif Nat.beq pc 164 then some (.iload_n 3, 0) else none)) else (bif Nat.blt pc 168 then (bif Nat.beq pc 165 then some (.invokevirtual 295, 0) else none) else (bif Nat.blt pc 169 then (bif Nat.beq pc 168 then some (.i2l, 0) else none) else (bif Nat.beq pc 169 then some (.ladd, 0) else none))))) else (bif Nat.blt pc 178 then (bif Nat.blt pc 175 then (bif Nat.blt pc 172 then (bif Nat.beq pc 170 then some (.lstore 4, 0) else none) else (bif Nat.beq pc 172 then some (.ldc2_w 330, 0) else none)) else (bif Nat.blt pc 177 then (bif Nat.beq pc 175 then some (.lload 4, 0) else none) else (bif Nat.beq pc 177 then some (.lmul, 0) else none))) else (bif Nat.blt pc 180 then (bif Nat.blt pc 179 then (bif Nat.beq pc 178 then some (.aload_n 0, 0) else none) else (bif Nat.beq pc 179 then some (.iload_n 3, 0) else none)) else (bif Nat.blt pc 183 then (bif Nat.beq pc 180 then some (.invokevirtual 298, 0) else none) else (bif Nat.blt pc 184 then (bif Nat.beq pc 183 then some (.i2l, 0) else none) else (bif Nat.beq pc 184 then some (.ladd, 0) else none))))))) else (bif Nat.blt pc 213 then (bif Nat.blt pc 200 then (bif Nat.blt pc 193 then (bif Nat.blt pc 190 then (bif Nat.blt pc 187 then (bif Nat.beq pc 185 then some (.lstore 4, 0) else none) else (bif Nat.beq pc 187 then some (.ldc2_w 330, 0) else none)) else (bif Nat.blt pc 192 then (bif Nat.beq pc 190 then some (.lload 4, 0) else none) else (bif Nat.beq pc 192 then some (.lmul, 0) else none))) else (bif Nat.blt pc 195 then (bif Nat.blt pc 194 then (bif Nat.beq pc 193 then some (.aload_n 0, 0) else none) else (bif Nat.beq pc 194 then some (.iconst 5, 0) else none)) else (bif Nat.blt pc 196 then (bif Nat.beq pc 195 then some (.iload_n 3, 0) else none) else (bif Nat.blt pc 197 then (bif Nat.beq pc 196 then some (.iconst 0, 0) else none) else (bif Nat.beq pc 197 then some (.invokevirtual 305, 0) else none))))) else (bif Nat.blt pc 208 then (bif Nat.blt pc 203 then (bif Nat.blt pc 201 then (bif Nat.beq pc 200 then some (.ladd, 0) else none) else (bif Nat.beq pc 201 then some (.lstore 4, 0) else none)) else (bif Nat.blt pc 206 then (bif Nat.beq pc 203 then some (.ldc2_w 330, 0) else none) else (bif Nat.beq pc 206 then some (.lload 4, 0) else none))) else (bif Nat.blt pc 210 then (bif Nat.blt pc 209 then (bif Nat.beq pc 208 then some (.lmul, 0) else none) else (bif Nat.beq pc 209 then some (.aload_n 0, 0) else none)) else (bif Nat.blt pc 211 then (bif Nat.beq pc 210 then some (.iconst 5, 0) else none) else (bif Nat.blt pc 212 then (bif Nat.beq pc 211 then some (.iload_n 3, 0) else none) else (bif Nat.beq pc 212 then some (.iconst 1, 0) else none)))))) else (bif Nat.blt pc 230 then (bif Nat.blt pc 222 then (bif Nat.blt pc 217 then (bif Nat.blt pc 216 then (bif Nat.beq pc 213 then some (.invokevirtual 305, 0) else none) else (bif Nat.beq pc 216 then some (.ladd, 0) else none)) else (bif Nat.blt pc 219 then (bif Nat.beq pc 217 then some (.lstore 4, 0) else none) else (bif Nat.beq pc 219 then some (.ldc2_w 330, 0) else none))) else (bif Nat.blt pc 225 then (bif Nat.blt pc 224 then (bif Nat.beq pc 222 then some (.lload 4, 0) else none) else (bif Nat.beq pc 224 then some (.lmul, 0) else none)) else (bif Nat.blt pc 226 then (bif Nat.beq pc 225 then some (.iload_n 3, 0) else none) else (bif Nat.blt pc 229 then (bif Nat.beq pc 226 then some (.ifCond .ne 7, 233) else none) else (bif Nat.beq pc 229 then some (.iconst 0, 0) else none))))) else (bif Nat.blt pc 237 then (bif Nat.blt pc 234 then (bif Nat.blt pc 233 then (bif Nat.beq pc 230 then some (.goto 11, 241) else none) else (bif Nat.beq pc 233 then some (.aload_n 0, 0) else none)) else (bif Nat.blt pc 236 then (bif Nat.beq pc 234 then some (.bipush 9, 0) else none) else (bif Nat.beq pc 236 then some (.iconst 0, 0) else none))) else (bif Nat.blt pc 241 then (bif Nat.blt pc 238 then (bif Nat.beq pc 237 then some (.iload_n 3, 0) else none) else (bif Nat.beq pc 238 then some (.invokevirtual 234, 0) else none)) else (bif Nat.blt pc 242 then (bif Nat.beq pc 241 then some (.i2l, 0) else none) else (bif Nat.blt pc 243 then (bif Nat.beq pc 242 then some (.ladd, 0) else none) else (bif Nat.beq pc 243 then some (.lreturn, 0) else none))))))))
def MX7_personDigest : MI := (yX7_personDigest, cX7_personDigest, 7, (some .long), 7, zTab 244 tX7_personDigest)
theorem kX7_personDigest : zTok MX7_personDigest := zTok_of 244 tX7_personDigest rfl (by decide +kernel)
theorem oX7_personDigest : zokM MX7_personDigest 2 = true := zokM_mk (z_in (List.mem_of_getElem? (i := 1343) (by decide +kernel)) rfl) z_ini7 (by decide +kernel)
theorem iX7_personDigest : zokI MX7_personDigest = true := zokI_mk (z_in (List.mem_of_getElem? (i := 1342) (by decide +kernel)) rfl) (z_in (List.mem_of_getElem? (i := 73) (by decide +kernel)) rfl)
def tX7_digest : Nat → Option (Instr × Nat) := fun pc => bif Nat.blt pc 165 then (bif Nat.blt pc 82 then (bif Nat.blt pc 43 then (bif Nat.blt pc 22 then (bif Nat.blt pc 9 then (bif Nat.blt pc 5 then (bif Nat.blt pc 3 then (bif Nat.beq pc 0 then some (.ldc2_w 336, 0) else none) else (bif Nat.blt pc 4 then (bif Nat.beq pc 3 then some (.lstore_n 1, 0) else none) else (bif Nat.beq pc 4 then some (.iconst 0, 0) else none))) else (bif Nat.blt pc 6 then (bif Nat.beq pc 5 then some (.istore_n 3, 0) else none) else (bif Nat.blt pc 7 then (bif Nat.beq pc 6 then some (.iload_n 3, 0) else none) else (bif Nat.beq pc 7 then some (.bipush 8, 0) else none)))) else (bif Nat.blt pc 16 then (bif Nat.blt pc 12 then (bif Nat.beq pc 9 then some (.if_icmp .ge 22, 31) else none) else (bif Nat.blt pc 15 then (bif Nat.beq pc 12 then some (.ldc2_w 330, 0) else none) else (bif Nat.beq pc 15 then some (.lload_n 1, 0) else none))) else (bif Nat.blt pc 18 then (bif Nat.blt pc 17 then (bif Nat.beq pc 16 then some (.lmul, 0) else none) else (bif Nat.beq pc 17 then some (.aload_n 0, 0) else none)) else (bif Nat.blt pc 19 then (bif Nat.beq pc 18 then some (.iload_n 3, 0) else none) else (bif Nat.beq pc 19 then some (.invokevirtual 338, 0) else none))))) else (bif Nat.blt pc 34 then (bif Nat.blt pc 25 then (bif Nat.blt pc 23 then (bif Nat.beq pc 22 then some (.i2l, 0) else none) else (bif Nat.blt pc 24 then (bif Nat.beq pc 23 then some (.ladd, 0) else none) else (bif Nat.beq pc 24 then some (.lstore_n 1, 0) else none))) else (bif Nat.blt pc 28 then (bif Nat.beq pc 25 then some (.iinc 3 1, 0) else none) else (bif Nat.blt pc 31 then (bif Nat.beq pc 28 then some (.goto (-22), 6) else none) else (bif Nat.beq pc 31 then some (.ldc2_w 330, 0) else none)))) else (bif Nat.blt pc 37 then (bif Nat.blt pc 35 then (bif Nat.beq pc 34 then some (.lload_n 1, 0) else none) else (bif Nat.blt pc 36 then (bif Nat.beq pc 35 then some (.lmul, 0) else none) else (bif Nat.beq pc 36 then some (.aload_n 0, 0) else none))) else (bif Nat.blt pc 41 then (bif Nat.blt pc 38 then (bif Nat.beq pc 37 then some (.iconst 0, 0) else none) else (bif Nat.beq pc 38 then some (.invokevirtual 140, 0) else none)) else (bif Nat.blt pc 42 then (bif Nat.beq pc 41 then some (.i2l, 0) else none) else (bif Nat.beq pc 42 then some (.ladd, 0) else none)))))) else (bif Nat.blt pc 60 then (bif Nat.blt pc 51 then (bif Nat.blt pc 48 then (bif Nat.blt pc 44 then (bif Nat.beq pc 43 then some (.lstore_n 1, 0) else none) else (bif Nat.blt pc 47 then (bif Nat.beq pc 44 then some (.ldc2_w 330, 0) else none) else (bif Nat.beq pc 47 then some (.lload_n 1, 0) else none))) else (bif Nat.blt pc 49 then (bif Nat.beq pc 48 then some (.lmul, 0) else none) else (bif Nat.blt pc 50 then (bif Nat.beq pc 49 then some (.aload_n 0, 0) else none) else (bif Nat.beq pc 50 then some (.iconst 1, 0) else none)))) else (bif Nat.blt pc 56 then (bif Nat.blt pc 54 then (bif Nat.beq pc 51 then some (.invokevirtual 140, 0) else none) else (bif Nat.blt pc 55 then (bif Nat.beq pc 54 then some (.i2l, 0) else none) else (bif Nat.beq pc 55 then some (.ladd, 0) else none))) else (bif Nat.blt pc 58 then (bif Nat.blt pc 57 then (bif Nat.beq pc 56 then some (.lstore_n 1, 0) else none) else (bif Nat.beq pc 57 then some (.iconst 0, 0) else none)) else (bif Nat.blt pc 59 then (bif Nat.beq pc 58 then some (.istore_n 3, 0) else none) else (bif Nat.beq pc 59 then some (.iload_n 3, 0) else none))))) else (bif Nat.blt pc 71 then (bif Nat.blt pc 68 then (bif Nat.blt pc 62 then (bif Nat.beq pc 60 then some (.bipush 24, 0) else none) else (bif Nat.blt pc 65 then (bif Nat.beq pc 62 then some (.if_icmp .ge 63, 125) else none) else (bif Nat.beq pc 65 then some (.ldc2_w 330, 0) else none))) else (bif Nat.blt pc 69 then (bif Nat.beq pc 68 then some (.lload_n 1, 0) else none) else (bif Nat.blt pc 70 then (bif Nat.beq pc 69 then some (.lmul, 0) else none) else (bif Nat.beq pc 70 then some (.aload_n 0, 0) else none)))) else (bif Nat.blt pc 76 then (bif Nat.blt pc 72 then (bif Nat.beq pc 71 then some (.iload_n 3, 0) else none) else (bif Nat.blt pc 75 then (bif Nat.beq pc 72 then some (.invokevirtual 155, 0) else none) else (bif Nat.beq pc 75 then some (.i2l, 0) else none))) else (bif Nat.blt pc 78 then (bif Nat.blt pc 77 then (bif Nat.beq pc 76 then some (.ladd, 0) else none) else (bif Nat.beq pc 77 then some (.lstore_n 1, 0) else none)) else (bif Nat.blt pc 81 then (bif Nat.beq pc 78 then some (.ldc2_w 330, 0) else none) else (bif Nat.beq pc 81 then some (.lload_n 1, 0) else none))))))) else (bif Nat.blt pc 118 then (bif Nat.blt pc 99 then (bif Nat.blt pc 90 then (bif Nat.blt pc 85 then (bif Nat.blt pc 83 then (bif Nat.beq pc 82 then some (.lmul, 0) else none) else (bif Nat.blt pc 84 then (bif Nat.beq pc 83 then some (.aload_n 0, 0) else none) else (bif Nat.beq pc 84 then some (.iload_n 3, 0) else none))) else (bif Nat.blt pc 88 then (bif Nat.beq pc 85 then some (.invokevirtual 225, 0) else none) else (bif Nat.blt pc 89 then (bif Nat.beq pc 88 then some (.i2l, 0) else none) else (bif Nat.beq pc 89 then some (.ladd, 0) else none)))) else (bif Nat.blt pc 95 then (bif Nat.blt pc 91 then (bif Nat.beq pc 90 then some (.lstore_n 1, 0) else none) else (bif Nat.blt pc 94 then (bif Nat.beq pc 91 then some (.ldc2_w 330, 0) else none) else (bif Nat.beq pc 94 then some (.lload_n 1, 0) else none))) else (bif Nat.blt pc 97 then (bif Nat.blt pc 96 then (bif Nat.beq pc 95 then some (.lmul, 0) else none) else (bif Nat.beq pc 96 then some (.aload_n 0, 0) else none)) else (bif Nat.blt pc 98 then (bif Nat.beq pc 97 then some (.iload_n 3, 0) else none) else (bif Nat.beq pc 98 then some (.iconst 0, 0) else none))))) else (bif Nat.blt pc 109 then (bif Nat.blt pc 104 then (bif Nat.blt pc 102 then (bif Nat.beq pc 99 then some (.invokevirtual 222, 0) else none) else (bif Nat.blt pc 103 then (bif Nat.beq pc 102 then some (.i2l, 0) else none) else (bif Nat.beq pc 103 then some (.ladd, 0) else none))) else (bif Nat.blt pc 105 then (bif Nat.beq pc 104 then some (.lstore_n 1, 0) else none) else (bif Nat.blt pc 108 then (bif Nat.beq pc 105 then some (.ldc2_w 330, 0) else none) else (bif Nat.beq pc 108 then some (.lload_n 1, 0) else none)))) else (bif Nat.blt pc 112 then (bif Nat.blt pc 110 then (bif Nat.beq pc 109 then some (.lmul, 0) else none) else (bif Nat.blt pc 111 then (bif Nat.beq pc 110 then some (.aload_n 0, 0) else none) else (bif Nat.beq pc 111 then some (.iload_n 3, 0) else none))) else (bif Nat.blt pc 116 then (bif Nat.blt pc 113 then (bif Nat.beq pc 112 then some (.iconst 4, 0) else none) else (bif Nat.beq pc 113 then some (.invokevirtual 222, 0) else none)) else (bif Nat.blt pc 117 then (bif Nat.beq pc 116 then some (.i2l, 0) else none) else (bif Nat.beq pc 117 then some (.ladd, 0) else none)))))) else (bif Nat.blt pc 141 then (bif Nat.blt pc 128 then (bif Nat.blt pc 125 then (bif Nat.blt pc 119 then (bif Nat.beq pc 118 then some (.lstore_n 1, 0) else none) else (bif Nat.blt pc 122 then (bif Nat.beq pc 119 then some (.iinc 3 1, 0) else none) else (bif Nat.beq pc 122 then some (.goto (-63), 59) else none))) else (bif Nat.blt pc 126 then (bif Nat.beq pc 125 then some (.iconst 0, 0) else none) else (bif Nat.blt pc 127 then (bif Nat.beq pc 126 then some (.istore_n 3, 0) else none) else (bif Nat.beq pc 127 then some (.iload_n 3, 0) else none)))) else (bif Nat.blt pc 135 then (bif Nat.blt pc 129 then (bif Nat.beq pc 128 then some (.aload_n 0, 0) else none) else (bif Nat.blt pc 132 then (bif Nat.beq pc 129 then some (.getfield 119, 0) else none) else (bif Nat.beq pc 132 then some (.if_icmp .ge 16, 148) else none))) else (bif Nat.blt pc 137 then (bif Nat.blt pc 136 then (bif Nat.beq pc 135 then some (.aload_n 0, 0) else none) else (bif Nat.beq pc 136 then some (.lload_n 1, 0) else none)) else (bif Nat.blt pc 138 then (bif Nat.beq pc 137 then some (.iload_n 3, 0) else none) else (bif Nat.beq pc 138 then some (.invokevirtual 341, 0) else none))))) else (bif Nat.blt pc 154 then (bif Nat.blt pc 148 then (bif Nat.blt pc 142 then (bif Nat.beq pc 141 then some (.lstore_n 1, 0) else none) else (bif Nat.blt pc 145 then (bif Nat.beq pc 142 then some (.iinc 3 1, 0) else none) else (bif Nat.beq pc 145 then some (.goto (-18), 127) else none))) else (bif Nat.blt pc 152 then (bif Nat.blt pc 151 then (bif Nat.beq pc 148 then some (.ldc2_w 330, 0) else none) else (bif Nat.beq pc 151 then some (.lload_n 1, 0) else none)) else (bif Nat.blt pc 153 then (bif Nat.beq pc 152 then some (.lmul, 0) else none) else (bif Nat.beq pc 153 then some (.aload_n 0, 0) else none)))) else (bif Nat.blt pc 159 then (bif Nat.blt pc 155 then (bif Nat.beq pc 154 then some (.iconst 0, 0) else none) else (bif Nat.blt pc 158 then (bif Nat.beq pc 155 then some (.invokevirtual 249, 0) else none) else (bif Nat.beq pc 158 then some (.i2l, 0) else none))) else (bif Nat.blt pc 161 then (bif Nat.blt pc 160 then (bif Nat.beq pc 159 then some (.ladd, 0) else none) else (bif Nat.beq pc 160 then some (.lstore_n 1, 0) else none)) else (bif Nat.blt pc 164 then (bif Nat.beq pc 161 then some (.ldc2_w 330, 0) else none) else (bif Nat.beq pc 164 then some (.lload_n 1, 0) else none)))))))) else (bif Nat.blt pc 243 then (bif Nat.blt pc 204 then (bif Nat.blt pc 184 then (bif Nat.blt pc 173 then (bif Nat.blt pc 168 then (bif Nat.blt pc 166 then (bif Nat.beq pc 165 then some (.lmul, 0) else none) else (bif Nat.blt pc 167 then (bif Nat.beq pc 166 then some (.aload_n 0, 0) else none) else (bif Nat.beq pc 167 then some (.iconst 1, 0) else none))) else (bif Nat.blt pc 171 then (bif Nat.beq pc 168 then some (.invokevirtual 249, 0) else none) else (bif Nat.blt pc 172 then (bif Nat.beq pc 171 then some (.i2l, 0) else none) else (bif Nat.beq pc 172 then some (.ladd, 0) else none)))) else (bif Nat.blt pc 178 then (bif Nat.blt pc 174 then (bif Nat.beq pc 173 then some (.lstore_n 1, 0) else none) else (bif Nat.blt pc 177 then (bif Nat.beq pc 174 then some (.ldc2_w 330, 0) else none) else (bif Nat.beq pc 177 then some (.lload_n 1, 0) else none))) else (bif Nat.blt pc 180 then (bif Nat.blt pc 179 then (bif Nat.beq pc 178 then some (.lmul, 0) else none) else (bif Nat.beq pc 179 then some (.aload_n 0, 0) else none)) else (bif Nat.blt pc 183 then (bif Nat.beq pc 180 then some (.invokevirtual 252, 0) else none) else (bif Nat.beq pc 183 then some (.i2l, 0) else none))))) else (bif Nat.blt pc 192 then (bif Nat.blt pc 189 then (bif Nat.blt pc 185 then (bif Nat.beq pc 184 then some (.ladd, 0) else none) else (bif Nat.blt pc 186 then (bif Nat.beq pc 185 then some (.lstore_n 1, 0) else none) else (bif Nat.beq pc 186 then some (.ldc2_w 330, 0) else none))) else (bif Nat.blt pc 190 then (bif Nat.beq pc 189 then some (.lload_n 1, 0) else none) else (bif Nat.blt pc 191 then (bif Nat.beq pc 190 then some (.lmul, 0) else none) else (bif Nat.beq pc 191 then some (.aload_n 0, 0) else none)))) else (bif Nat.blt pc 198 then (bif Nat.blt pc 194 then (bif Nat.beq pc 192 then some (.bipush 8, 0) else none) else (bif Nat.blt pc 195 then (bif Nat.beq pc 194 then some (.iconst 0, 0) else none) else (bif Nat.beq pc 195 then some (.invokevirtual 261, 0) else none))) else (bif Nat.blt pc 200 then (bif Nat.blt pc 199 then (bif Nat.beq pc 198 then some (.i2l, 0) else none) else (bif Nat.beq pc 199 then some (.ladd, 0) else none)) else (bif Nat.blt pc 201 then (bif Nat.beq pc 200 then some (.lstore_n 1, 0) else none) else (bif Nat.beq pc 201 then some (.ldc2_w 330, 0) else none)))))) else (bif Nat.blt pc 222 then (bif Nat.blt pc 213 then (bif Nat.blt pc 207 then (bif Nat.blt pc 205 then (bif Nat.beq pc 204 then some (.lload_n 1, 0) else none) else (bif Nat.blt pc 206 then (bif Nat.beq pc 205 then some (.lmul, 0) else none) else (bif Nat.beq pc 206 then some (.aload_n 0, 0) else none))) else (bif Nat.blt pc 209 then (bif Nat.beq pc 207 then some (.bipush 8, 0) else none) else (bif Nat.blt pc 210 then (bif Nat.beq pc 209 then some (.iconst 1, 0) else none) else (bif Nat.beq pc 210 then some (.invokevirtual 261, 0) else none)))) else (bif Nat.blt pc 216 then (bif Nat.blt pc 214 then (bif Nat.beq pc 213 then some (.i2l, 0) else none) else (bif Nat.blt pc 215 then (bif Nat.beq pc 214 then some (.ladd, 0) else none) else (bif Nat.beq pc 215 then some (.lstore_n 1, 0) else none))) else (bif Nat.blt pc 220 then (bif Nat.blt pc 219 then (bif Nat.beq pc 216 then some (.ldc2_w 330, 0) else none) else (bif Nat.beq pc 219 then some (.lload_n 1, 0) else none)) else (bif Nat.blt pc 221 then (bif Nat.beq pc 220 then some (.lmul, 0) else none) else (bif Nat.beq pc 221 then some (.aload_n 0, 0) else none))))) else (bif Nat.blt pc 231 then (bif Nat.blt pc 228 then (bif Nat.blt pc 224 then (bif Nat.beq pc 222 then some (.bipush 8, 0) else none) else (bif Nat.blt pc 225 then (bif Nat.beq pc 224 then some (.iconst 0, 0) else none) else (bif Nat.beq pc 225 then some (.invokevirtual 264, 0) else none))) else (bif Nat.blt pc 229 then (bif Nat.beq pc 228 then some (.i2l, 0) else none) else (bif Nat.blt pc 230 then (bif Nat.beq pc 229 then some (.ladd, 0) else none) else (bif Nat.beq pc 230 then some (.lstore_n 1, 0) else none)))) else (bif Nat.blt pc 236 then (bif Nat.blt pc 234 then (bif Nat.beq pc 231 then some (.ldc2_w 330, 0) else none) else (bif Nat.blt pc 235 then (bif Nat.beq pc 234 then some (.lload_n 1, 0) else none) else (bif Nat.beq pc 235 then some (.lmul, 0) else none))) else (bif Nat.blt pc 239 then (bif Nat.blt pc 237 then (bif Nat.beq pc 236 then some (.aload_n 0, 0) else none) else (bif Nat.beq pc 237 then some (.bipush 8, 0) else none)) else (bif Nat.blt pc 240 then (bif Nat.beq pc 239 then some (.iconst 1, 0) else none) else (bif Nat.beq pc 240 then some (.invokevirtual 264, 0) else none))))))) else (bif Nat.blt pc 279 then (bif Nat.blt pc 260 then (bif Nat.blt pc 251 then (bif Nat.blt pc 246 then (bif Nat.blt pc 244 then (bif Nat.beq pc 243 then some (.i2l, 0) else none) else (bif Nat.blt pc 245 then (bif Nat.beq pc 244 then some (.ladd, 0) else none) else (bif Nat.beq pc 245 then some (.lstore_n 1, 0) else none))) else (bif Nat.blt pc 247 then (bif Nat.beq pc 246 then some (.aload_n 0, 0) else none) else (bif Nat.blt pc 250 then (bif Nat.beq pc 247 then some (.invokevirtual 270, 0) else none) else (bif Nat.beq pc 250 then some (.istore_n 3, 0) else none)))) else (bif Nat.blt pc 256 then (bif Nat.blt pc 254 then (bif Nat.beq pc 251 then some (.ldc2_w 330, 0) else none) else (bif Nat.blt pc 255 then (bif Nat.beq pc 254 then some (.lload_n 1, 0) else none) else (bif Nat.beq pc 255 then some (.lmul, 0) else none))) else (bif Nat.blt pc 258 then (bif Nat.blt pc 257 then (bif Nat.beq pc 256 then some (.iload_n 3, 0) else none) else (bif Nat.beq pc 257 then some (.i2l, 0) else none)) else (bif Nat.blt pc 259 then (bif Nat.beq pc 258 then some (.ladd, 0) else none) else (bif Nat.beq pc 259 then some (.lstore_n 1, 0) else none))))) else (bif Nat.blt pc 268 then (bif Nat.blt pc 265 then (bif Nat.blt pc 263 then (bif Nat.beq pc 260 then some (.ldc2_w 330, 0) else none) else (bif Nat.blt pc 264 then (bif Nat.beq pc 263 then some (.lload_n 1, 0) else none) else (bif Nat.beq pc 264 then some (.lmul, 0) else none))) else (bif Nat.blt pc 266 then (bif Nat.beq pc 265 then some (.aload_n 0, 0) else none) else (bif Nat.blt pc 267 then (bif Nat.beq pc 266 then some (.iload_n 3, 0) else none) else (bif Nat.beq pc 267 then some (.iconst 0, 0) else none)))) else (bif Nat.blt pc 273 then (bif Nat.blt pc 271 then (bif Nat.beq pc 268 then some (.invokevirtual 273, 0) else none) else (bif Nat.blt pc 272 then (bif Nat.beq pc 271 then some (.i2l, 0) else none) else (bif Nat.beq pc 272 then some (.ladd, 0) else none))) else (bif Nat.blt pc 277 then (bif Nat.blt pc 274 then (bif Nat.beq pc 273 then some (.lstore_n 1, 0) else none) else (bif Nat.beq pc 274 then some (.ldc2_w 330, 0) else none)) else (bif Nat.blt pc 278 then (bif Nat.beq pc 277 then some (.lload_n 1, 0) else none) else (bif Nat.beq pc 278 then some (.lmul, 0) else none)))))) else (bif Nat.blt pc 300 then (bif Nat.blt pc 289 then (bif Nat.blt pc 284 then (bif Nat.blt pc 280 then (bif Nat.beq pc 279 then some (.aload_n 0, 0) else none) else (bif Nat.blt pc 283 then (bif Nat.beq pc 280 then some (.invokevirtual 283, 0) else none) else (bif Nat.beq pc 283 then some (.i2l, 0) else none))) else (bif Nat.blt pc 285 then (bif Nat.beq pc 284 then some (.ladd, 0) else none) else (bif Nat.blt pc 286 then (bif Nat.beq pc 285 then some (.lstore_n 1, 0) else none) else (bif Nat.beq pc 286 then some (.ldc2_w 330, 0) else none)))) else (bif Nat.blt pc 292 then (bif Nat.blt pc 290 then (bif Nat.beq pc 289 then some (.lload_n 1, 0) else none) else (bif Nat.blt pc 291 then (bif Nat.beq pc 290 then some (.lmul, 0) else none) else (bif Nat.beq pc 291 then some (.aload_n 0, 0) else none))) else (bif Nat.blt pc 296 then (bif Nat.blt pc 294 then (bif Nat.beq pc 292 then some (.bipush 7, 0) else none) else (bif Nat.beq pc 294 then some (.bipush 6, 0) else none)) else (bif Nat.blt pc 297 then (bif Nat.beq pc 296 then some (.iconst 0, 0) else none) else (bif Nat.beq pc 297 then some (.invokevirtual 313, 0) else none))))) else (bif Nat.blt pc 309 then (bif Nat.blt pc 303 then (bif Nat.blt pc 301 then (bif Nat.beq pc 300 then some (.i2l, 0) else none) else (bif Nat.blt pc 302 then (bif Nat.beq pc 301 then some (.ladd, 0) else none) else (bif Nat.beq pc 302 then some (.lstore_n 1, 0) else none))) else (bif Nat.blt pc 307 then (bif Nat.blt pc 306 then (bif Nat.beq pc 303 then some (.ldc2_w 330, 0) else none) else (bif Nat.beq pc 306 then some (.lload_n 1, 0) else none)) else (bif Nat.blt pc 308 then (bif Nat.beq pc 307 then some (.lmul, 0) else none) else (bif Nat.beq pc 308 then some (.aload_n 0, 0) else none)))) else (bif Nat.blt pc 314 then (bif Nat.blt pc 311 then (bif Nat.beq pc 309 then some (.bipush 7, 0) else none) else (bif Nat.blt pc 313 then (bif Nat.beq pc 311 then some (.bipush 6, 0) else none) else (bif Nat.beq pc 313 then some (.iconst 1, 0) else none))) else (bif Nat.blt pc 318 then (bif Nat.blt pc 317 then (bif Nat.beq pc 314 then some (.invokevirtual 313, 0) else none) else (bif Nat.beq pc 317 then some (.i2l, 0) else none)) else (bif Nat.blt pc 319 then (bif Nat.beq pc 318 then some (.ladd, 0) else none) else (bif Nat.beq pc 319 then some (.lreturn, 0) else none))))))))
def MX7_digest : MI := (yX7_digest, cX7_digest, 4, (some .long), 7, zTab 320 tX7_digest)
theorem kX7_digest : zTok MX7_digest := zTok_of 320 tX7_digest rfl (by decide +kernel)
theorem oX7_digest : zokM MX7_digest 0 = true := zokM_mk (z_in (List.mem_of_getElem? (i := 1336) (by decide +kernel)) rfl) z_ini7 (by decide +kernel)
theorem iX7_digest : zokI MX7_digest = true := zokI_mk (z_in (List.mem_of_getElem? (i := 1334) (by decide +kernel)) rfl) (z_in (List.mem_of_getElem? (i := 1335) (by decide +kernel)) rfl)
end
section
theorem lk_0_18 : Cond.methodLink (zown 0) 18 MX2_people.1 ∈ z_tbl := (z_in (List.mem_of_getElem? (i := 283) (by decide +kernel)) rfl)
theorem lk_0_31 : Cond.methodLink (zown 0) 31 MX2_parcels.1 ∈ z_tbl := (z_in (List.mem_of_getElem? (i := 287) (by decide +kernel)) rfl)
theorem lk_0_38 : Cond.methodLink (zown 0) 38 MX2_dueIn.1 ∈ z_tbl := (z_in (List.mem_of_getElem? (i := 291) (by decide +kernel)) rfl)
theorem lk_0_42 : Cond.methodLink (zown 0) 42 MX0_doEvents.1 ∈ z_tbl := (z_in (List.mem_of_getElem? (i := 295) (by decide +kernel)) rfl)
theorem lk_0_46 : Cond.methodLink (zown 0) 46 MX2_comersIn.1 ∈ z_tbl := (z_in (List.mem_of_getElem? (i := 323) (by decide +kernel)) rfl)
theorem lk_0_49 : Cond.methodLink (zown 0) 49 MX0_letIn.1 ∈ z_tbl := (z_in (List.mem_of_getElem? (i := 327) (by decide +kernel)) rfl)
theorem lk_0_52 : Cond.methodLink (zown 0) 52 MX2_openIn.1 ∈ z_tbl := (z_in (List.mem_of_getElem? (i := 338) (by decide +kernel)) rfl)
theorem lk_0_55 : Cond.methodLink (zown 0) 55 MX0_serve.1 ∈ z_tbl := (z_in (List.mem_of_getElem? (i := 342) (by decide +kernel)) rfl)
theorem lk_0_59 : Cond.methodLink (zown 0) 59 MX0_keep.1 ∈ z_tbl := (z_in (List.mem_of_getElem? (i := 352) (by decide +kernel)) rfl)
theorem lk_0_62 : Cond.methodLink (zown 0) 62 MX2_events.1 ∈ z_tbl := (z_in (List.mem_of_getElem? (i := 299) (by decide +kernel)) rfl)
theorem lk_0_65 : Cond.methodLink (zown 0) 65 MX2_personOf.1 ∈ z_tbl := (z_in (List.mem_of_getElem? (i := 303) (by decide +kernel)) rfl)
theorem lk_0_68 : Cond.methodLink (zown 0) 68 MX1_find.1 ∈ z_tbl := (z_in (List.mem_of_getElem? (i := 307) (by decide +kernel)) rfl)
theorem lk_0_74 : Cond.methodLink (zown 0) 74 MX1_removed.1 ∈ z_tbl := (z_in (List.mem_of_getElem? (i := 310) (by decide +kernel)) rfl)
theorem lk_0_78 : Cond.methodLink (zown 0) 78 MX2_kindOf.1 ∈ z_tbl := (z_in (List.mem_of_getElem? (i := 313) (by decide +kernel)) rfl)
theorem lk_0_81 : Cond.methodLink (zown 0) 81 MX1_inserted.1 ∈ z_tbl := (z_in (List.mem_of_getElem? (i := 317) (by decide +kernel)) rfl)
theorem lk_0_85 : Cond.methodLink (zown 0) 85 MX1_length.1 ∈ z_tbl := (z_in (List.mem_of_getElem? (i := 320) (by decide +kernel)) rfl)
theorem lk_0_89 : Cond.methodLink (zown 0) 89 MX2_sortOf.1 ∈ z_tbl := (z_in (List.mem_of_getElem? (i := 331) (by decide +kernel)) rfl)
theorem lk_0_92 : Cond.methodLink (zown 0) 92 MX0_placeToJoin.1 ∈ z_tbl := (z_in (List.mem_of_getElem? (i := 335) (by decide +kernel)) rfl)
theorem lk_0_96 : Cond.methodLink (zown 0) 96 MX1_digit.1 ∈ z_tbl := (z_in (List.mem_of_getElem? (i := 346) (by decide +kernel)) rfl)
theorem lk_0_99 : Cond.methodLink (zown 0) 99 MX1_lowered.1 ∈ z_tbl := (z_in (List.mem_of_getElem? (i := 349) (by decide +kernel)) rfl)
theorem lk_0_102 : Cond.methodLink (zown 0) 102 MX0_queueBehind.1 ∈ z_tbl := (z_in (List.mem_of_getElem? (i := 513) (by decide +kernel)) rfl)
theorem lk_0_106 : Cond.methodLink (zown 0) 106 MX0_leftOf.1 ∈ z_tbl := (z_in (List.mem_of_getElem? (i := 556) (by decide +kernel)) rfl)
theorem lk_0_109 : Cond.methodLink (zown 0) 109 MX0_isServed.1 ∈ z_tbl := (z_in (List.mem_of_getElem? (i := 611) (by decide +kernel)) rfl)
theorem lk_0_113 : Cond.methodLink (zown 0) 113 MX0_servedBits.1 ∈ z_tbl := (z_in (List.mem_of_getElem? (i := 607) (by decide +kernel)) rfl)
theorem lk_0_116 : Cond.methodLink (zown 0) 116 MJ6_bitCount_0f7a4.1 ∈ z_tbl := (z_in (List.mem_of_getElem? (i := 612) (by decide +kernel)) rfl)
theorem lk_0_121 : Cond.methodLink (zown 0) 121 MX0_placeOf.1 ∈ z_tbl := (z_in (List.mem_of_getElem? (i := 561) (by decide +kernel)) rfl)
theorem lk_0_124 : Cond.methodLink (zown 0) 124 MX0_whoAt.1 ∈ z_tbl := (z_in (List.mem_of_getElem? (i := 574) (by decide +kernel)) rfl)
theorem lk_2_40 : Cond.methodLink (zown 2) 40 MX5_whole.1 ∈ z_tbl := (z_in (List.mem_of_getElem? (i := 222) (by decide +kernel)) rfl)
theorem lk_2_46 : Cond.methodLink (zown 2) 46 Lib.Math.min.name ∈ z_tbl := (z_in (List.mem_of_getElem? (i := 248) (by decide +kernel)) rfl)
theorem lk_2_56 : Cond.methodLink (zown 2) 56 MX5_byteAt.1 ∈ z_tbl := (z_in (List.mem_of_getElem? (i := 251) (by decide +kernel)) rfl)
theorem lk_2_60 : Cond.methodLink (zown 2) 60 MX2_setComing.1 ∈ z_tbl := (z_in (List.mem_of_getElem? (i := 252) (by decide +kernel)) rfl)
theorem lk_2_64 : Cond.methodLink (zown 2) 64 MX5_sortBySign.1 ∈ z_tbl := (z_in (List.mem_of_getElem? (i := 256) (by decide +kernel)) rfl)
theorem lk_2_67 : Cond.methodLink (zown 2) 67 MX2_setSort.1 ∈ z_tbl := (z_in (List.mem_of_getElem? (i := 257) (by decide +kernel)) rfl)
theorem lk_2_70 : Cond.methodLink (zown 2) 70 MX2_setParcel.1 ∈ z_tbl := (z_in (List.mem_of_getElem? (i := 261) (by decide +kernel)) rfl)
theorem lk_2_73 : Cond.methodLink (zown 2) 73 MX5_openBySign.1 ∈ z_tbl := (z_in (List.mem_of_getElem? (i := 274) (by decide +kernel)) rfl)
theorem lk_2_79 : Cond.methodLink (zown 2) 79 arraycopyName ∈ z_tbl := (z_in (List.mem_of_getElem? (i := 587) (by decide +kernel)) rfl)
theorem lk_2_85 : Cond.methodLink (zown 2) 85 MX1_digit.1 ∈ z_tbl := (z_in (List.mem_of_getElem? (i := 451) (by decide +kernel)) rfl)
theorem lk_2_91 : Cond.methodLink (zown 2) 91 MX1_replaced.1 ∈ z_tbl := (z_in (List.mem_of_getElem? (i := 265) (by decide +kernel)) rfl)
theorem lk_3_22 : Cond.methodLink (zown 3) 22 Lib.Math.min.name ∈ z_tbl := (z_in (List.mem_of_getElem? (i := 742) (by decide +kernel)) rfl)
theorem lk_3_28 : Cond.methodLink (zown 3) 28 Lib.Math.max.name ∈ z_tbl := (z_in (List.mem_of_getElem? (i := 743) (by decide +kernel)) rfl)
theorem lk_3_31 : Cond.methodLink (zown 3) 31 MX3_isLost.1 ∈ z_tbl := (z_in (List.mem_of_getElem? (i := 760) (by decide +kernel)) rfl)
theorem lk_3_35 : Cond.methodLink (zown 3) 35 MX3_cut.1 ∈ z_tbl := (z_in (List.mem_of_getElem? (i := 765) (by decide +kernel)) rfl)
theorem lk_3_39 : Cond.methodLink (zown 3) 39 MX3_hasItems.1 ∈ z_tbl := (z_in (List.mem_of_getElem? (i := 790) (by decide +kernel)) rfl)
theorem lk_3_43 : Cond.methodLink (zown 3) 43 arraycopyName ∈ z_tbl := (z_in (List.mem_of_getElem? (i := 791) (by decide +kernel)) rfl)
theorem lk_4_25 : Cond.methodLink (zown 4) 25 MX0_whoAt.1 ∈ z_tbl := (z_in (List.mem_of_getElem? (i := 666) (by decide +kernel)) rfl)
theorem lk_5_15 : Cond.methodLink (zown 5) 15 Lib.Math.max.name ∈ z_tbl := (z_in (List.mem_of_getElem? (i := 101) (by decide +kernel)) rfl)
theorem lk_5_29 : Cond.methodLink (zown 5) 29 MX5_fits.1 ∈ z_tbl := (z_in (List.mem_of_getElem? (i := 230) (by decide +kernel)) rfl)
theorem lk_5_33 : Cond.methodLink (zown 5) 33 MX5_isEnded.1 ∈ z_tbl := (z_in (List.mem_of_getElem? (i := 244) (by decide +kernel)) rfl)
theorem lk_5_37 : Cond.methodLink (zown 5) 37 MX5_firstFault.1 ∈ z_tbl := (z_in (List.mem_of_getElem? (i := 226) (by decide +kernel)) rfl)
theorem lk_5_41 : Cond.methodLink (zown 5) 41 MX5_byteAt.1 ∈ z_tbl := (z_in (List.mem_of_getElem? (i := 234) (by decide +kernel)) rfl)
theorem lk_5_45 : Cond.methodLink (zown 5) 45 MX5_openBySign.1 ∈ z_tbl := (z_in (List.mem_of_getElem? (i := 238) (by decide +kernel)) rfl)
theorem lk_5_48 : Cond.methodLink (zown 5) 48 MX5_sortBySign.1 ∈ z_tbl := (z_in (List.mem_of_getElem? (i := 241) (by decide +kernel)) rfl)
theorem lk_6_63 : Cond.methodLink (zown 6) 63 MX6_settle.1 ∈ z_tbl := (z_in (List.mem_of_getElem? (i := 214) (by decide +kernel)) rfl)
theorem lk_6_66 : Cond.methodLink (zown 6) 66 MX6_textOf.1 ∈ z_tbl := (z_in (List.mem_of_getElem? (i := 397) (by decide +kernel)) rfl)
theorem lk_6_70 : Cond.methodLink (zown 6) 70 MX5_append.1 ∈ z_tbl := (z_in (List.mem_of_getElem? (i := 401) (by decide +kernel)) rfl)
theorem lk_6_74 : Cond.methodLink (zown 6) 74 MX5_size.1 ∈ z_tbl := (z_in (List.mem_of_getElem? (i := 405) (by decide +kernel)) rfl)
theorem lk_6_78 : Cond.methodLink (zown 6) 78 MX5_clear.1 ∈ z_tbl := (z_in (List.mem_of_getElem? (i := 413) (by decide +kernel)) rfl)
theorem lk_6_81 : Cond.methodLink (zown 6) 81 MX5_dropLast.1 ∈ z_tbl := (z_in (List.mem_of_getElem? (i := 421) (by decide +kernel)) rfl)
theorem lk_6_85 : Cond.methodLink (zown 6) 85 MX5_firstFault.1 ∈ z_tbl := (z_in (List.mem_of_getElem? (i := 429) (by decide +kernel)) rfl)
theorem lk_6_88 : Cond.methodLink (zown 6) 88 MX6_isPerson.1 ∈ z_tbl := (z_in (List.mem_of_getElem? (i := 434) (by decide +kernel)) rfl)
theorem lk_6_91 : Cond.methodLink (zown 6) 91 MX6_isFrom0To.1 ∈ z_tbl := (z_in (List.mem_of_getElem? (i := 439) (by decide +kernel)) rfl)
theorem lk_6_95 : Cond.methodLink (zown 6) 95 MX2_comingOf.1 ∈ z_tbl := (z_in (List.mem_of_getElem? (i := 442) (by decide +kernel)) rfl)
theorem lk_6_99 : Cond.methodLink (zown 6) 99 MX2_sortOf.1 ∈ z_tbl := (z_in (List.mem_of_getElem? (i := 446) (by decide +kernel)) rfl)
theorem lk_6_102 : Cond.methodLink (zown 6) 102 MX2_parcelOf.1 ∈ z_tbl := (z_in (List.mem_of_getElem? (i := 447) (by decide +kernel)) rfl)
theorem lk_6_105 : Cond.methodLink (zown 6) 105 MX6_isMinute.1 ∈ z_tbl := (z_in (List.mem_of_getElem? (i := 456) (by decide +kernel)) rfl)
theorem lk_6_108 : Cond.methodLink (zown 6) 108 MX2_openIn.1 ∈ z_tbl := (z_in (List.mem_of_getElem? (i := 459) (by decide +kernel)) rfl)
theorem lk_6_111 : Cond.methodLink (zown 6) 111 MX6_takeEvent.1 ∈ z_tbl := (z_in (List.mem_of_getElem? (i := 464) (by decide +kernel)) rfl)
theorem lk_6_115 : Cond.methodLink (zown 6) 115 MX6_happen.1 ∈ z_tbl := (z_in (List.mem_of_getElem? (i := 275) (by decide +kernel)) rfl)
theorem lk_6_118 : Cond.methodLink (zown 6) 118 MX2_dropEvent.1 ∈ z_tbl := (z_in (List.mem_of_getElem? (i := 477) (by decide +kernel)) rfl)
theorem lk_6_121 : Cond.methodLink (zown 6) 121 MX2_events.1 ∈ z_tbl := (z_in (List.mem_of_getElem? (i := 468) (by decide +kernel)) rfl)
theorem lk_6_124 : Cond.methodLink (zown 6) 124 MX6_sheetOf.1 ∈ z_tbl := (z_in (List.mem_of_getElem? (i := 485) (by decide +kernel)) rfl)
theorem lk_6_128 : Cond.methodLink (zown 6) 128 MX3_isLost.1 ∈ z_tbl := (z_in (List.mem_of_getElem? (i := 489) (by decide +kernel)) rfl)
theorem lk_6_131 : Cond.methodLink (zown 6) 131 MX6_found.1 ∈ z_tbl := (z_in (List.mem_of_getElem? (i := 493) (by decide +kernel)) rfl)
theorem lk_6_134 : Cond.methodLink (zown 6) 134 MX3_size.1 ∈ z_tbl := (z_in (List.mem_of_getElem? (i := 497) (by decide +kernel)) rfl)
theorem lk_6_135 : Cond.methodLink (zown 6) 135 MX3_item.1 ∈ z_tbl := (z_in (List.mem_of_getElem? (i := 501) (by decide +kernel)) rfl)
theorem lk_6_138 : Cond.methodLink (zown 6) 138 MX0_whoAt.1 ∈ z_tbl := (z_in (List.mem_of_getElem? (i := 509) (by decide +kernel)) rfl)
theorem lk_6_142 : Cond.methodLink (zown 6) 142 MX0_howMany.1 ∈ z_tbl := (z_in (List.mem_of_getElem? (i := 521) (by decide +kernel)) rfl)
theorem lk_6_145 : Cond.methodLink (zown 6) 145 MX0_placeOf.1 ∈ z_tbl := (z_in (List.mem_of_getElem? (i := 529) (by decide +kernel)) rfl)
theorem lk_6_148 : Cond.methodLink (zown 6) 148 MX0_leftOf.1 ∈ z_tbl := (z_in (List.mem_of_getElem? (i := 533) (by decide +kernel)) rfl)
theorem lk_6_151 : Cond.methodLink (zown 6) 151 MX6_stateOf.1 ∈ z_tbl := (z_in (List.mem_of_getElem? (i := 537) (by decide +kernel)) rfl)
theorem lk_6_154 : Cond.methodLink (zown 6) 154 Lib.Math.abs.name ∈ z_tbl := (z_in (List.mem_of_getElem? (i := 545) (by decide +kernel)) rfl)
theorem lk_6_159 : Cond.methodLink (zown 6) 159 MX0_servedIn.1 ∈ z_tbl := (z_in (List.mem_of_getElem? (i := 552) (by decide +kernel)) rfl)
theorem lk_6_162 : Cond.methodLink (zown 6) 162 MX0_stood.1 ∈ z_tbl := (z_in (List.mem_of_getElem? (i := 557) (by decide +kernel)) rfl)
theorem lk_6_165 : Cond.methodLink (zown 6) 165 MX0_moves.1 ∈ z_tbl := (z_in (List.mem_of_getElem? (i := 562) (by decide +kernel)) rfl)
theorem lk_6_168 : Cond.methodLink (zown 6) 168 MX2_people.1 ∈ z_tbl := (z_in (List.mem_of_getElem? (i := 438) (by decide +kernel)) rfl)
theorem lk_6_171 : Cond.methodLink (zown 6) 171 MX0_minutesFirst.1 ∈ z_tbl := (z_in (List.mem_of_getElem? (i := 570) (by decide +kernel)) rfl)
theorem lk_6_174 : Cond.methodLink (zown 6) 174 MX2_take.1 ∈ z_tbl := (z_in (List.mem_of_getElem? (i := 583) (by decide +kernel)) rfl)
theorem lk_6_178 : Cond.methodLink (zown 6) 178 MX2_setComing.1 ∈ z_tbl := (z_in (List.mem_of_getElem? (i := 590) (by decide +kernel)) rfl)
theorem lk_6_182 : Cond.methodLink (zown 6) 182 MX0_run.1 ∈ z_tbl := (z_in (List.mem_of_getElem? (i := 279) (by decide +kernel)) rfl)
theorem lk_6_186 : Cond.methodLink (zown 6) 186 MX0_isServed.1 ∈ z_tbl := (z_in (List.mem_of_getElem? (i := 591) (by decide +kernel)) rfl)
theorem lk_6_189 : Cond.methodLink (zown 6) 189 MX2_setOpen.1 ∈ z_tbl := (z_in (List.mem_of_getElem? (i := 599) (by decide +kernel)) rfl)
theorem lk_6_192 : Cond.methodLink (zown 6) 192 MX0_howManyServed.1 ∈ z_tbl := (z_in (List.mem_of_getElem? (i := 603) (by decide +kernel)) rfl)
theorem lk_6_195 : Cond.methodLink (zown 6) 195 MX2_addEvent.1 ∈ z_tbl := (z_in (List.mem_of_getElem? (i := 469) (by decide +kernel)) rfl)
theorem lk_6_199 : Cond.methodLink (zown 6) 199 MX6_sparedEvents.1 ∈ z_tbl := (z_in (List.mem_of_getElem? (i := 626) (by decide +kernel)) rfl)
theorem lk_6_202 : Cond.methodLink (zown 6) 202 MJ6_bitCount_0f7a4.1 ∈ z_tbl := (z_in (List.mem_of_getElem? (i := 634) (by decide +kernel)) rfl)
theorem lk_6_207 : Cond.methodLink (zown 6) 207 MX6_nthBit.1 ∈ z_tbl := (z_in (List.mem_of_getElem? (i := 635) (by decide +kernel)) rfl)
theorem lk_6_210 : Cond.methodLink (zown 6) 210 MX4_add.1 ∈ z_tbl := (z_in (List.mem_of_getElem? (i := 642) (by decide +kernel)) rfl)
theorem lk_6_214 : Cond.methodLink (zown 6) 214 MX4_size.1 ∈ z_tbl := (z_in (List.mem_of_getElem? (i := 646) (by decide +kernel)) rfl)
theorem lk_6_215 : Cond.methodLink (zown 6) 215 MX4_clear.1 ∈ z_tbl := (z_in (List.mem_of_getElem? (i := 654) (by decide +kernel)) rfl)
theorem lk_6_216 : Cond.methodLink (zown 6) 216 MX4_fit.1 ∈ z_tbl := (z_in (List.mem_of_getElem? (i := 662) (by decide +kernel)) rfl)
theorem lk_6_220 : Cond.methodLink (zown 6) 220 MX6_fittingSorts.1 ∈ z_tbl := (z_in (List.mem_of_getElem? (i := 671) (by decide +kernel)) rfl)
theorem lk_6_223 : Cond.methodLink (zown 6) 223 MX6_fittingParcels.1 ∈ z_tbl := (z_in (List.mem_of_getElem? (i := 676) (by decide +kernel)) rfl)
theorem lk_6_226 : Cond.methodLink (zown 6) 226 MX6_mostAlike.1 ∈ z_tbl := (z_in (List.mem_of_getElem? (i := 690) (by decide +kernel)) rfl)
theorem lk_6_233 : Cond.methodLink (zown 6) 233 MX6_learnServed.1 ∈ z_tbl := (z_in (List.mem_of_getElem? (i := 704) (by decide +kernel)) rfl)
theorem lk_6_236 : Cond.methodLink (zown 6) 236 MX6_weight.1 ∈ z_tbl := (z_in (List.mem_of_getElem? (i := 709) (by decide +kernel)) rfl)
theorem lk_6_240 : Cond.methodLink (zown 6) 240 MX6_inLowestTerms.1 ∈ z_tbl := (z_in (List.mem_of_getElem? (i := 712) (by decide +kernel)) rfl)
theorem lk_6_244 : Cond.methodLink (zown 6) 244 MX2_dropEvents.1 ∈ z_tbl := (z_in (List.mem_of_getElem? (i := 720) (by decide +kernel)) rfl)
theorem lk_6_247 : Cond.methodLink (zown 6) 247 MX6_nextSeed.1 ∈ z_tbl := (z_in (List.mem_of_getElem? (i := 724) (by decide +kernel)) rfl)
theorem lk_6_250 : Cond.methodLink (zown 6) 250 MX6_lot.1 ∈ z_tbl := (z_in (List.mem_of_getElem? (i := 728) (by decide +kernel)) rfl)
theorem lk_6_253 : Cond.methodLink (zown 6) 253 MX6_isForm.1 ∈ z_tbl := (z_in (List.mem_of_getElem? (i := 735) (by decide +kernel)) rfl)
theorem lk_6_256 : Cond.methodLink (zown 6) 256 MX3_renew.1 ∈ z_tbl := (z_in (List.mem_of_getElem? (i := 738) (by decide +kernel)) rfl)
theorem lk_6_259 : Cond.methodLink (zown 6) 259 MX3_beLost.1 ∈ z_tbl := (z_in (List.mem_of_getElem? (i := 748) (by decide +kernel)) rfl)
theorem lk_6_262 : Cond.methodLink (zown 6) 262 MX3_findingAt.1 ∈ z_tbl := (z_in (List.mem_of_getElem? (i := 756) (by decide +kernel)) rfl)
theorem lk_6_265 : Cond.methodLink (zown 6) 265 MX3_setItem.1 ∈ z_tbl := (z_in (List.mem_of_getElem? (i := 761) (by decide +kernel)) rfl)
theorem lk_6_269 : Cond.methodLink (zown 6) 269 MX3_form.1 ∈ z_tbl := (z_in (List.mem_of_getElem? (i := 778) (by decide +kernel)) rfl)
theorem lk_6_272 : Cond.methodLink (zown 6) 272 MX3_hasItems.1 ∈ z_tbl := (z_in (List.mem_of_getElem? (i := 782) (by decide +kernel)) rfl)
theorem lk_6_275 : Cond.methodLink (zown 6) 275 MX3_takeItems.1 ∈ z_tbl := (z_in (List.mem_of_getElem? (i := 786) (by decide +kernel)) rfl)
theorem lk_6_279 : Cond.methodLink (zown 6) 279 Lib.Math.min.name ∈ z_tbl := (z_in (List.mem_of_getElem? (i := 796) (by decide +kernel)) rfl)
theorem lk_6_282 : Cond.methodLink (zown 6) 282 MX5_whole.1 ∈ z_tbl := (z_in (List.mem_of_getElem? (i := 801) (by decide +kernel)) rfl)
theorem lk_6_291 : Cond.methodLink (zown 6) 291 MX6_count.1 ∈ z_tbl := (z_in (List.mem_of_getElem? (i := 807) (by decide +kernel)) rfl)
theorem lk_6_294 : Cond.methodLink (zown 6) 294 MX6_mixed.1 ∈ z_tbl := (z_in (List.mem_of_getElem? (i := 808) (by decide +kernel)) rfl)
theorem lk_6_298 : Cond.methodLink (zown 6) 298 MX6_fault.1 ∈ z_tbl := (z_in (List.mem_of_getElem? (i := 812) (by decide +kernel)) rfl)
theorem lk_6_301 : Cond.methodLink (zown 6) 301 MX6_window.1 ∈ z_tbl := (z_in (List.mem_of_getElem? (i := 813) (by decide +kernel)) rfl)
theorem lk_6_304 : Cond.methodLink (zown 6) 304 MX6_many.1 ∈ z_tbl := (z_in (List.mem_of_getElem? (i := 814) (by decide +kernel)) rfl)
theorem lk_6_307 : Cond.methodLink (zown 6) 307 MX6_stands.1 ∈ z_tbl := (z_in (List.mem_of_getElem? (i := 815) (by decide +kernel)) rfl)
theorem lk_6_310 : Cond.methodLink (zown 6) 310 MX6_mixedWithDay.1 ∈ z_tbl := (z_in (List.mem_of_getElem? (i := 816) (by decide +kernel)) rfl)
theorem lk_6_314 : Cond.methodLink (zown 6) 314 MX6_mixedWithGuesses.1 ∈ z_tbl := (z_in (List.mem_of_getElem? (i := 827) (by decide +kernel)) rfl)
theorem lk_6_317 : Cond.methodLink (zown 6) 317 MX6_alfred.1 ∈ z_tbl := (z_in (List.mem_of_getElem? (i := 836) (by decide +kernel)) rfl)
theorem lk_6_320 : Cond.methodLink (zown 6) 320 MX6_kettle.1 ∈ z_tbl := (z_in (List.mem_of_getElem? (i := 837) (by decide +kernel)) rfl)
theorem lk_6_323 : Cond.methodLink (zown 6) 323 MX6_open.1 ∈ z_tbl := (z_in (List.mem_of_getElem? (i := 838) (by decide +kernel)) rfl)
theorem lk_6_326 : Cond.methodLink (zown 6) 326 MX6_let.1 ∈ z_tbl := (z_in (List.mem_of_getElem? (i := 839) (by decide +kernel)) rfl)
theorem lk_6_329 : Cond.methodLink (zown 6) 329 MX6_spare.1 ∈ z_tbl := (z_in (List.mem_of_getElem? (i := 840) (by decide +kernel)) rfl)
theorem lk_6_332 : Cond.methodLink (zown 6) 332 MX6_never.1 ∈ z_tbl := (z_in (List.mem_of_getElem? (i := 841) (by decide +kernel)) rfl)
theorem lk_6_335 : Cond.methodLink (zown 6) 335 MX6_decades.1 ∈ z_tbl := (z_in (List.mem_of_getElem? (i := 842) (by decide +kernel)) rfl)
theorem lk_6_338 : Cond.methodLink (zown 6) 338 MX2_readPeople.1 ∈ z_tbl := (z_in (List.mem_of_getElem? (i := 218) (by decide +kernel)) rfl)
theorem lk_6_342 : Cond.methodLink (zown 6) 342 MX2_readWindows.1 ∈ z_tbl := (z_in (List.mem_of_getElem? (i := 270) (by decide +kernel)) rfl)
theorem lk_6_349 : Cond.methodLink (zown 6) 349 MX6_endsEmptyWithout.1 ∈ z_tbl := (z_in (List.mem_of_getElem? (i := 630) (by decide +kernel)) rfl)
theorem lk_6_352 : Cond.methodLink (zown 6) 352 MX2_setSort.1 ∈ z_tbl := (z_in (List.mem_of_getElem? (i := 675) (by decide +kernel)) rfl)
theorem lk_6_355 : Cond.methodLink (zown 6) 355 MX2_setParcel.1 ∈ z_tbl := (z_in (List.mem_of_getElem? (i := 680) (by decide +kernel)) rfl)
theorem lk_6_358 : Cond.methodLink (zown 6) 358 MX6_keepStanding.1 ∈ z_tbl := (z_in (List.mem_of_getElem? (i := 681) (by decide +kernel)) rfl)
theorem lk_6_362 : Cond.methodLink (zown 6) 362 MX0_queueBehind.1 ∈ z_tbl := (z_in (List.mem_of_getElem? (i := 685) (by decide +kernel)) rfl)
theorem lk_6_366 : Cond.methodLink (zown 6) 366 MX6_standing.1 ∈ z_tbl := (z_in (List.mem_of_getElem? (i := 694) (by decide +kernel)) rfl)
theorem lk_6_370 : Cond.methodLink (zown 6) 370 Lib.Math.max.name ∈ z_tbl := (z_in (List.mem_of_getElem? (i := 698) (by decide +kernel)) rfl)
theorem lk_6_373 : Cond.methodLink (zown 6) 373 MX0_servedBits.1 ∈ z_tbl := (z_in (List.mem_of_getElem? (i := 708) (by decide +kernel)) rfl)
theorem lk_6_381 : Cond.methodLink (zown 6) 381 MX6_person.1 ∈ z_tbl := (z_in (List.mem_of_getElem? (i := 820) (by decide +kernel)) rfl)
theorem lk_6_384 : Cond.methodLink (zown 6) 384 MX6_mixedWithMinute.1 ∈ z_tbl := (z_in (List.mem_of_getElem? (i := 821) (by decide +kernel)) rfl)
theorem lk_6_387 : Cond.methodLink (zown 6) 387 MX6_done.1 ∈ z_tbl := (z_in (List.mem_of_getElem? (i := 826) (by decide +kernel)) rfl)
theorem lk_6_390 : Cond.methodLink (zown 6) 390 MX6_at.1 ∈ z_tbl := (z_in (List.mem_of_getElem? (i := 825) (by decide +kernel)) rfl)
theorem lk_6_393 : Cond.methodLink (zown 6) 393 MX6_come.1 ∈ z_tbl := (z_in (List.mem_of_getElem? (i := 831) (by decide +kernel)) rfl)
theorem lk_6_396 : Cond.methodLink (zown 6) 396 MX6_was.1 ∈ z_tbl := (z_in (List.mem_of_getElem? (i := 832) (by decide +kernel)) rfl)
theorem lk_6_399 : Cond.methodLink (zown 6) 399 MX6_ask.1 ∈ z_tbl := (z_in (List.mem_of_getElem? (i := 833) (by decide +kernel)) rfl)
theorem lk_6_402 : Cond.methodLink (zown 6) 402 MX6_chance.1 ∈ z_tbl := (z_in (List.mem_of_getElem? (i := 834) (by decide +kernel)) rfl)
theorem lk_6_405 : Cond.methodLink (zown 6) 405 MX6_apart.1 ∈ z_tbl := (z_in (List.mem_of_getElem? (i := 835) (by decide +kernel)) rfl)
theorem lk_7_104 : Cond.methodLink (zown 7) 104 MX7_in.1 ∈ z_tbl := (z_in (List.mem_of_getElem? (i := 978) (by decide +kernel)) rfl)
theorem lk_7_108 : Cond.methodLink (zown 7) 108 MX7_isText.1 ∈ z_tbl := (z_in (List.mem_of_getElem? (i := 975) (by decide +kernel)) rfl)
theorem lk_7_112 : Cond.methodLink (zown 7) 112 MX7_byteAt.1 ∈ z_tbl := (z_in (List.mem_of_getElem? (i := 1005) (by decide +kernel)) rfl)
theorem lk_7_116 : Cond.methodLink (zown 7) 116 MX7_isMinute.1 ∈ z_tbl := (z_in (List.mem_of_getElem? (i := 1009) (by decide +kernel)) rfl)
theorem lk_7_123 : Cond.methodLink (zown 7) 123 MX7_readsPerson.1 ∈ z_tbl := (z_in (List.mem_of_getElem? (i := 1001) (by decide +kernel)) rfl)
theorem lk_7_130 : Cond.methodLink (zown 7) 130 MX7_openBy.1 ∈ z_tbl := (z_in (List.mem_of_getElem? (i := 1016) (by decide +kernel)) rfl)
theorem lk_7_133 : Cond.methodLink (zown 7) 133 MX7_readsPeople.1 ∈ z_tbl := (z_in (List.mem_of_getElem? (i := 997) (by decide +kernel)) rfl)
theorem lk_7_137 : Cond.methodLink (zown 7) 137 MX7_readsWindows.1 ∈ z_tbl := (z_in (List.mem_of_getElem? (i := 1012) (by decide +kernel)) rfl)
theorem lk_7_140 : Cond.methodLink (zown 7) 140 MX7_faultOf.1 ∈ z_tbl := (z_in (List.mem_of_getElem? (i := 993) (by decide +kernel)) rfl)
theorem lk_7_143 : Cond.methodLink (zown 7) 143 MX7_reads.1 ∈ z_tbl := (z_in (List.mem_of_getElem? (i := 1027) (by decide +kernel)) rfl)
theorem lk_7_146 : Cond.methodLink (zown 7) 146 MX7_isPerson.1 ∈ z_tbl := (z_in (List.mem_of_getElem? (i := 1023) (by decide +kernel)) rfl)
theorem lk_7_149 : Cond.methodLink (zown 7) 149 MX7_isThree.1 ∈ z_tbl := (z_in (List.mem_of_getElem? (i := 1031) (by decide +kernel)) rfl)
theorem lk_7_152 : Cond.methodLink (zown 7) 152 MX7_personOf.1 ∈ z_tbl := (z_in (List.mem_of_getElem? (i := 1034) (by decide +kernel)) rfl)
theorem lk_7_155 : Cond.methodLink (zown 7) 155 MX7_windowOf.1 ∈ z_tbl := (z_in (List.mem_of_getElem? (i := 1042) (by decide +kernel)) rfl)
theorem lk_7_158 : Cond.methodLink (zown 7) 158 MX7_isTwelve.1 ∈ z_tbl := (z_in (List.mem_of_getElem? (i := 1050) (by decide +kernel)) rfl)
theorem lk_7_164 : Cond.methodLink (zown 7) 164 MX7_isSheet.1 ∈ z_tbl := (z_in (List.mem_of_getElem? (i := 1061) (by decide +kernel)) rfl)
theorem lk_7_167 : Cond.methodLink (zown 7) 167 MX7_meets.1 ∈ z_tbl := (z_in (List.mem_of_getElem? (i := 1064) (by decide +kernel)) rfl)
theorem lk_7_170 : Cond.methodLink (zown 7) 170 MX7_event.1 ∈ z_tbl := (z_in (List.mem_of_getElem? (i := 1068) (by decide +kernel)) rfl)
theorem lk_7_189 : Cond.methodLink (zown 7) 189 MX7_leaves.1 ∈ z_tbl := (z_in (List.mem_of_getElem? (i := 1100) (by decide +kernel)) rfl)
theorem lk_7_193 : Cond.methodLink (zown 7) 193 MX7_enters.1 ∈ z_tbl := (z_in (List.mem_of_getElem? (i := 1104) (by decide +kernel)) rfl)
theorem lk_7_197 : Cond.methodLink (zown 7) 197 MX7_isIn.1 ∈ z_tbl := (z_in (List.mem_of_getElem? (i := 1093) (by decide +kernel)) rfl)
theorem lk_7_201 : Cond.methodLink (zown 7) 201 MX7_befalls.1 ∈ z_tbl := (z_in (List.mem_of_getElem? (i := 1096) (by decide +kernel)) rfl)
theorem lk_7_204 : Cond.methodLink (zown 7) 204 MX7_comesIn.1 ∈ z_tbl := (z_in (List.mem_of_getElem? (i := 1108) (by decide +kernel)) rfl)
theorem lk_7_207 : Cond.methodLink (zown 7) 207 MX7_serves.1 ∈ z_tbl := (z_in (List.mem_of_getElem? (i := 1112) (by decide +kernel)) rfl)
theorem lk_7_210 : Cond.methodLink (zown 7) 210 MX7_goesBy.1 ∈ z_tbl := (z_in (List.mem_of_getElem? (i := 1089) (by decide +kernel)) rfl)
theorem lk_7_213 : Cond.methodLink (zown 7) 213 MX7_asTold.1 ∈ z_tbl := (z_in (List.mem_of_getElem? (i := 1081) (by decide +kernel)) rfl)
theorem lk_7_216 : Cond.methodLink (zown 7) 216 MX7_runs.1 ∈ z_tbl := (z_in (List.mem_of_getElem? (i := 1085) (by decide +kernel)) rfl)
theorem lk_7_219 : Cond.methodLink (zown 7) 219 MX7_runsTold.1 ∈ z_tbl := (z_in (List.mem_of_getElem? (i := 1077) (by decide +kernel)) rfl)
theorem lk_7_222 : Cond.methodLink (zown 7) 222 MX7_standsOf.1 ∈ z_tbl := (z_in (List.mem_of_getElem? (i := 1073) (by decide +kernel)) rfl)
theorem lk_7_225 : Cond.methodLink (zown 7) 225 MX7_manyOf.1 ∈ z_tbl := (z_in (List.mem_of_getElem? (i := 1120) (by decide +kernel)) rfl)
theorem lk_7_228 : Cond.methodLink (zown 7) 228 MX7_placeAt.1 ∈ z_tbl := (z_in (List.mem_of_getElem? (i := 1132) (by decide +kernel)) rfl)
theorem lk_7_231 : Cond.methodLink (zown 7) 231 MX7_atOf.1 ∈ z_tbl := (z_in (List.mem_of_getElem? (i := 1128) (by decide +kernel)) rfl)
theorem lk_7_234 : Cond.methodLink (zown 7) 234 MX7_apartOf.1 ∈ z_tbl := (z_in (List.mem_of_getElem? (i := 1140) (by decide +kernel)) rfl)
theorem lk_7_237 : Cond.methodLink (zown 7) 237 MX7_stoodNow.1 ∈ z_tbl := (z_in (List.mem_of_getElem? (i := 1152) (by decide +kernel)) rfl)
theorem lk_7_240 : Cond.methodLink (zown 7) 240 MX7_movesNow.1 ∈ z_tbl := (z_in (List.mem_of_getElem? (i := 1156) (by decide +kernel)) rfl)
theorem lk_7_243 : Cond.methodLink (zown 7) 243 MX7_doneOf.1 ∈ z_tbl := (z_in (List.mem_of_getElem? (i := 1148) (by decide +kernel)) rfl)
theorem lk_7_246 : Cond.methodLink (zown 7) 246 MX7_isTwo.1 ∈ z_tbl := (z_in (List.mem_of_getElem? (i := 1164) (by decide +kernel)) rfl)
theorem lk_7_249 : Cond.methodLink (zown 7) 249 MX7_alfredOf.1 ∈ z_tbl := (z_in (List.mem_of_getElem? (i := 1167) (by decide +kernel)) rfl)
theorem lk_7_252 : Cond.methodLink (zown 7) 252 MX7_kettleOf.1 ∈ z_tbl := (z_in (List.mem_of_getElem? (i := 1175) (by decide +kernel)) rfl)
theorem lk_7_255 : Cond.methodLink (zown 7) 255 MX7_comeOf.1 ∈ z_tbl := (z_in (List.mem_of_getElem? (i := 1183) (by decide +kernel)) rfl)
theorem lk_7_258 : Cond.methodLink (zown 7) 258 MX7_servedNow.1 ∈ z_tbl := (z_in (List.mem_of_getElem? (i := 1195) (by decide +kernel)) rfl)
theorem lk_7_261 : Cond.methodLink (zown 7) 261 MX7_openOf.1 ∈ z_tbl := (z_in (List.mem_of_getElem? (i := 1191) (by decide +kernel)) rfl)
theorem lk_7_264 : Cond.methodLink (zown 7) 264 MX7_letOf.1 ∈ z_tbl := (z_in (List.mem_of_getElem? (i := 1203) (by decide +kernel)) rfl)
theorem lk_7_267 : Cond.methodLink (zown 7) 267 MX7_isSpared.1 ∈ z_tbl := (z_in (List.mem_of_getElem? (i := 1215) (by decide +kernel)) rfl)
theorem lk_7_270 : Cond.methodLink (zown 7) 270 MX7_spareBy.1 ∈ z_tbl := (z_in (List.mem_of_getElem? (i := 1211) (by decide +kernel)) rfl)
theorem lk_7_273 : Cond.methodLink (zown 7) 273 MX7_ofRow.1 ∈ z_tbl := (z_in (List.mem_of_getElem? (i := 1219) (by decide +kernel)) rfl)
theorem lk_7_279 : Cond.methodLink (zown 7) 279 MX7_isSeen.1 ∈ z_tbl := (z_in (List.mem_of_getElem? (i := 1239) (by decide +kernel)) rfl)
theorem lk_7_283 : Cond.methodLink (zown 7) 283 MX7_neverNow.1 ∈ z_tbl := (z_in (List.mem_of_getElem? (i := 1235) (by decide +kernel)) rfl)
theorem lk_7_288 : Cond.methodLink (zown 7) 288 MX7_rowAt.1 ∈ z_tbl := (z_in (List.mem_of_getElem? (i := 1255) (by decide +kernel)) rfl)
theorem lk_7_292 : Cond.methodLink (zown 7) 292 MX7_sortsBy.1 ∈ z_tbl := (z_in (List.mem_of_getElem? (i := 1247) (by decide +kernel)) rfl)
theorem lk_7_295 : Cond.methodLink (zown 7) 295 MX7_parcelsBy.1 ∈ z_tbl := (z_in (List.mem_of_getElem? (i := 1251) (by decide +kernel)) rfl)
theorem lk_7_298 : Cond.methodLink (zown 7) 298 MX7_askOf.1 ∈ z_tbl := (z_in (List.mem_of_getElem? (i := 1264) (by decide +kernel)) rfl)
theorem lk_7_301 : Cond.methodLink (zown 7) 301 MX7_lowest.1 ∈ z_tbl := (z_in (List.mem_of_getElem? (i := 1276) (by decide +kernel)) rfl)
theorem lk_7_305 : Cond.methodLink (zown 7) 305 MX7_chanceOf.1 ∈ z_tbl := (z_in (List.mem_of_getElem? (i := 1272) (by decide +kernel)) rfl)
theorem lk_7_309 : Cond.methodLink (zown 7) 309 MX7_no.1 ∈ z_tbl := (z_in (List.mem_of_getElem? (i := 1279) (by decide +kernel)) rfl)
theorem lk_7_313 : Cond.methodLink (zown 7) 313 MX7_decadesOf.1 ∈ z_tbl := (z_in (List.mem_of_getElem? (i := 1287) (by decide +kernel)) rfl)
theorem lk_7_319 : Cond.methodLink (zown 7) 319 MX7_lacks.1 ∈ z_tbl := (z_in (List.mem_of_getElem? (i := 1304) (by decide +kernel)) rfl)
theorem lk_7_322 : Cond.methodLink (zown 7) 322 MX7_keep.1 ∈ z_tbl := (z_in (List.mem_of_getElem? (i := 1308) (by decide +kernel)) rfl)
theorem lk_7_327 : Cond.methodLink (zown 7) 327 MX7_sumOf.1 ∈ z_tbl := (z_in (List.mem_of_getElem? (i := 1329) (by decide +kernel)) rfl)
theorem lk_7_332 : Cond.methodLink (zown 7) 332 MX7_minuteDigest.1 ∈ z_tbl := (z_in (List.mem_of_getElem? (i := 1344) (by decide +kernel)) rfl)
theorem lk_7_338 : Cond.methodLink (zown 7) 338 MX7_count.1 ∈ z_tbl := (z_in (List.mem_of_getElem? (i := 1339) (by decide +kernel)) rfl)
theorem lk_7_341 : Cond.methodLink (zown 7) 341 MX7_personDigest.1 ∈ z_tbl := (z_in (List.mem_of_getElem? (i := 1340) (by decide +kernel)) rfl)
end
section
/-! pasted: laws/BITS (lN under shifts, and, or) -/
theorem wb_tb (n : Nat) : (lN n).toBitVec = BitVec.ofNat 64 n := rfl
theorem wb_inj {a b : Int64} (h : a.toBitVec = b.toBitVec) : a = b := Int64.toBitVec_inj.mp h
theorem wb_tn {n : Nat} (h : n < 2 ^ 64) : (lN n).toBitVec.toNat = n := by rw [wb_tb, BitVec.toNat_ofNat, Nat.mod_eq_of_lt h]
theorem wb_of (x : Int64) : ∃ n, n < 2 ^ 64 ∧ x = lN n := ⟨x.toBitVec.toNat, x.toBitVec.isLt, wb_inj (by rw [wb_tb]; simp)⟩
theorem wb_of32 (x : Int32) : ∃ n, n < 2 ^ 32 ∧ x = nI n := ⟨x.toBitVec.toNat, x.toBitVec.isLt, Int32.toBitVec_inj.mp (by show _ = BitVec.ofNat 32 _; simp)⟩
theorem wb_c : ∀ k, k < 64 → ((nI k).toInt64 &&& 63) = lN k := by decide +kernel
theorem wb_cu : ∀ k, k < 64 → ((nI k).toInt64.toUInt64 &&& Int64.toUInt64 63) = UInt64.ofNat k := by decide +kernel
theorem wb_sm : ∀ k, k < 64 → (BitVec.ofNat 64 k).smod 64 = BitVec.ofNat 64 k := by decide +kernel
theorem wb_pw {a b : Nat} (h : a ≤ b) : 2 ^ b = 2 ^ a * 2 ^ (b - a) := by rw [← Nat.pow_add]; congr 1; omega
theorem wb_lt2 {a b : Nat} (h : a < b) : 2 ^ a < 2 ^ b := Nat.pow_lt_pow_right (by decide) h
theorem wb_mod (n : Nat) : lN n = lN (n % 2 ^ 64) := wb_inj (by rw [wb_tb, wb_tb]; apply BitVec.eq_of_toNat_eq; rw [BitVec.toNat_ofNat, BitVec.toNat_ofNat, Nat.mod_mod])
theorem wb_shr {n k : Nat} (hn : n < 2 ^ 64) (hk : k < 64) : ((lN n).toUInt64 >>> ((nI k).toInt64.toUInt64 &&& Int64.toUInt64 63)).toInt64 = lN (n / 2 ^ k) := by
  rw [wb_cu k hk]
  apply wb_inj
  apply BitVec.eq_of_toNat_eq
  show ((lN n).toUInt64 >>> UInt64.ofNat k).toNat = (BitVec.ofNat 64 _).toNat
  have h1 : (UInt64.ofNat k).toNat = k := by
    show (BitVec.ofNat 64 k).toNat = k
    rw [BitVec.toNat_ofNat, Nat.mod_eq_of_lt (by omega)]
  have h2 : (lN n).toUInt64.toNat = n := wb_tn hn
  rw [UInt64.toNat_shiftRight, h1, h2, Nat.mod_eq_of_lt hk, Nat.shiftRight_eq_div_pow, BitVec.toNat_ofNat, Nat.mod_eq_of_lt (Nat.lt_of_le_of_lt (Nat.div_le_self _ _) hn)]
theorem wb_shl (n : Nat) {k : Nat} (hk : k < 64) : lN n <<< ((nI k).toInt64 &&& 63) = lN (n * 2 ^ k) := by
  rw [wb_c k hk]
  apply wb_inj
  rw [Int64.toBitVec_shiftLeft, wb_tb, wb_tb, wb_tb, wb_sm k hk]
  apply BitVec.eq_of_toNat_eq
  rw [BitVec.shiftLeft_eq', BitVec.toNat_shiftLeft, BitVec.toNat_ofNat, BitVec.toNat_ofNat, BitVec.toNat_ofNat, Nat.mod_eq_of_lt (show k < 2 ^ 64 by omega), Nat.shiftLeft_eq, Nat.mul_mod, Nat.mod_mod, ← Nat.mul_mod]
theorem wb_and {a b : Nat} (ha : a < 2 ^ 64) (hb : b < 2 ^ 64) : lN a &&& lN b = lN (a &&& b) := by
  apply wb_inj
  rw [Int64.toBitVec_and, wb_tb, wb_tb, wb_tb]
  apply BitVec.eq_of_toNat_eq
  rw [BitVec.toNat_and, BitVec.toNat_ofNat, BitVec.toNat_ofNat, BitVec.toNat_ofNat, Nat.mod_eq_of_lt ha, Nat.mod_eq_of_lt hb, Nat.mod_eq_of_lt (Nat.and_lt_two_pow _ hb)]
theorem wb_or {a b : Nat} (ha : a < 2 ^ 64) (hb : b < 2 ^ 64) : lN a ||| lN b = lN (a ||| b) := by
  apply wb_inj
  rw [Int64.toBitVec_or, wb_tb, wb_tb, wb_tb]
  apply BitVec.eq_of_toNat_eq
  rw [BitVec.toNat_or, BitVec.toNat_ofNat, BitVec.toNat_ofNat, BitVec.toNat_ofNat, Nat.mod_eq_of_lt ha, Nat.mod_eq_of_lt hb, Nat.mod_eq_of_lt (Nat.or_lt_two_pow ha hb)]
theorem wb_mask {n k : Nat} (hn : n < 2 ^ 64) (hk : k < 64) : lN n &&& lN (2 ^ k - 1) = lN (n % 2 ^ k) := by
  rw [wb_and hn (by have := wb_lt2 hk; omega), Nat.and_two_pow_sub_one_eq_mod]
theorem wb_a1 {n : Nat} (hn : n < 2 ^ 64) : lN n &&& 1 = lN (n % 2) := wb_mask (k := 1) hn (by decide)
theorem wb_bit {n k : Nat} (hn : n < 2 ^ 64) (hk : k < 64) : ((lN n).toUInt64 >>> ((nI k).toInt64.toUInt64 &&& Int64.toUInt64 63)).toInt64 &&& 1 = lN (n / 2 ^ k % 2) := by
  rw [wb_shr hn hk, wb_a1 (Nat.lt_of_le_of_lt (Nat.div_le_self _ _) hn)]
theorem u_tn {n : Nat} (h : n < 2 ^ 64) : (UInt64.ofNat n).toNat = n := Nat.mod_eq_of_lt h
theorem g_and {a b c : Nat} (ha : a < 2 ^ 64) (hb : b < 2 ^ 64) (hc : a &&& b = c) : lN a &&& lN b = lN c := by
  subst hc
  have h : UInt64.ofNat a &&& UInt64.ofNat b = UInt64.ofNat (a &&& b) := UInt64.toNat_inj.mp (by rw [UInt64.toNat_and, u_tn ha, u_tn hb, u_tn (Nat.and_lt_two_pow a hb)])
  have h2 := congrArg UInt64.toInt64 h
  exact h2
theorem g_and1 {a : Nat} (ha : a < 2 ^ 64) : lN a &&& 1 = lN (a % 2) := g_and (b := 1) ha (by decide) (Nat.and_two_pow_sub_one_eq_mod a 1)
theorem g_mask {a s p : Nat} (hp : 2 ^ s = p) (hs : s < 64) (ha : a < 2 ^ 64) : lN a &&& lN (p - 1) = lN (a % p) := by
  subst hp
  have := Nat.pow_lt_pow_right (show 1 < 2 by decide) hs
  exact g_and ha (by omega) (Nat.and_two_pow_sub_one_eq_mod a s)
theorem g_or {k p a b : Nat} (hp : 2 ^ k = p) (ha : a < p) (h : b * p + a < 2 ^ 64) : lN (b * p) ||| lN a = lN (b * p + a) := by
  subst hp
  have h1 : b * 2 ^ k ||| a = b * 2 ^ k + a := by rw [← Nat.shiftLeft_eq, Nat.shiftLeft_add_eq_or_of_lt ha]
  have h3 : UInt64.ofNat (b * 2 ^ k) ||| UInt64.ofNat a = UInt64.ofNat (b * 2 ^ k + a) := UInt64.toNat_inj.mp (by rw [UInt64.toNat_or, u_tn (by omega), u_tn (by omega), u_tn h, h1])
  have h2 := congrArg UInt64.toInt64 h3
  exact h2
theorem g_or' {k p a b : Nat} (hp : 2 ^ k = p) (ha : a < p) (h : a + b * p < 2 ^ 64) : lN a ||| lN (b * p) = lN (a + b * p) := by
  rw [Int64.or_comm, g_or hp ha (by omega), Nat.add_comm]
/-! rows of twelve digits of four bits -/
def dgt (r : Nat) (i : Int) : Int := ((r / 16 ^ i.toNat % 16 : Nat) : Int)
theorem dgt_rng (r : Nat) (i : Int) : 0 ≤ dgt r i ∧ dgt r i < 16 := by
  unfold dgt
  have := Nat.mod_lt (r / 16 ^ i.toNat) (show 0 < 16 by decide)
  omega
theorem p16 (k : Nat) : (16 : Nat) ^ k = 2 ^ (4 * k) := by rw [Nat.pow_mul]
theorem zi2l_N {z : Int} (h : zr z) (h0 : 0 ≤ z) : zi2l z = lN z.toNat := by
  obtain ⟨n, rfl⟩ := zi_of h0
  unfold zi2l
  rw [zi_nI, nI_l (by have := h.2; omega)]
  rfl
theorem z_sh {a : Int} (h0 : 0 ≤ a) (h : a < 64) : (Int32.ofInt a).toInt64 = (nI a.toNat).toInt64 := by
  obtain ⟨n, rfl⟩ := zi_of h0
  rw [zi_nI]; rfl
theorem zlushr_N {n : Nat} {a : Int} (hn : n < 2 ^ 64) (h0 : 0 ≤ a) (h : a < 64) : zlushr (lN n) a = lN (n / 2 ^ a.toNat) := by
  unfold zlushr
  rw [z_sh h0 h, wb_shr hn (by omega)]
theorem zlshl_N (n : Nat) {a : Int} (h0 : 0 ≤ a) (h : a < 64) : zlshl (lN n) a = lN (n * 2 ^ a.toNat) := by
  unfold zlshl
  rw [z_sh h0 h, wb_shl n (by omega)]
theorem zand15 (n : Nat) : zand (zl2i (lN n)) 15 = ((n % 16 : Nat) : Int) := by
  unfold zand zl2i
  rw [lN_i, Int32.ofInt_toInt, show Int32.ofInt 15 = (15 : Int32) from rfl, pk_and (nI n) (m := 15) 4 (by decide)]
  have e : (nI n).toBitVec.toNat = n % 2 ^ 32 := by
    show (BitVec.ofNat 32 n).toNat = _
    rw [BitVec.toNat_ofNat]
  rw [e, nI_toInt (by omega), Nat.mod_mod_of_dvd _ (by decide)]
theorem z4 {i : Int} (h0 : 0 ≤ i) : (4 * i).toNat = 4 * i.toNat := by omega
theorem row_digit {r : Nat} {i : Int} (hr : r < 2 ^ 64) (h0 : 0 ≤ i) (h : i < 12) : zand (zl2i (zlushr (lN r) (4 * i))) 15 = dgt r i := by
  rw [zlushr_N hr (by omega) (by omega), zand15, z4 h0, ← p16]
  rfl
/-- the digits of a low and a high part -/
theorem dgt_lo {a b k j : Nat} (h : j < k) : (a + b * 16 ^ k) / 16 ^ j % 16 = a / 16 ^ j % 16 := by
  obtain ⟨d, rfl⟩ : ∃ d, k = j + (d + 1) := ⟨k - j - 1, by omega⟩
  have e : a + b * 16 ^ (j + (d + 1)) = a + 16 ^ j * (16 * (b * 16 ^ d)) := by
    rw [Nat.pow_add, Nat.pow_succ]
    congr 1
    rw [Nat.mul_comm b, Nat.mul_assoc, Nat.mul_comm (16 ^ d) 16, Nat.mul_assoc, Nat.mul_comm (16 ^ d) b]
  rw [e, Nat.add_mul_div_left _ _ (Nat.pow_pos (by decide)), Nat.add_mul_mod_self_left]
theorem dgt_hi {a b k j : Nat} (ha : a < 16 ^ k) (h : k ≤ j) : (a + b * 16 ^ k) / 16 ^ j % 16 = b / 16 ^ (j - k) % 16 := by
  obtain ⟨d, rfl⟩ : ∃ d, j = k + d := ⟨j - k, by omega⟩
  rw [Nat.pow_add, ← Nat.div_div_eq_div_mul, Nat.add_mul_div_right _ _ (Nat.pow_pos (by decide)), Nat.div_eq_of_lt ha, Nat.zero_add, Nat.add_sub_cancel_left]
theorem dgt_mod {r k j : Nat} (h : j < k) : r % 16 ^ k / 16 ^ j % 16 = r / 16 ^ j % 16 := by
  have e : r = r % 16 ^ k + r / 16 ^ k * 16 ^ k := by rw [Nat.mul_comm]; exact (Nat.mod_add_div _ _).symm
  have h2 := dgt_lo (a := r % 16 ^ k) (b := r / 16 ^ k) h
  rw [← e] at h2
  exact h2.symm
def rIns (r : Nat) (i v : Int) : Nat := r % 16 ^ i.toNat + (r / 16 ^ i.toNat * 16 + v.toNat) * 16 ^ i.toNat
def rRem (r : Nat) (i : Int) : Nat := r % 16 ^ i.toNat + r / 16 ^ (i.toNat + 1) * 16 ^ i.toNat
def rRep (r : Nat) (i v : Int) : Nat := r % 16 ^ i.toNat + (r / 16 ^ (i.toNat + 1) * 16 + v.toNat) * 16 ^ i.toNat
theorem p16pos (k : Nat) : 0 < (16 : Nat) ^ k := Nat.pow_pos (by decide)
theorem dgt_rIns {r : Nat} {i v j : Int} (h0 : 0 ≤ i) (hv0 : 0 ≤ v) (hv : v < 16) (hj : 0 ≤ j) : dgt (rIns r i v) j = if j < i then dgt r j else if j = i then v else dgt r (j - 1) := by
  obtain ⟨k, rfl⟩ := zi_of h0
  obtain ⟨w, rfl⟩ := zi_of hv0
  obtain ⟨l, rfl⟩ := zi_of hj
  unfold dgt rIns
  simp only [Int.toNat_natCast]
  have ha : r % 16 ^ k < 16 ^ k := Nat.mod_lt _ (p16pos k)
  by_cases h1 : l < k
  · rw [if_pos (by omega), dgt_lo h1, dgt_mod h1]
  · rw [if_neg (by omega), dgt_hi ha (by omega)]
    by_cases h2 : l = k
    · subst h2
      rw [if_pos rfl, Nat.sub_self, Nat.pow_zero, Nat.div_one]
      have : (r / 16 ^ l * 16 + w) % 16 = w := by omega
      omega
    · rw [if_neg (by omega)]
      have e : ((l : Int) - 1).toNat = l - 1 := by omega
      rw [e]
      obtain ⟨d, rfl⟩ : ∃ d, l = k + (d + 1) := ⟨l - k - 1, by omega⟩
      rw [Nat.add_sub_cancel_left, Nat.pow_succ, Nat.mul_comm (16 ^ d) 16, ← Nat.div_div_eq_div_mul]
      have e2 : (r / 16 ^ k * 16 + w) / 16 = r / 16 ^ k := by omega
      rw [e2, Nat.div_div_eq_div_mul, ← Nat.pow_add, show k + (d + 1) - 1 = k + d by omega]
theorem dgt_rRem {r : Nat} {i j : Int} (h0 : 0 ≤ i) (hj : 0 ≤ j) : dgt (rRem r i) j = if j < i then dgt r j else dgt r (j + 1) := by
  obtain ⟨k, rfl⟩ := zi_of h0
  obtain ⟨l, rfl⟩ := zi_of hj
  unfold dgt rRem
  simp only [Int.toNat_natCast]
  have ha : r % 16 ^ k < 16 ^ k := Nat.mod_lt _ (p16pos k)
  by_cases h1 : l < k
  · rw [if_pos (by omega), dgt_lo h1, dgt_mod h1]
  · rw [if_neg (by omega), dgt_hi ha (by omega)]
    have e : ((l : Int) + 1).toNat = l + 1 := by omega
    rw [e, Nat.div_div_eq_div_mul, ← Nat.pow_add, show k + 1 + (l - k) = l + 1 by omega]
theorem dgt_rRep {r : Nat} {i v j : Int} (h0 : 0 ≤ i) (hv0 : 0 ≤ v) (hv : v < 16) (hj : 0 ≤ j) : dgt (rRep r i v) j = if j = i then v else dgt r j := by
  obtain ⟨k, rfl⟩ := zi_of h0
  obtain ⟨w, rfl⟩ := zi_of hv0
  obtain ⟨l, rfl⟩ := zi_of hj
  unfold dgt rRep
  simp only [Int.toNat_natCast]
  have ha : r % 16 ^ k < 16 ^ k := Nat.mod_lt _ (p16pos k)
  by_cases h1 : l < k
  · rw [if_neg (by omega), dgt_lo h1, dgt_mod h1]
  · rw [dgt_hi ha (by omega)]
    by_cases h2 : l = k
    · subst h2
      rw [if_pos rfl, Nat.sub_self, Nat.pow_zero, Nat.div_one]
      have : (r / 16 ^ (l + 1) * 16 + w) % 16 = w := by omega
      omega
    · rw [if_neg (by omega)]
      obtain ⟨d, rfl⟩ : ∃ d, l = k + (d + 1) := ⟨l - k - 1, by omega⟩
      rw [Nat.add_sub_cancel_left, show (16 : Nat) ^ (d + 1) = 16 * 16 ^ d by rw [Nat.pow_succ, Nat.mul_comm], ← Nat.div_div_eq_div_mul]
      have e2 : (r / 16 ^ (k + 1) * 16 + w) / 16 = r / 16 ^ (k + 1) := by omega
      rw [e2, Nat.div_div_eq_div_mul, ← Nat.pow_add, show k + 1 + d = k + (d + 1) by omega]
theorem row_ext : ∀ (n : Nat) {r t : Nat}, r < 16 ^ n → t < 16 ^ n → (∀ j : Nat, j < n → r / 16 ^ j % 16 = t / 16 ^ j % 16) → r = t
  | 0, r, t, hr, ht, _ => by rw [Nat.pow_zero] at hr ht; omega
  | n + 1, r, t, hr, ht, h => by
    have h0 := h 0 (by omega)
    rw [Nat.pow_zero, Nat.div_one, Nat.div_one] at h0
    rw [Nat.pow_succ] at hr ht
    have h1 := row_ext n (r := r / 16) (t := t / 16) (by omega) (by omega) (fun j hj => by
      have h2 := h (j + 1) (by omega)
      rw [Nat.pow_succ, Nat.mul_comm, ← Nat.div_div_eq_div_mul, ← Nat.div_div_eq_div_mul] at h2
      exact h2)
    omega
theorem row_ext12 {r t : Nat} (hr : r < 16 ^ 12) (ht : t < 16 ^ 12) (h : ∀ j : Int, 0 ≤ j → j < 12 → dgt r j = dgt t j) : r = t := by
  refine row_ext 12 hr ht (fun j hj => ?_)
  have h1 := h j (by omega) (by omega)
  unfold dgt at h1
  rw [Int.toNat_natCast] at h1
  omega
theorem zcmp0 {x y : Int64} : zlcmp x y = 0 ↔ x = y := by
  unfold zlcmp lg_cmp
  by_cases h1 : x > y
  · rw [if_pos h1]
    constructor
    · intro h; exact absurd h (by decide)
    · intro h; subst h; exact absurd h1 (Int64.lt_irrefl)
  · rw [if_neg h1]
    by_cases h2 : x = y
    · rw [if_pos h2]; exact ⟨fun _ => h2, fun _ => by decide⟩
    · rw [if_neg h2]
      exact ⟨fun h => absurd h (by decide), fun h => absurd h h2⟩
theorem zcmp_rng (x y : Int64) : -1 ≤ zlcmp x y ∧ zlcmp x y ≤ 1 := by
  unfold zlcmp lg_cmp
  split
  · decide
  · split <;> decide
theorem lN_inj {a b : Nat} (ha : a < 2 ^ 64) (hb : b < 2 ^ 64) : lN a = lN b ↔ a = b := by
  constructor
  · intro h
    have h1 := congrArg (fun x : Int64 => x.toBitVec.toNat) h
    have h2 : (lN a).toBitVec.toNat = (lN b).toBitVec.toNat := h1
    rwa [wb_tn ha, wb_tn hb] at h2
  · rintro rfl; rfl
theorem land15 {n : Nat} (hn : n < 2 ^ 64) : lN n &&& 15 = lN (n % 16) := wb_mask (k := 4) hn (by decide)
theorem zlcmp_ne {x y : Int64} (h : x ≠ y) : zr (zlcmp x y) ∧ ¬ zlcmp x y = 0 := by
  have := zcmp_rng x y
  exact ⟨⟨by omega, by omega⟩, fun q => h (zcmp0.mp q)⟩
theorem zlcmp_eq {x y : Int64} (h : x = y) : zr (zlcmp x y) ∧ zlcmp x y = 0 := by
  have := zcmp_rng x y
  exact ⟨⟨by omega, by omega⟩, zcmp0.mpr h⟩
theorem r12 {r : Nat} (h : r < 16 ^ 12) : r < 2 ^ 64 := Nat.lt_trans h (by decide)
theorem dgt_low {r : Nat} {i : Int} (hr : r < 16 ^ 12) (h0 : 0 ≤ i) : lN (r / 16 ^ i.toNat) &&& 15 = lN (dgt r i).toNat := by
  rw [land15 (Nat.lt_of_le_of_lt (Nat.div_le_self _ _) (r12 hr))]
  unfold dgt
  rw [Int.toNat_natCast]
theorem dgt_lowne {r : Nat} {i : Int} {v : Int} (hr : r < 16 ^ 12) (h0 : 0 ≤ i) (hv : 0 ≤ v) (hv2 : v < 2147483648) (h : dgt r i ≠ v) : lN (r / 16 ^ i.toNat) &&& 15 ≠ lN v.toNat := by
  have hd := dgt_rng r i
  rw [dgt_low hr h0]
  intro q
  have := (lN_inj (by omega) (by omega)).mp q
  omega
theorem row_next {r : Nat} {i : Int} (hr : r < 16 ^ 12) (h0 : 0 ≤ i) : zlushr (lN (r / 16 ^ i.toNat)) 4 = lN (r / 16 ^ (i + 1).toNat) := by
  rw [zlushr_N (Nat.lt_of_le_of_lt (Nat.div_le_self _ _) (r12 hr)) (by omega) (by omega), Nat.div_div_eq_div_mul, show (i + 1).toNat = i.toNat + 1 by omega, Nat.pow_succ]
  rfl
theorem row_ahead {r : Nat} {i : Int} (hr : r < 16 ^ 12) (h0 : 0 ≤ i) (h : i < 12) : lN r &&& (zlshl (1 : Int64) (4 * i) - 1) = lN (r % 16 ^ i.toNat) := by
  have e1 : zlshl (1 : Int64) (4 * i) = lN (1 * 2 ^ (4 * i).toNat) := zlshl_N 1 (by omega) (by omega)
  have e2 : (1 : Int64) = lN 1 := rfl
  rw [e1, e2, lN_sub (by rw [Nat.one_mul]; exact Nat.pow_pos (by decide)), Nat.one_mul, wb_mask (r12 hr) (by omega), z4 h0, ← p16]
theorem rIns_lt {r : Nat} {i v : Int} (hr : r < 16 ^ 11) (h0 : 0 ≤ i) (h : i < 12) (hv0 : 0 ≤ v) (hv : v < 16) : rIns r i v < 16 ^ 12 := by
  obtain ⟨k, rfl⟩ := zi_of h0
  obtain ⟨w, rfl⟩ := zi_of hv0
  unfold rIns
  simp only [Int.toNat_natCast]
  have ha : r % 16 ^ k < 16 ^ k := Nat.mod_lt _ (p16pos k)
  have e : (16 : Nat) ^ 12 = 16 ^ (12 - k) * 16 ^ k := by rw [← Nat.pow_add]; congr 1; omega
  have e3 : (16 : Nat) ^ 11 = 16 ^ (11 - k) * 16 ^ k := by rw [← Nat.pow_add]; congr 1; omega
  have e2 : r / 16 ^ k < 16 ^ (11 - k) := by
    rw [Nat.div_lt_iff_lt_mul (p16pos k), ← e3]; exact hr
  have e4 : (16 : Nat) ^ (12 - k) = 16 ^ (11 - k) * 16 := by rw [← Nat.pow_succ]; congr 1; omega
  have h5 : r / 16 ^ k * 16 + w + 1 ≤ 16 ^ (12 - k) := by rw [e4]; omega
  have h6 : (r / 16 ^ k * 16 + w + 1) * 16 ^ k ≤ 16 ^ (12 - k) * 16 ^ k := Nat.mul_le_mul_right _ h5
  rw [Nat.add_mul _ 1, Nat.one_mul] at h6
  rw [e]; omega
theorem rRem_le (r : Nat) (i : Int) : rRem r i ≤ r := by
  unfold rRem
  have h1 : r / 16 ^ (i.toNat + 1) * 16 ^ i.toNat ≤ r / 16 ^ i.toNat * 16 ^ i.toNat := by
    apply Nat.mul_le_mul_right
    rw [Nat.pow_succ, ← Nat.div_div_eq_div_mul]
    exact Nat.div_le_self _ _
  have h2 := Nat.mod_add_div r (16 ^ i.toNat)
  rw [Nat.mul_comm] at h2
  omega
theorem rRep_lt {r : Nat} {i v : Int} (hr : r < 16 ^ 12) (h0 : 0 ≤ i) (h : i < 12) (hv0 : 0 ≤ v) (hv : v < 16) : rRep r i v < 16 ^ 12 := by
  obtain ⟨k, rfl⟩ := zi_of h0
  obtain ⟨w, rfl⟩ := zi_of hv0
  unfold rRep
  simp only [Int.toNat_natCast]
  have ha : r % 16 ^ k < 16 ^ k := Nat.mod_lt _ (p16pos k)
  have e : (16 : Nat) ^ 12 = 16 ^ (11 - k) * 16 * 16 ^ k := by rw [Nat.mul_assoc, Nat.mul_comm 16, ← Nat.pow_succ, ← Nat.pow_add]; congr 1; omega
  have e2 : r / 16 ^ (k + 1) < 16 ^ (11 - k) := by
    rw [Nat.div_lt_iff_lt_mul (p16pos _), ← Nat.pow_add, show 11 - k + (k + 1) = 12 by omega]; exact hr
  have h5 : r / 16 ^ (k + 1) * 16 + w + 1 ≤ 16 ^ (11 - k) * 16 := by omega
  have h6 : (r / 16 ^ (k + 1) * 16 + w + 1) * 16 ^ k ≤ 16 ^ (11 - k) * 16 * 16 ^ k := Nat.mul_le_mul_right _ h5
  rw [Nat.add_mul _ 1, Nat.one_mul] at h6
  rw [e]; omega
theorem zand15v {v : Int} (h0 : 0 ≤ v) (h : v < 16) : zand v 15 = v := by
  obtain ⟨n, rfl⟩ := zi_of h0
  unfold zand
  rw [zi_nI, show Int32.ofInt 15 = (15 : Int32) from rfl, pk_andN (by omega) (m := 15) 4 (by decide), nI_toInt (by omega)]
  omega
theorem row_ins {r : Nat} {i v : Int} (hr : r < 16 ^ 11) (h0 : 0 ≤ i) (h : i < 12) (hv0 : 0 ≤ v) (hv : v < 16) :
    (lN r &&& (zlshl (1 : Int64) (4 * i) - 1)) ||| zlshl (zlshl (zlushr (lN r) (4 * i)) 4 ||| zi2l (zand v 15)) (4 * i) = lN (rIns r i v) := by
  have hr12 : r < 16 ^ 12 := Nat.lt_trans hr (by decide)
  have hlt := rIns_lt hr h0 h hv0 hv
  rw [row_ahead hr12 h0 h, zlushr_N (r12 hr12) (by omega) (by omega), zlshl_N _ (by omega) (by omega), zand15v hv0 hv, zi2l_N ⟨by omega, by omega⟩ hv0, z4 h0, ← p16]
  have hd : r / 16 ^ i.toNat < 16 ^ 12 := Nat.lt_of_le_of_lt (Nat.div_le_self _ _) hr12
  have e4 : (2 : Nat) ^ (4 : Int).toNat = 16 := by decide
  have hsm : r / 16 ^ i.toNat * 16 + v.toNat < 2 ^ 64 := by
    have h9 : (16 : Nat) ^ 12 * 16 + 16 < 2 ^ 64 := by decide
    omega
  rw [e4, g_or (k := 4) (p := 16) (by decide) (by omega) hsm, zlshl_N _ (by omega) (by omega), z4 h0, ← p16]
  unfold rIns at hlt ⊢
  exact g_or' (k := 4 * i.toNat) (p16 i.toNat).symm (Nat.mod_lt _ (p16pos _)) (Nat.lt_trans hlt (by decide))
theorem row_rem {r : Nat} {i : Int} (hr : r < 16 ^ 12) (h0 : 0 ≤ i) (h : i < 12) :
    (lN r &&& (zlshl (1 : Int64) (4 * i) - 1)) ||| zlshl (zlushr (lN r) (4 * i + 4)) (4 * i) = lN (rRem r i) := by
  have hlt : rRem r i < 16 ^ 12 := Nat.lt_of_le_of_lt (rRem_le r i) hr
  rw [row_ahead hr h0 h, zlushr_N (r12 hr) (by omega) (by omega), zlshl_N _ (by omega) (by omega), z4 h0, show (4 * i + 4).toNat = 4 * (i.toNat + 1) by omega, ← p16, ← p16]
  unfold rRem at hlt ⊢
  exact g_or' (k := 4 * i.toNat) (p16 i.toNat).symm (Nat.mod_lt _ (p16pos _)) (Nat.lt_trans hlt (by decide))
theorem row_low {r : Nat} {i : Int} (hr : r < 16 ^ 12) (h0 : 0 ≤ i) (h : i < 12) (hd : 0 < dgt r i) : lN r - zlshl (1 : Int64) (4 * i) = lN (rRep r i (dgt r i - 1)) := by
  have e1 : zlshl (1 : Int64) (4 * i) = lN (1 * 2 ^ (4 * i).toNat) := zlshl_N 1 (by omega) (by omega)
  rw [e1, Nat.one_mul, z4 h0, ← p16]
  obtain ⟨k, rfl⟩ := zi_of h0
  unfold rRep
  have ed : dgt r k = ((r / 16 ^ k % 16 : Nat) : Int) := rfl
  simp only [Int.toNat_natCast]
  have e2 := Nat.mod_add_div r (16 ^ k)
  have e3 : r / 16 ^ k = r / 16 ^ (k + 1) * 16 + r / 16 ^ k % 16 := by
    rw [Nat.pow_succ, ← Nat.div_div_eq_div_mul]; omega
  have e5 : (dgt r k - 1).toNat + 1 = r / 16 ^ k % 16 := by rw [ed] at hd ⊢; omega
  have e6 : r = r % 16 ^ k + (r / 16 ^ (k + 1) * 16 + (dgt r k - 1).toNat) * 16 ^ k + 16 ^ k := by
    have e7 : r / 16 ^ k = r / 16 ^ (k + 1) * 16 + (dgt r k - 1).toNat + 1 := by omega
    rw [e7, Nat.mul_comm, Nat.add_mul, Nat.one_mul] at e2
    omega
  have e8 : 16 ^ k ≤ r := by omega
  rw [lN_sub e8]
  congr 1
  omega
theorem row_keep {r : Nat} {i : Int} (hr : r < 16 ^ 12) (h0 : 0 ≤ i) (h : i < 12) : lN r &&& (zlshl (15 : Int64) (4 * i) ^^^ (-1)) = lN (r % 16 ^ i.toNat + r / 16 ^ (i.toNat + 1) * 16 ^ (i.toNat + 1)) := by
  have e1 : zlshl (15 : Int64) (4 * i) = lN (15 * 2 ^ (4 * i).toNat) := zlshl_N 15 (by omega) (by omega)
  rw [e1, z4 h0]
  obtain ⟨k, rfl⟩ := zi_of h0
  simp only [Int.toNat_natCast]
  have hk : k < 12 := by omega
  apply wb_inj
  rw [Int64.toBitVec_and, Int64.toBitVec_xor, wb_tb, wb_tb, wb_tb]
  apply BitVec.eq_of_getLsbD_eq
  intro j hj
  have em1 : (-1 : Int64).toBitVec = BitVec.allOnes 64 := by decide
  rw [em1, BitVec.getLsbD_and, BitVec.getLsbD_xor, BitVec.getLsbD_allOnes, BitVec.getLsbD_ofNat, BitVec.getLsbD_ofNat, BitVec.getLsbD_ofNat]
  simp only [hj, decide_true, Bool.true_and, Bool.xor_true]
  have e15 : (15 * 2 ^ (4 * k)).testBit j = (decide (4 * k ≤ j) && (15 : Nat).testBit (j - 4 * k)) := by
    rw [Nat.mul_comm, Nat.testBit_two_pow_mul]
  have e16 : (15 : Nat).testBit (j - 4 * k) = decide (j - 4 * k < 4) := by
    rw [show 15 = 2 ^ 4 - 1 by decide, Nat.testBit_two_pow_sub_one]
  rw [e15, e16]
  have hlo : r % 16 ^ k < 2 ^ (4 * k + 4) := by
    have := Nat.mod_lt r (p16pos k)
    rw [p16] at this ⊢
    have h2 : (2 : Nat) ^ (4 * k) ≤ 2 ^ (4 * k + 4) := Nat.pow_le_pow_right (by decide) (by omega)
    omega
  have er : r % 16 ^ k + r / 16 ^ (k + 1) * 16 ^ (k + 1) = 2 ^ (4 * k + 4) * (r / 2 ^ (4 * k + 4)) + r % 16 ^ k := by
    rw [p16 (k + 1), show 4 * (k + 1) = 4 * k + 4 by omega, Nat.mul_comm, Nat.add_comm]
  rw [er, Nat.testBit_two_pow_mul_add _ hlo]
  by_cases h1 : j < 4 * k
  · rw [if_pos (by omega), p16, Nat.testBit_mod_two_pow]
    simp [h1, Nat.not_le.mpr h1]
  · by_cases h2 : j < 4 * k + 4
    · rw [if_pos h2, p16, Nat.testBit_mod_two_pow]
      have h3 : j - 4 * k < 4 := by omega
      simp [h1, h3, Nat.not_lt.mp h1]
    · rw [if_neg h2, Nat.testBit_div_two_pow]
      have h3 : ¬ j - 4 * k < 4 := by omega
      simp [h3]
      rw [show j - (4 * k + 4) + (4 * k + 4) = j by omega]
theorem row_rep {r : Nat} {i v : Int} (hr : r < 16 ^ 12) (h0 : 0 ≤ i) (h : i < 12) (hv0 : 0 ≤ v) (hv : v < 16) :
    (lN r &&& (zlshl (15 : Int64) (4 * i) ^^^ (-1))) ||| zlshl (zi2l (zand v 15)) (4 * i) = lN (rRep r i v) := by
  have hlt := rRep_lt hr h0 h hv0 hv
  rw [row_keep hr h0 h, zand15v hv0 hv, zi2l_N ⟨by omega, by omega⟩ hv0, zlshl_N _ (by omega) (by omega), z4 h0, ← p16]
  obtain ⟨k, rfl⟩ := zi_of h0
  obtain ⟨w, rfl⟩ := zi_of hv0
  unfold rRep at hlt ⊢
  simp only [Int.toNat_natCast] at hlt ⊢
  have hw : w < 16 := by omega
  have ha : r % 16 ^ k < 16 ^ k := Nat.mod_lt _ (p16pos k)
  have e1 : (16 : Nat) ^ (k + 1) = 16 ^ k * 16 := Nat.pow_succ ..
  have hb : r % 16 ^ k + w * 16 ^ k < 16 ^ (k + 1) := by
    have : (w + 1) * 16 ^ k ≤ 16 * 16 ^ k := Nat.mul_le_mul_right _ (by omega)
    rw [Nat.add_mul, Nat.one_mul] at this
    rw [e1, Nat.mul_comm (16 ^ k) 16]; omega
  have hsum : r % 16 ^ k + (r / 16 ^ (k + 1) * 16 + w) * 16 ^ k = (r % 16 ^ k + w * 16 ^ k) + r / 16 ^ (k + 1) * 16 ^ (k + 1) := by
    rw [e1, Nat.add_mul, Nat.mul_assoc _ 16, Nat.mul_comm 16 (16 ^ k)]; omega
  rw [hsum] at hlt ⊢
  have h2 : (16 : Nat) ^ 12 ≤ 2 ^ 64 := by decide
  rw [← g_or' (k := 4 * (k + 1)) (p16 (k + 1)).symm hb (by omega), ← g_or' (k := 4 * k) (p16 k).symm ha (by omega), ← g_or' (k := 4 * (k + 1)) (p16 (k + 1)).symm (Nat.lt_trans ha (by rw [e1]; have := p16pos k; omega)) (by omega), Int64.or_assoc, Int64.or_assoc, Int64.or_comm (lN (r / 16 ^ (k + 1) * 16 ^ (k + 1)))]
end
section
theorem V_topL {d pc : Nat} {Y : MI} {L : List (Option VV)} {rest : List VV} {σ : zSt} {post : Option VV → zSt → Prop} {x y : Int64} (h : x = y) (kk : V d Y pc L (vL y :: rest) σ post) : V d Y pc L (vL x :: rest) σ post := h ▸ kk
/-- a digit -/
theorem c_digit {r : Nat} {i : Int} {σ : zSt} {post : Option VV → zSt → Prop} (hr : r < 16 ^ 12) (h0 : 0 ≤ i) (h : i < 12) (hp : post (some (vZ (dgt r i))) σ) : Mc 0 MX1_digit [vL (lN r), vZ i] σ post := by
  show V 0 MX1_digit 0 [some (vL (lN r)), none, some (vZ i)] [] σ post
  refine V_run kX1_digit 14 [0, 0] (show (zr i ∧ 0 ≤ i) ∧ (zr i ∧ zr 12 ∧ i < 12) ∧ V 0 MX1_digit 23 [some (vL (lN r)), none, some (vZ i)] [vZ (zand (zl2i (zlushr (lN r) (4 * i))) 15)] σ post from ⟨(by omega), (by omega), ?_⟩)
  refine V_top (row_digit (r12 hr) h0 h) ?_
  exact V_iret kX1_digit rfl rfl (hp)
/-- a digit in place of another -/
theorem c_replaced {r : Nat} {i v : Int} {σ : zSt} {post : Option VV → zSt → Prop} (hr : r < 16 ^ 12) (h0 : 0 ≤ i) (h : i < 12) (hv0 : 0 ≤ v) (hv : v < 16) (hp : post (some (vL (lN (rRep r i v)))) σ) : Mc 0 MX1_replaced [vL (lN r), vZ i, vZ v] σ post := by
  show V 0 MX1_replaced 0 [some (vL (lN r)), none, some (vZ i), some (vZ v)] [] σ post
  refine V_run kX1_replaced 23 [0, 1] (show (zr i ∧ 0 ≤ i) ∧ (zr i ∧ zr 12 ∧ i < 12) ∧ V 0 MX1_replaced 35 [some (vL (lN r)), none, some (vZ i), some (vZ v)] [vL (((lN r) &&& ((zlshl (15 : Int64) (4 * i)) ^^^ (-1 : Int64))) ||| (zlshl (zi2l (zand v 15)) (4 * i)))] σ post from ⟨(by omega), (by omega), ?_⟩)
  refine V_topL (row_rep hr h0 h hv0 hv) ?_
  exact V_lret kX1_replaced rfl rfl (hp)
/-- a digit less by one -/
theorem c_lowered {r : Nat} {i : Int} {σ : zSt} {post : Option VV → zSt → Prop} (hr : r < 16 ^ 12) (h0 : 0 ≤ i) (h : i < 12) (hd : 0 < dgt r i) (hp : post (some (vL (lN (rRep r i (dgt r i - 1))))) σ) : Mc 0 MX1_lowered [vL (lN r), vZ i] σ post := by
  show V 0 MX1_lowered 0 [some (vL (lN r)), none, some (vZ i)] [] σ post
  have hne : zlushr (lN r) (4 * i) &&& (15 : Int64) ≠ (0 : Int64) := by
    rw [zlushr_N (r12 hr) (by omega) (by omega), z4 h0, ← p16]
    exact dgt_lowne (v := 0) hr h0 (by omega) (by omega) (by omega)
  refine V_run kX1_lowered 22 [0, 0, 1] (show (zr i ∧ 0 ≤ i) ∧ (zr i ∧ zr 12 ∧ i < 12) ∧ (zr (zlcmp ((zlushr (lN r) (4 * i)) &&& (15 : Int64)) (0 : Int64)) ∧ ¬ (zlcmp ((zlushr (lN r) (4 * i)) &&& (15 : Int64)) (0 : Int64)) = 0) ∧ V 0 MX1_lowered 33 [some (vL (lN r)), none, some (vZ i)] [vL ((lN r) - (zlshl (1 : Int64) (4 * i)))] σ post from ⟨(by omega), (by omega), (zlcmp_ne hne), ?_⟩)
  refine V_topL (row_low hr h0 h hd) ?_
  exact V_lret kX1_lowered rfl rfl (hp)
/-- a digit put in -/
theorem c_inserted {r : Nat} {i v : Int} {σ : zSt} {post : Option VV → zSt → Prop} (hr : r < 16 ^ 11) (h0 : 0 ≤ i) (h : i < 12) (hv0 : 0 ≤ v) (hv : v < 16) (hp : post (some (vL (lN (rIns r i v)))) σ) : Mc 0 MX1_inserted [vL (lN r), vZ i, vZ v] σ post := by
  show V 0 MX1_inserted 0 [some (vL (lN r)), none, some (vZ i), some (vZ v), none, none, none, none] [] σ post
  refine V_run kX1_inserted 35 [0, 1] (show (zr i ∧ 0 ≤ i) ∧ (zr i ∧ zr 12 ∧ i < 12) ∧ V 0 MX1_inserted 47 [some (vL (lN r)), none, some (vZ i), some (vZ v), some (vL ((lN r) &&& ((zlshl (1 : Int64) (4 * i)) - (1 : Int64)))), none, some (vL (zlushr (lN r) (4 * i))), none] [vL (((lN r) &&& ((zlshl (1 : Int64) (4 * i)) - (1 : Int64))) ||| (zlshl ((zlshl (zlushr (lN r) (4 * i)) 4) ||| (zi2l (zand v 15))) (4 * i)))] σ post from ⟨(by omega), (by omega), ?_⟩)
  refine V_topL (row_ins hr h0 h hv0 hv) ?_
  exact V_lret kX1_inserted rfl rfl (hp)
/-- a digit taken out -/
theorem c_removed {r : Nat} {i : Int} {σ : zSt} {post : Option VV → zSt → Prop} (hr : r < 16 ^ 12) (h0 : 0 ≤ i) (h : i < 12) (hp : post (some (vL (lN (rRem r i)))) σ) : Mc 0 MX1_removed [vL (lN r), vZ i] σ post := by
  show V 0 MX1_removed 0 [some (vL (lN r)), none, some (vZ i), none, none, none, none] [] σ post
  refine V_run kX1_removed 30 [0, 1] (show (zr i ∧ 0 ≤ i) ∧ (zr i ∧ zr 12 ∧ i < 12) ∧ V 0 MX1_removed 39 [some (vL (lN r)), none, some (vZ i), some (vL ((lN r) &&& ((zlshl (1 : Int64) (4 * i)) - (1 : Int64)))), none, some (vL (zlushr (lN r) ((4 * i) + 4))), none] [vL (((lN r) &&& ((zlshl (1 : Int64) (4 * i)) - (1 : Int64))) ||| (zlshl (zlushr (lN r) ((4 * i) + 4)) (4 * i)))] σ post from ⟨(by omega), (by omega), ?_⟩)
  refine V_topL (row_rem hr h0 h) ?_
  exact V_lret kX1_removed rfl rfl (hp)
/-- how many digits ahead of the first 0 -/
theorem c_length {r : Nat} {n : Int} {σ : zSt} {post : Option VV → zSt → Prop} (hr : r < 16 ^ 12) (hn0 : 0 ≤ n) (hn : n ≤ 12) (hn1 : ∀ j : Int, 0 ≤ j → j < n → dgt r j ≠ 0) (hn2 : n < 12 → dgt r n = 0) (hp : post (some (vZ n)) σ) : Mc 0 MX1_length [vL (lN r)] σ post := by
  show V 0 MX1_length 0 [some (vL (lN r)), none, none, none, none] [] σ post
  refine V_run kX1_length 4 [] (show V 0 MX1_length 5 [some (vL (lN r)), none, some (vL (lN r)), none, some (vZ 0)] [] σ post from ?_)
  have loop : ∀ (m : Nat) (i : Int), 0 ≤ i → i + m = n → V 0 MX1_length 5 [some (vL (lN r)), none, some (vL (lN (r / 16 ^ i.toNat))), none, some (vZ i)] [] σ post := by
    intro m
    induction m with
    | zero =>
      intro i hi0 hi
      have hin : i = n := by omega
      subst hin
      rcases Int.lt_or_le i 12 with h | h
      · have hz := hn2 h
        have he : lN (r / 16 ^ i.toNat) &&& (15 : Int64) = (0 : Int64) := by rw [dgt_low hr hi0, hz]; rfl
        refine V_run kX1_length 10 [0, 0] (show (zr i ∧ zr 12 ∧ i < 12) ∧ (zr (zlcmp ((lN (r / 16 ^ i.toNat)) &&& (15 : Int64)) (0 : Int64)) ∧ (zlcmp ((lN (r / 16 ^ i.toNat)) &&& (15 : Int64)) (0 : Int64)) = 0) ∧ V 0 MX1_length 24 [some (vL (lN r)), none, some (vL (lN (r / 16 ^ i.toNat))), none, some (vZ i)] [vZ i] σ post from ⟨(by omega), (zlcmp_eq he), ?_⟩)
        exact V_iret kX1_length rfl rfl (hp)
      · have h12 : i = 12 := by omega
        refine V_run kX1_length 4 [1] (show (zr i ∧ zr 12 ∧ 12 ≤ i) ∧ V 0 MX1_length 37 [some (vL (lN r)), none, some (vL (lN (r / 16 ^ i.toNat))), none, some (vZ i)] [vZ 12] σ post from ⟨(by omega), ?_⟩)
        exact V_iret kX1_length rfl rfl (h12 ▸ hp)
    | succ m ih =>
      intro i hi0 hi
      have hne := dgt_lowne (v := 0) hr hi0 (by omega) (by omega) (hn1 i hi0 (by omega))
      refine V_run kX1_length 15 [0, 1] (show (zr i ∧ zr 12 ∧ i < 12) ∧ (zr (zlcmp ((lN (r / 16 ^ i.toNat)) &&& (15 : Int64)) (0 : Int64)) ∧ ¬ (zlcmp ((lN (r / 16 ^ i.toNat)) &&& (15 : Int64)) (0 : Int64)) = 0) ∧ V 0 MX1_length 5 [some (vL (lN r)), none, some (vL (zlushr (lN (r / 16 ^ i.toNat)) 4)), none, some (vZ (i + 1))] [] σ post from ⟨(by omega), (zlcmp_ne hne), ?_⟩)
      rw [row_next hr hi0]
      exact ih (i + 1) (by omega) (by omega)
  have e0 : r = r / 16 ^ (0 : Int).toNat := by rw [show (0 : Int).toNat = 0 from rfl, Nat.pow_zero, Nat.div_one]
  have h1 := loop n.toNat 0 (by omega) (by omega)
  rw [← e0] at h1
  exact h1
/-- where a digit stands first -/
theorem c_find {r : Nat} {v f : Int} {σ : zSt} {post : Option VV → zSt → Prop} (hr : r < 16 ^ 12) (hv0 : 0 < v) (hv : v < 16) (hf : (f = -1 ∧ ∀ j : Int, 0 ≤ j → j < 12 → dgt r j ≠ v) ∨ (0 ≤ f ∧ f < 12 ∧ dgt r f = v ∧ ∀ j : Int, 0 ≤ j → j < f → dgt r j ≠ v)) (hp : post (some (vZ f)) σ) : Mc 0 MX1_find [vL (lN r), vZ v] σ post := by
  show V 0 MX1_find 0 [some (vL (lN r)), none, some (vZ v), none, none, none] [] σ post
  refine V_run kX1_find 4 [] (show V 0 MX1_find 5 [some (vL (lN r)), none, some (vZ v), some (vL (lN r)), none, some (vZ 0)] [] σ post from ?_)
  have hiv : zi2l v = lN v.toNat := zi2l_N ⟨by omega, by omega⟩ (by omega)
  have loop : ∀ (m : Nat) (i : Int), 0 ≤ i → i + m = 12 → (∀ j : Int, 0 ≤ j → j < i → dgt r j ≠ v) → V 0 MX1_find 5 [some (vL (lN r)), none, some (vZ v), some (vL (lN (r / 16 ^ i.toNat))), none, some (vZ i)] [] σ post := by
    intro m
    induction m with
    | zero =>
      intro i hi0 hi hne
      have h12 : i = 12 := by omega
      have hf1 : f = -1 := by
        rcases hf with h | h
        · exact h.1
        · exact absurd h.2.2.1 (hne f h.1 (by omega))
      subst hf1
      refine V_run kX1_find 4 [1] (show (zr i ∧ zr 12 ∧ 12 ≤ i) ∧ V 0 MX1_find 43 [some (vL (lN r)), none, some (vZ v), some (vL (lN (r / 16 ^ i.toNat))), none, some (vZ i)] [vZ (-1)] σ post from ⟨(by omega), ?_⟩)
      exact V_iret kX1_find rfl rfl (hp)
    | succ m ih =>
      intro i hi0 hi hne
      by_cases hz : r / 16 ^ i.toNat = 0
      · have hd0 : ∀ j : Int, i ≤ j → dgt r j = 0 := by
          intro j hj
          unfold dgt
          have e1 : j.toNat = i.toNat + (j.toNat - i.toNat) := by omega
          rw [e1, Nat.pow_add, ← Nat.div_div_eq_div_mul, hz, Nat.zero_div]
          rfl
        have hf1 : f = -1 := by
          rcases hf with h | h
          · exact h.1
          · rcases Int.lt_or_le f i with h2 | h2
            · exact absurd h.2.2.1 (hne f h.1 h2)
            · have := hd0 f h2
              omega
        subst hf1
        have he : lN (r / 16 ^ i.toNat) = (0 : Int64) := by rw [hz]; rfl
        refine V_run kX1_find 8 [0, 1] (show (zr i ∧ zr 12 ∧ i < 12) ∧ (zr (zlcmp (lN (r / 16 ^ i.toNat)) (0 : Int64)) ∧ (zlcmp (lN (r / 16 ^ i.toNat)) (0 : Int64)) = 0) ∧ V 0 MX1_find 43 [some (vL (lN r)), none, some (vZ v), some (vL (lN (r / 16 ^ i.toNat))), none, some (vZ i)] [vZ (-1)] σ post from ⟨(by omega), (zlcmp_eq he), ?_⟩)
        exact V_iret kX1_find rfl rfl (hp)
      · have hnz : lN (r / 16 ^ i.toNat) ≠ (0 : Int64) := fun q => hz ((lN_inj (Nat.lt_of_le_of_lt (Nat.div_le_self _ _) (r12 hr)) (by decide)).mp q)
        by_cases hv2 : dgt r i = v
        · have hf1 : f = i := by
            rcases hf with h | h
            · exact absurd hv2 (h.2 i hi0 (by omega))
            · rcases Int.lt_trichotomy f i with h2 | h2 | h2
              · exact absurd h.2.2.1 (hne f h.1 h2)
              · exact h2
              · exact absurd hv2 (h.2.2.2 i hi0 h2)
          subst hf1
          have he : lN (r / 16 ^ f.toNat) &&& (15 : Int64) = zi2l v := by rw [dgt_low hr hi0, hiv, hv2]
          refine V_run kX1_find 15 [0, 0, 0] (show (zr f ∧ zr 12 ∧ f < 12) ∧ (zr (zlcmp (lN (r / 16 ^ f.toNat)) (0 : Int64)) ∧ ¬ (zlcmp (lN (r / 16 ^ f.toNat)) (0 : Int64)) = 0) ∧ (zr (zlcmp ((lN (r / 16 ^ f.toNat)) &&& (15 : Int64)) (zi2l v)) ∧ (zlcmp ((lN (r / 16 ^ f.toNat)) &&& (15 : Int64)) (zi2l v)) = 0) ∧ V 0 MX1_find 31 [some (vL (lN r)), none, some (vZ v), some (vL (lN (r / 16 ^ f.toNat))), none, some (vZ f)] [vZ f] σ post from ⟨(by omega), (zlcmp_ne hnz), (zlcmp_eq he), ?_⟩)
          exact V_iret kX1_find rfl rfl (hp)
        · have he : lN (r / 16 ^ i.toNat) &&& (15 : Int64) ≠ zi2l v := by rw [hiv]; exact dgt_lowne hr hi0 (by omega) (by omega) hv2
          refine V_run kX1_find 20 [0, 0, 1] (show (zr i ∧ zr 12 ∧ i < 12) ∧ (zr (zlcmp (lN (r / 16 ^ i.toNat)) (0 : Int64)) ∧ ¬ (zlcmp (lN (r / 16 ^ i.toNat)) (0 : Int64)) = 0) ∧ (zr (zlcmp ((lN (r / 16 ^ i.toNat)) &&& (15 : Int64)) (zi2l v)) ∧ ¬ (zlcmp ((lN (r / 16 ^ i.toNat)) &&& (15 : Int64)) (zi2l v)) = 0) ∧ V 0 MX1_find 5 [some (vL (lN r)), none, some (vZ v), some (vL (zlushr (lN (r / 16 ^ i.toNat)) 4)), none, some (vZ (i + 1))] [] σ post from ⟨(by omega), (zlcmp_ne hnz), (zlcmp_ne he), ?_⟩)
          rw [row_next hr hi0]
          refine ih (i + 1) (by omega) (by omega) (fun j hj1 hj2 => ?_)
          rcases Int.lt_or_le j i with h | h
          · exact hne j hj1 h
          · have : j = i := by omega
            subst this
            exact hv2
  have e0 : r = r / 16 ^ (0 : Int).toNat := by rw [show (0 : Int).toNat = 0 from rfl, Nat.pow_zero, Nat.div_one]
  have h1 := loop 12 0 (by omega) (by omega) (fun j h1 h2 => by omega)
  rw [← e0] at h1
  exact h1
end
section
/-! what the two programs compute, in plain words: texts -/
def zsgn (z : Int) : Int := if z = 112 then 0 else if z = 119 then 1 else if z = 109 then 2 else -1
def zopn (z : Int) : Int := if z = 110 then 0 else if z = 102 then 1 else if z = 98 then 2 else if z = 116 then 3 else -1
def zfit (p : Int) (f : Int → Int) (i : Int) : Int := if p = 0 then (if zopn (f i) = -1 then 0 else 1) else if i % 4 = 0 then (if 97 ≤ f i ∧ f i ≤ 120 then 1 else 0) else if i % 4 = 1 then (if zsgn (f i) = -1 then 0 else 1) else if i % 4 = 2 then (if 49 ≤ f i ∧ f i ≤ 57 then 1 else 0) else (if f i = 59 then 1 else 0)
def zffo (p : Int) (f : Int → Int) : Nat → Int → Int
  | 0, _ => -1
  | m + 1, i => if zfit p f i = 0 then i else zffo p f m (i + 1)
def zend (p n : Int) : Int := if p = 0 ∨ n = 0 ∨ n % 4 = 3 then 1 else 0
def zfl2 (p n x : Int) : Int := if x = -1 then (if zend p n = 0 then n else -1) else x
def zflt (p : Int) (f : Int → Int) (n : Int) : Int := zfl2 p n (zffo p f n.toNat 0)
def zwho (p : Int) (f : Int → Int) (n : Int) : Int := if zflt p f n = -1 then (if p = 0 then n else (n + 1) / 4) else 0
theorem zsgn_rng (z : Int) : -1 ≤ zsgn z ∧ zsgn z ≤ 2 := by unfold zsgn; (repeat' split) <;> omega
theorem zopn_rng (z : Int) : -1 ≤ zopn z ∧ zopn z ≤ 3 := by unfold zopn; (repeat' split) <;> omega
theorem zfit_rng (p : Int) (f : Int → Int) (i : Int) : zfit p f i = 0 ∨ zfit p f i = 1 := by unfold zfit; (repeat' split) <;> omega
theorem zffo_rng (p : Int) (f : Int → Int) : ∀ (m : Nat) (i : Int), 0 ≤ i → zffo p f m i = -1 ∨ (i ≤ zffo p f m i ∧ zffo p f m i < i + m)
  | 0, i, _ => Or.inl rfl
  | m + 1, i, h => by
    unfold zffo
    split
    · exact Or.inr ⟨by omega, by omega⟩
    · rcases zffo_rng p f m (i + 1) (by omega) with h1 | h1
      · exact Or.inl h1
      · exact Or.inr ⟨by omega, by omega⟩
theorem zffo_fit (p : Int) (f : Int → Int) : ∀ (m : Nat) (i : Int), 0 ≤ i → zffo p f m i = -1 → ∀ j : Int, i ≤ j → j < i + m → zfit p f j = 1
  | 0, i, _, _, j, h1, h2 => by omega
  | m + 1, i, h0, h, j, h1, h2 => by
    unfold zffo at h
    split at h
    · omega
    · rename_i hne
      by_cases hj : j = i
      · subst hj
        exact (zfit_rng p f j).resolve_left hne
      · exact zffo_fit p f m (i + 1) (by omega) h j (by omega) (by omega)
theorem z_eqI {post : Option VV → zSt → Prop} {σ : zSt} {a b : Int} (h : a = b) (hp : post (some (vZ b)) σ) : post (some (vZ a)) σ := h ▸ hp
def zTx (σ : zSt) (b : Nat) : Prop := (σ.1 b 0 = 0 ∨ σ.1 b 0 = 1) ∧ 0 ≤ σ.1 b 2 ∧ σ.1 b 2 ≤ zlen (b + 1) ∧ zlen (b + 1) ≤ 47 ∧ ∀ i : Int, 0 ≤ i → i < σ.1 b 2 → 0 ≤ σ.1 (b + 1) i ∧ σ.1 (b + 1) i ≤ 255
def zby (f : Int → Int) (n i : Int) : Int := if 0 ≤ i ∧ i < n then f i else -1
end
section
set_option maxHeartbeats 4000000 in
/-- Text.size -/
theorem c_T_size {b : Nat} {σ : zSt} {post : Option VV → zSt → Prop}  (hp : post (some (vZ (σ.1 b 2))) σ) : Mc 0 MX5_size [vR 4 b] σ post := by
  show V 0 MX5_size 0 [some (vR 4 b)] [] σ post
  refine V_run kX5_size 2 [] (show V 0 MX5_size 4 [some (vR 4 b)] [vZ (σ.1 b 2)] σ post from ?_)
  exact V_iret kX5_size rfl rfl (hp)
set_option maxHeartbeats 4000000 in
/-- Text.byteAt -/
theorem c_T_byteAt {b : Nat} {i : Int} {σ : zSt} {post : Option VV → zSt → Prop} (hT : zTx σ b) (hi : zr i) (hp : post (some (vZ (zby (σ.1 (b + 1)) (σ.1 b 2) i))) σ) : Mc 0 MX5_byteAt [vR 4 b, vZ i] σ post := by
  show V 0 MX5_byteAt 0 [some (vR 4 b), some (vZ i)] [] σ post
  obtain ⟨hT1, hT2, hT3, hT4, hT5⟩ := id hT
  refine V_run kX5_byteAt 1 [] (show V 0 MX5_byteAt 1 [some (vR 4 b), some (vZ i)] [vZ i] σ post from ?_)
  rcases Int.lt_or_le i 0 with h1 | h1
  · skip
    refine V_run kX5_byteAt 2 [1] (show (zr i ∧ i < 0) ∧ V 0 MX5_byteAt 31 [some (vR 4 b), some (vZ i)] [vZ (-1)] σ post from ⟨(by omega), ?_⟩)
    exact V_iret kX5_byteAt rfl rfl (z_eqI (by unfold zby; (repeat' split) <;> omega) hp)
  · skip
    refine V_run kX5_byteAt 4 [0] (show (zr i ∧ 0 ≤ i) ∧ V 0 MX5_byteAt 9 [some (vR 4 b), some (vZ i)] [vZ (σ.1 b 2), vZ i] σ post from ⟨(by omega), ?_⟩)
    rcases Int.lt_or_le i (σ.1 b 2) with h2 | h2
    · skip
      refine V_run kX5_byteAt 5 [0] (show (zr i ∧ zr (σ.1 b 2) ∧ i < (σ.1 b 2)) ∧ V 0 MX5_byteAt 18 [some (vR 4 b), some (vZ i)] [vZ (zlen (b + 1)), vZ i] σ post from ⟨(by omega), ?_⟩)
      rcases Int.lt_or_le i (zlen (b + 1)) with h3 | h3
      · skip
        refine V_run kX5_byteAt 6 [0] (show (zr i ∧ zr (zlen (b + 1)) ∧ i < (zlen (b + 1))) ∧ (0 ≤ i ∧ i < (zlen (b + 1))) ∧ V 0 MX5_byteAt 31 [some (vR 4 b), some (vZ i)] [vZ (σ.1 (b + 1) i)] σ post from ⟨(by omega), (by omega), ?_⟩)
        exact V_iret kX5_byteAt rfl rfl (z_eqI (by unfold zby; (repeat' split) <;> omega) hp)
      · skip
        refine V_run kX5_byteAt 2 [1] (show (zr i ∧ zr (zlen (b + 1)) ∧ (zlen (b + 1)) ≤ i) ∧ V 0 MX5_byteAt 31 [some (vR 4 b), some (vZ i)] [vZ (-1)] σ post from ⟨(by omega), ?_⟩)
        exact V_iret kX5_byteAt rfl rfl (z_eqI (by unfold zby; (repeat' split) <;> omega) hp)
    · skip
      refine V_run kX5_byteAt 2 [1] (show (zr i ∧ zr (σ.1 b 2) ∧ (σ.1 b 2) ≤ i) ∧ V 0 MX5_byteAt 31 [some (vR 4 b), some (vZ i)] [vZ (-1)] σ post from ⟨(by omega), ?_⟩)
      exact V_iret kX5_byteAt rfl rfl (z_eqI (by unfold zby; (repeat' split) <;> omega) hp)
set_option maxHeartbeats 4000000 in
/-- X5_sortBySign -/
theorem c_T_sgn {z : Int} {σ : zSt} {post : Option VV → zSt → Prop} (hz : zr z) (hp : post (some (vZ (zsgn z))) σ) : Mc 0 MX5_sortBySign [vZ z] σ post := by
  show V 0 MX5_sortBySign 0 [some (vZ z)] [] σ post
  refine V_run kX5_sortBySign 1 [] (show V 0 MX5_sortBySign 1 [some (vZ z)] [vZ z] σ post from ?_)
  by_cases hk1 : z = 109
  · skip
    refine V_ls (off := 39) (tgt := 40) kX5_sortBySign rfl hz (by decide) (by show Op.lookupswitch.offset [(109, 39), (112, 35), (119, 37)] 41 z = 39; simp only [Op.lookupswitch.offset_cons, Op.lookupswitch.offset_nil]; (repeat' split) <;> omega) (by decide) (show V 0 MX5_sortBySign 40 [some (vZ z)] [] σ post from ?_)
    refine V_run kX5_sortBySign 1 [] (show V 0 MX5_sortBySign 41 [some (vZ z)] [vZ 2] σ post from ?_)
    exact V_iret kX5_sortBySign rfl rfl (z_eqI (by unfold zsgn; (repeat' split) <;> omega) hp)
  by_cases hk2 : z = 112
  · skip
    refine V_ls (off := 35) (tgt := 36) kX5_sortBySign rfl hz (by decide) (by show Op.lookupswitch.offset [(109, 39), (112, 35), (119, 37)] 41 z = 35; simp only [Op.lookupswitch.offset_cons, Op.lookupswitch.offset_nil]; (repeat' split) <;> omega) (by decide) (show V 0 MX5_sortBySign 36 [some (vZ z)] [] σ post from ?_)
    refine V_run kX5_sortBySign 1 [] (show V 0 MX5_sortBySign 37 [some (vZ z)] [vZ 0] σ post from ?_)
    exact V_iret kX5_sortBySign rfl rfl (z_eqI (by unfold zsgn; (repeat' split) <;> omega) hp)
  by_cases hk3 : z = 119
  · skip
    refine V_ls (off := 37) (tgt := 38) kX5_sortBySign rfl hz (by decide) (by show Op.lookupswitch.offset [(109, 39), (112, 35), (119, 37)] 41 z = 37; simp only [Op.lookupswitch.offset_cons, Op.lookupswitch.offset_nil]; (repeat' split) <;> omega) (by decide) (show V 0 MX5_sortBySign 38 [some (vZ z)] [] σ post from ?_)
    refine V_run kX5_sortBySign 1 [] (show V 0 MX5_sortBySign 39 [some (vZ z)] [vZ 1] σ post from ?_)
    exact V_iret kX5_sortBySign rfl rfl (z_eqI (by unfold zsgn; (repeat' split) <;> omega) hp)
  refine V_ls (off := 41) (tgt := 42) kX5_sortBySign rfl hz (by decide) (by show Op.lookupswitch.offset [(109, 39), (112, 35), (119, 37)] 41 z = 41; simp only [Op.lookupswitch.offset_cons, Op.lookupswitch.offset_nil]; (repeat' split) <;> omega) (by decide) (show V 0 MX5_sortBySign 42 [some (vZ z)] [] σ post from ?_)
  refine V_run kX5_sortBySign 1 [] (show V 0 MX5_sortBySign 43 [some (vZ z)] [vZ (-1)] σ post from ?_)
  exact V_iret kX5_sortBySign rfl rfl (z_eqI (by unfold zsgn; (repeat' split) <;> omega) hp)
set_option maxHeartbeats 4000000 in
/-- X5_openBySign -/
theorem c_T_opn {z : Int} {σ : zSt} {post : Option VV → zSt → Prop} (hz : zr z) (hp : post (some (vZ (zopn z))) σ) : Mc 0 MX5_openBySign [vZ z] σ post := by
  show V 0 MX5_openBySign 0 [some (vZ z)] [] σ post
  refine V_run kX5_openBySign 1 [] (show V 0 MX5_openBySign 1 [some (vZ z)] [vZ z] σ post from ?_)
  by_cases hk1 : z = 98
  · skip
    refine V_ls (off := 47) (tgt := 48) kX5_openBySign rfl hz (by decide) (by show Op.lookupswitch.offset [(98, 47), (102, 45), (110, 43), (116, 49)] 51 z = 47; simp only [Op.lookupswitch.offset_cons, Op.lookupswitch.offset_nil]; (repeat' split) <;> omega) (by decide) (show V 0 MX5_openBySign 48 [some (vZ z)] [] σ post from ?_)
    refine V_run kX5_openBySign 1 [] (show V 0 MX5_openBySign 49 [some (vZ z)] [vZ 2] σ post from ?_)
    exact V_iret kX5_openBySign rfl rfl (z_eqI (by unfold zopn; (repeat' split) <;> omega) hp)
  by_cases hk2 : z = 102
  · skip
    refine V_ls (off := 45) (tgt := 46) kX5_openBySign rfl hz (by decide) (by show Op.lookupswitch.offset [(98, 47), (102, 45), (110, 43), (116, 49)] 51 z = 45; simp only [Op.lookupswitch.offset_cons, Op.lookupswitch.offset_nil]; (repeat' split) <;> omega) (by decide) (show V 0 MX5_openBySign 46 [some (vZ z)] [] σ post from ?_)
    refine V_run kX5_openBySign 1 [] (show V 0 MX5_openBySign 47 [some (vZ z)] [vZ 1] σ post from ?_)
    exact V_iret kX5_openBySign rfl rfl (z_eqI (by unfold zopn; (repeat' split) <;> omega) hp)
  by_cases hk3 : z = 110
  · skip
    refine V_ls (off := 43) (tgt := 44) kX5_openBySign rfl hz (by decide) (by show Op.lookupswitch.offset [(98, 47), (102, 45), (110, 43), (116, 49)] 51 z = 43; simp only [Op.lookupswitch.offset_cons, Op.lookupswitch.offset_nil]; (repeat' split) <;> omega) (by decide) (show V 0 MX5_openBySign 44 [some (vZ z)] [] σ post from ?_)
    refine V_run kX5_openBySign 1 [] (show V 0 MX5_openBySign 45 [some (vZ z)] [vZ 0] σ post from ?_)
    exact V_iret kX5_openBySign rfl rfl (z_eqI (by unfold zopn; (repeat' split) <;> omega) hp)
  by_cases hk4 : z = 116
  · skip
    refine V_ls (off := 49) (tgt := 50) kX5_openBySign rfl hz (by decide) (by show Op.lookupswitch.offset [(98, 47), (102, 45), (110, 43), (116, 49)] 51 z = 49; simp only [Op.lookupswitch.offset_cons, Op.lookupswitch.offset_nil]; (repeat' split) <;> omega) (by decide) (show V 0 MX5_openBySign 50 [some (vZ z)] [] σ post from ?_)
    refine V_run kX5_openBySign 1 [] (show V 0 MX5_openBySign 51 [some (vZ z)] [vZ 3] σ post from ?_)
    exact V_iret kX5_openBySign rfl rfl (z_eqI (by unfold zopn; (repeat' split) <;> omega) hp)
  refine V_ls (off := 51) (tgt := 52) kX5_openBySign rfl hz (by decide) (by show Op.lookupswitch.offset [(98, 47), (102, 45), (110, 43), (116, 49)] 51 z = 51; simp only [Op.lookupswitch.offset_cons, Op.lookupswitch.offset_nil]; (repeat' split) <;> omega) (by decide) (show V 0 MX5_openBySign 52 [some (vZ z)] [] σ post from ?_)
  refine V_run kX5_openBySign 1 [] (show V 0 MX5_openBySign 53 [some (vZ z)] [vZ (-1)] σ post from ?_)
  exact V_iret kX5_openBySign rfl rfl (z_eqI (by unfold zopn; (repeat' split) <;> omega) hp)
set_option maxHeartbeats 4000000 in
/-- Text.fits -/
theorem c_T_fits {b : Nat} {i : Int} {σ : zSt} {post : Option VV → zSt → Prop} (hT : zTx σ b) (h0 : 0 ≤ i) (h : i < σ.1 b 2) (hp : post (some (vZ (zfit (σ.1 b 0) (σ.1 (b + 1)) i))) σ) : Mc 1 MX5_fits [vR 4 b, vZ i] σ post := by
  obtain ⟨hT1, hT2, hT3, hT4, hT5⟩ := id hT
  show V 1 MX5_fits 0 [some (vR 4 b), some (vZ i), none] [] σ post
  refine V_run kX5_fits 2 [] (show V 1 MX5_fits 2 [some (vR 4 b), some (vZ i), none] [vZ i, vR 4 b] σ post from ?_)
  refine V_callV (a := [vZ i]) (rest := []) kX5_fits rfl oX5_byteAt iX5_byteAt lk_5_41 rfl rfl rfl (Nat.le_of_ble_eq_true rfl) (Nat.le_of_ble_eq_true rfl) (Nat.le_of_ble_eq_true rfl) (post' := fun v σ' => V 1 MX5_fits 5 [some (vR 4 b), some (vZ i), none] (v.toList ++ []) σ' post) (c_T_byteAt hT ⟨by omega, by omega⟩ ((show V 1 MX5_fits 5 [some (vR 4 b), some (vZ i), none] [vZ (zby (σ.1 (b + 1)) (σ.1 b 2) i)] σ post from ?_))) (fun _ _ h => h)
  refine V_top (show zby (σ.1 (b + 1)) (σ.1 b 2) i = σ.1 (b + 1) i from if_pos ⟨h0, h⟩) ?_
  have hbi := hT5 i h0 h
  have hs := zsgn_rng (σ.1 (b + 1) i)
  have ho := zopn_rng (σ.1 (b + 1) i)
  refine V_run kX5_fits 3 [] (show V 1 MX5_fits 10 [some (vR 4 b), some (vZ i), some (vZ (σ.1 (b + 1) i))] [vZ (σ.1 b 0)] σ post from ?_)
  by_cases h1 : (σ.1 b 0) = 0
  · skip
    refine V_run kX5_fits 2 [0] (show (zr (σ.1 b 0) ∧ (σ.1 b 0) = 0) ∧ V 1 MX5_fits 14 [some (vR 4 b), some (vZ i), some (vZ (σ.1 (b + 1) i))] [vZ (σ.1 (b + 1) i)] σ post from ⟨(by omega), ?_⟩)
    refine V_callS (a := [vZ (σ.1 (b + 1) i)]) (rest := []) kX5_fits rfl oX5_openBySign iX5_openBySign lk_5_45 rfl rfl (Nat.le_of_ble_eq_true rfl) (Nat.le_of_ble_eq_true rfl) (Nat.le_of_ble_eq_true rfl) (post' := fun v σ' => V 1 MX5_fits 17 [some (vR 4 b), some (vZ i), some (vZ (σ.1 (b + 1) i))] (v.toList ++ []) σ' post) (c_T_opn ⟨by omega, by omega⟩ ((show V 1 MX5_fits 17 [some (vR 4 b), some (vZ i), some (vZ (σ.1 (b + 1) i))] [vZ (zopn (σ.1 (b + 1) i))] σ post from ?_))) (fun _ _ h => h)
    refine V_run kX5_fits 1 [] (show V 1 MX5_fits 18 [some (vR 4 b), some (vZ i), some (vZ (σ.1 (b + 1) i))] [vZ (-1), vZ (zopn (σ.1 (b + 1) i))] σ post from ?_)
    by_cases h2 : (zopn (σ.1 (b + 1) i)) = (-1)
    · skip
      refine V_run kX5_fits 2 [1] (show (zr (zopn (σ.1 (b + 1) i)) ∧ zr (-1) ∧ (zopn (σ.1 (b + 1) i)) = (-1)) ∧ V 1 MX5_fits 26 [some (vR 4 b), some (vZ i), some (vZ (σ.1 (b + 1) i))] [vZ 0] σ post from ⟨(by omega), ?_⟩)
      exact V_zret kX5_fits rfl rfl (Or.inl rfl) (z_eqI (by unfold zfit; (repeat' split) <;> omega) hp)
    · skip
      refine V_run kX5_fits 3 [0] (show (zr (zopn (σ.1 (b + 1) i)) ∧ zr (-1) ∧ ¬ (zopn (σ.1 (b + 1) i)) = (-1)) ∧ V 1 MX5_fits 26 [some (vR 4 b), some (vZ i), some (vZ (σ.1 (b + 1) i))] [vZ 1] σ post from ⟨(by omega), ?_⟩)
      exact V_zret kX5_fits rfl rfl (Or.inr rfl) (z_eqI (by unfold zfit; (repeat' split) <;> omega) hp)
  · skip
    refine V_run kX5_fits 4 [1] (show (zr (σ.1 b 0) ∧ ¬ (σ.1 b 0) = 0) ∧ (0 ≤ i ∧ i < 2147483648 ∧ 0 < 4 ∧ 4 < 2147483648) ∧ V 1 MX5_fits 30 [some (vR 4 b), some (vZ i), some (vZ (σ.1 (b + 1) i))] [vZ (i % 4)] σ post from ⟨(by omega), (by omega), ?_⟩)
    by_cases hk3 : (i % 4) = 0
    · skip
      refine V_tsIn (off := 26) (tgt := 56) kX5_fits rfl ⟨by omega, by omega⟩ (by omega) (by omega) (by rw [hk3]; rfl) (by decide) (show V 1 MX5_fits 56 [some (vR 4 b), some (vZ i), some (vZ (σ.1 (b + 1) i))] [] σ post from ?_)
      refine V_run kX5_fits 2 [] (show V 1 MX5_fits 59 [some (vR 4 b), some (vZ i), some (vZ (σ.1 (b + 1) i))] [vZ 97, vZ (σ.1 (b + 1) i)] σ post from ?_)
      rcases Int.lt_or_le (σ.1 (b + 1) i) 97 with h4 | h4
      · skip
        refine V_run kX5_fits 2 [1] (show (zr (σ.1 (b + 1) i) ∧ zr 97 ∧ (σ.1 (b + 1) i) < 97) ∧ V 1 MX5_fits 73 [some (vR 4 b), some (vZ i), some (vZ (σ.1 (b + 1) i))] [vZ 0] σ post from ⟨(by omega), ?_⟩)
        exact V_zret kX5_fits rfl rfl (Or.inl rfl) (z_eqI (by unfold zfit; (repeat' split) <;> omega) hp)
      · skip
        refine V_run kX5_fits 3 [0] (show (zr (σ.1 (b + 1) i) ∧ zr 97 ∧ 97 ≤ (σ.1 (b + 1) i)) ∧ V 1 MX5_fits 65 [some (vR 4 b), some (vZ i), some (vZ (σ.1 (b + 1) i))] [vZ 120, vZ (σ.1 (b + 1) i)] σ post from ⟨(by omega), ?_⟩)
        rcases Int.lt_or_le 120 (σ.1 (b + 1) i) with h5 | h5
        · skip
          refine V_run kX5_fits 2 [1] (show (zr (σ.1 (b + 1) i) ∧ zr 120 ∧ 120 < (σ.1 (b + 1) i)) ∧ V 1 MX5_fits 73 [some (vR 4 b), some (vZ i), some (vZ (σ.1 (b + 1) i))] [vZ 0] σ post from ⟨(by omega), ?_⟩)
          exact V_zret kX5_fits rfl rfl (Or.inl rfl) (z_eqI (by unfold zfit; (repeat' split) <;> omega) hp)
        · skip
          refine V_run kX5_fits 3 [0] (show (zr (σ.1 (b + 1) i) ∧ zr 120 ∧ (σ.1 (b + 1) i) ≤ 120) ∧ V 1 MX5_fits 73 [some (vR 4 b), some (vZ i), some (vZ (σ.1 (b + 1) i))] [vZ 1] σ post from ⟨(by omega), ?_⟩)
          exact V_zret kX5_fits rfl rfl (Or.inr rfl) (z_eqI (by unfold zfit; (repeat' split) <;> omega) hp)
    by_cases hk6 : (i % 4) = 1
    · skip
      refine V_tsIn (off := 44) (tgt := 74) kX5_fits rfl ⟨by omega, by omega⟩ (by omega) (by omega) (by rw [hk6]; rfl) (by decide) (show V 1 MX5_fits 74 [some (vR 4 b), some (vZ i), some (vZ (σ.1 (b + 1) i))] [] σ post from ?_)
      refine V_run kX5_fits 1 [] (show V 1 MX5_fits 75 [some (vR 4 b), some (vZ i), some (vZ (σ.1 (b + 1) i))] [vZ (σ.1 (b + 1) i)] σ post from ?_)
      refine V_callS (a := [vZ (σ.1 (b + 1) i)]) (rest := []) kX5_fits rfl oX5_sortBySign iX5_sortBySign lk_5_48 rfl rfl (Nat.le_of_ble_eq_true rfl) (Nat.le_of_ble_eq_true rfl) (Nat.le_of_ble_eq_true rfl) (post' := fun v σ' => V 1 MX5_fits 78 [some (vR 4 b), some (vZ i), some (vZ (σ.1 (b + 1) i))] (v.toList ++ []) σ' post) (c_T_sgn ⟨by omega, by omega⟩ ((show V 1 MX5_fits 78 [some (vR 4 b), some (vZ i), some (vZ (σ.1 (b + 1) i))] [vZ (zsgn (σ.1 (b + 1) i))] σ post from ?_))) (fun _ _ h => h)
      refine V_run kX5_fits 1 [] (show V 1 MX5_fits 79 [some (vR 4 b), some (vZ i), some (vZ (σ.1 (b + 1) i))] [vZ (-1), vZ (zsgn (σ.1 (b + 1) i))] σ post from ?_)
      by_cases h7 : (zsgn (σ.1 (b + 1) i)) = (-1)
      · skip
        refine V_run kX5_fits 2 [1] (show (zr (zsgn (σ.1 (b + 1) i)) ∧ zr (-1) ∧ (zsgn (σ.1 (b + 1) i)) = (-1)) ∧ V 1 MX5_fits 87 [some (vR 4 b), some (vZ i), some (vZ (σ.1 (b + 1) i))] [vZ 0] σ post from ⟨(by omega), ?_⟩)
        exact V_zret kX5_fits rfl rfl (Or.inl rfl) (z_eqI (by unfold zfit; (repeat' split) <;> omega) hp)
      · skip
        refine V_run kX5_fits 3 [0] (show (zr (zsgn (σ.1 (b + 1) i)) ∧ zr (-1) ∧ ¬ (zsgn (σ.1 (b + 1) i)) = (-1)) ∧ V 1 MX5_fits 87 [some (vR 4 b), some (vZ i), some (vZ (σ.1 (b + 1) i))] [vZ 1] σ post from ⟨(by omega), ?_⟩)
        exact V_zret kX5_fits rfl rfl (Or.inr rfl) (z_eqI (by unfold zfit; (repeat' split) <;> omega) hp)
    by_cases hk8 : (i % 4) = 2
    · skip
      refine V_tsIn (off := 58) (tgt := 88) kX5_fits rfl ⟨by omega, by omega⟩ (by omega) (by omega) (by rw [hk8]; rfl) (by decide) (show V 1 MX5_fits 88 [some (vR 4 b), some (vZ i), some (vZ (σ.1 (b + 1) i))] [] σ post from ?_)
      refine V_run kX5_fits 2 [] (show V 1 MX5_fits 91 [some (vR 4 b), some (vZ i), some (vZ (σ.1 (b + 1) i))] [vZ 49, vZ (σ.1 (b + 1) i)] σ post from ?_)
      rcases Int.lt_or_le (σ.1 (b + 1) i) 49 with h9 | h9
      · skip
        refine V_run kX5_fits 2 [1] (show (zr (σ.1 (b + 1) i) ∧ zr 49 ∧ (σ.1 (b + 1) i) < 49) ∧ V 1 MX5_fits 105 [some (vR 4 b), some (vZ i), some (vZ (σ.1 (b + 1) i))] [vZ 0] σ post from ⟨(by omega), ?_⟩)
        exact V_zret kX5_fits rfl rfl (Or.inl rfl) (z_eqI (by unfold zfit; (repeat' split) <;> omega) hp)
      · skip
        refine V_run kX5_fits 3 [0] (show (zr (σ.1 (b + 1) i) ∧ zr 49 ∧ 49 ≤ (σ.1 (b + 1) i)) ∧ V 1 MX5_fits 97 [some (vR 4 b), some (vZ i), some (vZ (σ.1 (b + 1) i))] [vZ 57, vZ (σ.1 (b + 1) i)] σ post from ⟨(by omega), ?_⟩)
        rcases Int.lt_or_le 57 (σ.1 (b + 1) i) with h10 | h10
        · skip
          refine V_run kX5_fits 2 [1] (show (zr (σ.1 (b + 1) i) ∧ zr 57 ∧ 57 < (σ.1 (b + 1) i)) ∧ V 1 MX5_fits 105 [some (vR 4 b), some (vZ i), some (vZ (σ.1 (b + 1) i))] [vZ 0] σ post from ⟨(by omega), ?_⟩)
          exact V_zret kX5_fits rfl rfl (Or.inl rfl) (z_eqI (by unfold zfit; (repeat' split) <;> omega) hp)
        · skip
          refine V_run kX5_fits 3 [0] (show (zr (σ.1 (b + 1) i) ∧ zr 57 ∧ (σ.1 (b + 1) i) ≤ 57) ∧ V 1 MX5_fits 105 [some (vR 4 b), some (vZ i), some (vZ (σ.1 (b + 1) i))] [vZ 1] σ post from ⟨(by omega), ?_⟩)
          exact V_zret kX5_fits rfl rfl (Or.inr rfl) (z_eqI (by unfold zfit; (repeat' split) <;> omega) hp)
    refine V_tsOut (tgt := 106) kX5_fits rfl ⟨by omega, by omega⟩ (by omega) (by decide) (show V 1 MX5_fits 106 [some (vR 4 b), some (vZ i), some (vZ (σ.1 (b + 1) i))] [] σ post from ?_)
    refine V_run kX5_fits 2 [] (show V 1 MX5_fits 109 [some (vR 4 b), some (vZ i), some (vZ (σ.1 (b + 1) i))] [vZ 59, vZ (σ.1 (b + 1) i)] σ post from ?_)
    by_cases h11 : (σ.1 (b + 1) i) = 59
    · skip
      refine V_run kX5_fits 3 [0] (show (zr (σ.1 (b + 1) i) ∧ zr 59 ∧ (σ.1 (b + 1) i) = 59) ∧ V 1 MX5_fits 117 [some (vR 4 b), some (vZ i), some (vZ (σ.1 (b + 1) i))] [vZ 1] σ post from ⟨(by omega), ?_⟩)
      exact V_zret kX5_fits rfl rfl (Or.inr rfl) (z_eqI (by unfold zfit; (repeat' split) <;> omega) hp)
    · skip
      refine V_run kX5_fits 2 [1] (show (zr (σ.1 (b + 1) i) ∧ zr 59 ∧ ¬ (σ.1 (b + 1) i) = 59) ∧ V 1 MX5_fits 117 [some (vR 4 b), some (vZ i), some (vZ (σ.1 (b + 1) i))] [vZ 0] σ post from ⟨(by omega), ?_⟩)
      exact V_zret kX5_fits rfl rfl (Or.inl rfl) (z_eqI (by unfold zfit; (repeat' split) <;> omega) hp)
set_option maxHeartbeats 4000000 in
/-- Text.isEnded -/
theorem c_T_isEnded {b : Nat} {σ : zSt} {post : Option VV → zSt → Prop} (hT : zTx σ b) (hp : post (some (vZ (zend (σ.1 b 0) (σ.1 b 2)))) σ) : Mc 0 MX5_isEnded [vR 4 b] σ post := by
  obtain ⟨hT1, hT2, hT3, hT4, hT5⟩ := id hT
  show V 0 MX5_isEnded 0 [some (vR 4 b)] [] σ post
  refine V_run kX5_isEnded 2 [] (show V 0 MX5_isEnded 4 [some (vR 4 b)] [vZ (σ.1 b 0)] σ post from ?_)
  by_cases h1 : (σ.1 b 0) = 0
  · skip
    refine V_run kX5_isEnded 3 [1] (show (zr (σ.1 b 0) ∧ (σ.1 b 0) = 0) ∧ V 0 MX5_isEnded 29 [some (vR 4 b)] [vZ 1] σ post from ⟨(by omega), ?_⟩)
    exact V_zret kX5_isEnded rfl rfl (Or.inr rfl) (z_eqI (by unfold zend; (repeat' split) <;> omega) hp)
  · skip
    refine V_run kX5_isEnded 3 [0] (show (zr (σ.1 b 0) ∧ ¬ (σ.1 b 0) = 0) ∧ V 0 MX5_isEnded 11 [some (vR 4 b)] [vZ (σ.1 b 2)] σ post from ⟨(by omega), ?_⟩)
    by_cases h2 : (σ.1 b 2) = 0
    · skip
      refine V_run kX5_isEnded 3 [1] (show (zr (σ.1 b 2) ∧ (σ.1 b 2) = 0) ∧ V 0 MX5_isEnded 29 [some (vR 4 b)] [vZ 1] σ post from ⟨(by omega), ?_⟩)
      exact V_zret kX5_isEnded rfl rfl (Or.inr rfl) (z_eqI (by unfold zend; (repeat' split) <;> omega) hp)
    · skip
      refine V_run kX5_isEnded 6 [0] (show (zr (σ.1 b 2) ∧ ¬ (σ.1 b 2) = 0) ∧ (0 ≤ (σ.1 b 2) ∧ (σ.1 b 2) < 2147483648 ∧ 0 < 4 ∧ 4 < 2147483648) ∧ V 0 MX5_isEnded 21 [some (vR 4 b)] [vZ 3, vZ ((σ.1 b 2) % 4)] σ post from ⟨(by omega), (by omega), ?_⟩)
      by_cases h3 : ((σ.1 b 2) % 4) = 3
      · skip
        refine V_run kX5_isEnded 3 [0] (show (zr ((σ.1 b 2) % 4) ∧ zr 3 ∧ ((σ.1 b 2) % 4) = 3) ∧ V 0 MX5_isEnded 29 [some (vR 4 b)] [vZ 1] σ post from ⟨(by omega), ?_⟩)
        exact V_zret kX5_isEnded rfl rfl (Or.inr rfl) (z_eqI (by unfold zend; (repeat' split) <;> omega) hp)
      · skip
        refine V_run kX5_isEnded 2 [1] (show (zr ((σ.1 b 2) % 4) ∧ zr 3 ∧ ¬ ((σ.1 b 2) % 4) = 3) ∧ V 0 MX5_isEnded 29 [some (vR 4 b)] [vZ 0] σ post from ⟨(by omega), ?_⟩)
        exact V_zret kX5_isEnded rfl rfl (Or.inl rfl) (z_eqI (by unfold zend; (repeat' split) <;> omega) hp)
set_option maxHeartbeats 4000000 in
/-- Text.firstFault -/
theorem c_T_ff {b : Nat} {σ : zSt} {post : Option VV → zSt → Prop} (hT : zTx σ b) (hp : post (some (vZ (zflt (σ.1 b 0) (σ.1 (b + 1)) (σ.1 b 2)))) σ) : Mc 2 MX5_firstFault [vR 4 b] σ post := by
  obtain ⟨hT1, hT2, hT3, hT4, hT5⟩ := id hT
  show V 2 MX5_firstFault 0 [some (vR 4 b), none] [] σ post
  refine V_run kX5_firstFault 2 [] (show V 2 MX5_firstFault 2 [some (vR 4 b), some (vZ 0)] [] σ post from ?_)
  have loop : ∀ (m : Nat) (i : Int), 0 ≤ i → i + m = σ.1 b 2 → post (some (vZ (zfl2 (σ.1 b 0) (σ.1 b 2) (zffo (σ.1 b 0) (σ.1 (b + 1)) m i)))) σ → V 2 MX5_firstFault 2 [some (vR 4 b), some (vZ i)] [] σ post := by
    intro m
    induction m with
    | zero =>
      intro i hi0 hi hp
      refine V_run kX5_firstFault 5 [1] (show (zr i ∧ zr (σ.1 b 2) ∧ (σ.1 b 2) ≤ i) ∧ V 2 MX5_firstFault 27 [some (vR 4 b), some (vZ i)] [vR 4 b] σ post from ⟨(by omega), ?_⟩)
      have hze : zend (σ.1 b 0) (σ.1 b 2) = 0 ∨ zend (σ.1 b 0) (σ.1 b 2) = 1 := by unfold zend; split <;> omega
      refine V_callV (a := []) (rest := []) kX5_firstFault rfl oX5_isEnded iX5_isEnded lk_5_33 rfl rfl rfl (Nat.le_of_ble_eq_true rfl) (Nat.le_of_ble_eq_true rfl) (Nat.le_of_ble_eq_true rfl) (post' := fun v σ' => V 2 MX5_firstFault 30 [some (vR 4 b), some (vZ i)] (v.toList ++ []) σ' post) (c_T_isEnded hT ((show V 2 MX5_firstFault 30 [some (vR 4 b), some (vZ i)] [vZ (zend (σ.1 b 0) (σ.1 b 2))] σ post from ?_))) (fun _ _ h => h)
      by_cases h1 : (zend (σ.1 b 0) (σ.1 b 2)) = 0
      · skip
        refine V_run kX5_firstFault 3 [1] (show (zr (zend (σ.1 b 0) (σ.1 b 2)) ∧ (zend (σ.1 b 0) (σ.1 b 2)) = 0) ∧ V 2 MX5_firstFault 41 [some (vR 4 b), some (vZ i)] [vZ (σ.1 b 2)] σ post from ⟨(by omega), ?_⟩)
        exact V_iret kX5_firstFault rfl rfl (z_eqI (by show _ = zfl2 _ _ (-1); unfold zfl2; rw [if_pos rfl]; (repeat' split) <;> omega) hp)
      · skip
        refine V_run kX5_firstFault 3 [0] (show (zr (zend (σ.1 b 0) (σ.1 b 2)) ∧ ¬ (zend (σ.1 b 0) (σ.1 b 2)) = 0) ∧ V 2 MX5_firstFault 41 [some (vR 4 b), some (vZ i)] [vZ (-1)] σ post from ⟨(by omega), ?_⟩)
        exact V_iret kX5_firstFault rfl rfl (z_eqI (by show _ = zfl2 _ _ (-1); unfold zfl2; rw [if_pos rfl]; (repeat' split) <;> omega) hp)
    | succ m ih =>
      intro i hi0 hi hp
      have hfr := zfit_rng (σ.1 b 0) (σ.1 (b + 1)) i
      refine V_run kX5_firstFault 6 [0] (show (zr i ∧ zr (σ.1 b 2) ∧ i < (σ.1 b 2)) ∧ V 2 MX5_firstFault 12 [some (vR 4 b), some (vZ i)] [vZ i, vR 4 b] σ post from ⟨(by omega), ?_⟩)
      refine V_callV (a := [vZ i]) (rest := []) kX5_firstFault rfl oX5_fits iX5_fits lk_5_29 rfl rfl rfl (Nat.le_of_ble_eq_true rfl) (Nat.le_of_ble_eq_true rfl) (Nat.le_of_ble_eq_true rfl) (post' := fun v σ' => V 2 MX5_firstFault 15 [some (vR 4 b), some (vZ i)] (v.toList ++ []) σ' post) (c_T_fits hT hi0 (by omega) ((show V 2 MX5_firstFault 15 [some (vR 4 b), some (vZ i)] [vZ (zfit (σ.1 b 0) (σ.1 (b + 1)) i)] σ post from ?_))) (fun _ _ h => h)
      by_cases hz : zfit (σ.1 b 0) (σ.1 (b + 1)) i = 0
      · skip
        rw [show zffo (σ.1 b 0) (σ.1 (b + 1)) (m + 1) i = i from if_pos hz, show zfl2 (σ.1 b 0) (σ.1 b 2) i = i from if_neg (by omega)] at hp
        refine V_run kX5_firstFault 2 [0] (show (zr (zfit (σ.1 b 0) (σ.1 (b + 1)) i) ∧ (zfit (σ.1 b 0) (σ.1 (b + 1)) i) = 0) ∧ V 2 MX5_firstFault 19 [some (vR 4 b), some (vZ i)] [vZ i] σ post from ⟨(by omega), ?_⟩)
        exact V_iret kX5_firstFault rfl rfl (hp)
      · skip
        rw [show zffo (σ.1 b 0) (σ.1 (b + 1)) (m + 1) i = zffo (σ.1 b 0) (σ.1 (b + 1)) m (i + 1) from if_neg hz] at hp
        refine V_run kX5_firstFault 3 [1] (show (zr (zfit (σ.1 b 0) (σ.1 (b + 1)) i) ∧ ¬ (zfit (σ.1 b 0) (σ.1 (b + 1)) i) = 0) ∧ V 2 MX5_firstFault 2 [some (vR 4 b), some (vZ (i + 1))] [] σ post from ⟨(by omega), ?_⟩)
        exact ih (i + 1) (by omega) (by omega) hp
  exact loop (σ.1 b 2).toNat 0 (by omega) (by omega) hp
theorem zflt_rng {p n : Int} {f : Int → Int} (h : 0 ≤ n) : zflt p f n = -1 ∨ (0 ≤ zflt p f n ∧ zflt p f n ≤ n) := by
  unfold zflt zfl2
  have h1 := zffo_rng p f n.toNat 0 (by omega)
  (repeat' split) <;> omega
set_option maxHeartbeats 4000000 in
/-- Text.whole -/
theorem c_T_whole {b : Nat} {σ : zSt} {post : Option VV → zSt → Prop} (hT : zTx σ b) (hp : post (some (vZ (zwho (σ.1 b 0) (σ.1 (b + 1)) (σ.1 b 2)))) σ) : Mc 3 MX5_whole [vR 4 b] σ post := by
  obtain ⟨hT1, hT2, hT3, hT4, hT5⟩ := id hT
  show V 3 MX5_whole 0 [some (vR 4 b)] [] σ post
  have hfr := zflt_rng (p := σ.1 b 0) (f := σ.1 (b + 1)) hT2
  refine V_run kX5_whole 1 [] (show V 3 MX5_whole 1 [some (vR 4 b)] [vR 4 b] σ post from ?_)
  refine V_callV (a := []) (rest := []) kX5_whole rfl oX5_firstFault iX5_firstFault lk_5_37 rfl rfl rfl (Nat.le_of_ble_eq_true rfl) (Nat.le_of_ble_eq_true rfl) (Nat.le_of_ble_eq_true rfl) (post' := fun v σ' => V 3 MX5_whole 4 [some (vR 4 b)] (v.toList ++ []) σ' post) (c_T_ff hT ((show V 3 MX5_whole 4 [some (vR 4 b)] [vZ (zflt (σ.1 b 0) (σ.1 (b + 1)) (σ.1 b 2))] σ post from ?_))) (fun _ _ h => h)
  refine V_run kX5_whole 1 [] (show V 3 MX5_whole 5 [some (vR 4 b)] [vZ (-1), vZ (zflt (σ.1 b 0) (σ.1 (b + 1)) (σ.1 b 2))] σ post from ?_)
  by_cases h1 : (zflt (σ.1 b 0) (σ.1 (b + 1)) (σ.1 b 2)) = (-1)
  · skip
    refine V_run kX5_whole 3 [1] (show (zr (zflt (σ.1 b 0) (σ.1 (b + 1)) (σ.1 b 2)) ∧ zr (-1) ∧ (zflt (σ.1 b 0) (σ.1 (b + 1)) (σ.1 b 2)) = (-1)) ∧ V 3 MX5_whole 14 [some (vR 4 b)] [vZ (σ.1 b 0)] σ post from ⟨(by omega), ?_⟩)
    by_cases h2 : (σ.1 b 0) = 0
    · skip
      refine V_run kX5_whole 3 [1] (show (zr (σ.1 b 0) ∧ (σ.1 b 0) = 0) ∧ V 3 MX5_whole 32 [some (vR 4 b)] [vZ (σ.1 b 2)] σ post from ⟨(by omega), ?_⟩)
      exact V_iret kX5_whole rfl rfl (z_eqI (by unfold zwho; (repeat' split) <;> omega) hp)
    · skip
      refine V_run kX5_whole 8 [0] (show (zr (σ.1 b 0) ∧ ¬ (σ.1 b 0) = 0) ∧ (0 ≤ ((σ.1 b 2) + 1) ∧ ((σ.1 b 2) + 1) < 2147483648 ∧ 0 < 4 ∧ 4 < 2147483648) ∧ V 3 MX5_whole 32 [some (vR 4 b)] [vZ (((σ.1 b 2) + 1) / 4)] σ post from ⟨(by omega), (by omega), ?_⟩)
      exact V_iret kX5_whole rfl rfl (z_eqI (by unfold zwho; (repeat' split) <;> omega) hp)
  · skip
    refine V_run kX5_whole 2 [0] (show (zr (zflt (σ.1 b 0) (σ.1 (b + 1)) (σ.1 b 2)) ∧ zr (-1) ∧ ¬ (zflt (σ.1 b 0) (σ.1 (b + 1)) (σ.1 b 2)) = (-1)) ∧ V 3 MX5_whole 9 [some (vR 4 b)] [vZ 0] σ post from ⟨(by omega), ?_⟩)
    exact V_iret kX5_whole rfl rfl (z_eqI (by unfold zwho; (repeat' split) <;> omega) hp)
set_option maxHeartbeats 4000000 in
/-- Text.append -/
theorem c_T_append {b : Nat} {v : Int} {σ : zSt} {post : Option VV → zSt → Prop} (hT : zTx σ b) (hp0 : σ.1 b 2 = zlen (b + 1) → post (some (vZ 0)) σ) (hp1 : σ.1 b 2 < zlen (b + 1) → post (some (vZ 1)) (uI (uI σ (b + 1) (σ.1 b 2) v) b 2 ((uI σ (b + 1) (σ.1 b 2) v).1 b 2 + 1))) : Mc 0 MX5_append [vR 4 b, vZ v] σ post := by
  obtain ⟨hT1, hT2, hT3, hT4, hT5⟩ := id hT
  show V 0 MX5_append 0 [some (vR 4 b), some (vZ v)] [] σ post
  refine V_run kX5_append 8 [0] (show (zr (σ.1 b 2) ∧ 0 ≤ (σ.1 b 2)) ∧ V 0 MX5_append 16 [some (vR 4 b), some (vZ v)] [vZ (zlen (b + 1)), vZ (σ.1 b 2)] σ post from ⟨(by omega), ?_⟩)
  rcases Int.lt_or_le (σ.1 b 2) (zlen (b + 1)) with h1 | h1
  · skip
    refine V_run kX5_append 14 [1] (show (zr (σ.1 b 2) ∧ zr (zlen (b + 1)) ∧ (σ.1 b 2) < (zlen (b + 1))) ∧ (0 ≤ (σ.1 b 2) ∧ (σ.1 b 2) < (zlen (b + 1))) ∧ V 0 MX5_append 42 [some (vR 4 b), some (vZ v)] [vZ 1] (uI (uI σ (b + 1) (σ.1 b 2) v) b 2 (((uI σ (b + 1) (σ.1 b 2) v).1 b 2) + 1)) post from ⟨(by omega), (by omega), ?_⟩)
    exact V_zret kX5_append rfl rfl (Or.inr rfl) (hp1 (by omega))
  · skip
    refine V_run kX5_append 2 [0] (show (zr (σ.1 b 2) ∧ zr (zlen (b + 1)) ∧ (zlen (b + 1)) ≤ (σ.1 b 2)) ∧ V 0 MX5_append 20 [some (vR 4 b), some (vZ v)] [vZ 0] σ post from ⟨(by omega), ?_⟩)
    exact V_zret kX5_append rfl rfl (Or.inl rfl) (hp0 (by omega))
set_option maxHeartbeats 4000000 in
/-- Text.dropLast -/
theorem c_T_drop {b : Nat} {σ : zSt} {post : Option VV → zSt → Prop} (hT : zTx σ b) (hp0 : σ.1 b 2 = 0 → post (some (vZ 0)) σ) (hp1 : 0 < σ.1 b 2 → post (some (vZ 1)) (uI σ b 2 (σ.1 b 2 - 1))) : Mc 0 MX5_dropLast [vR 4 b] σ post := by
  obtain ⟨hT1, hT2, hT3, hT4, hT5⟩ := id hT
  show V 0 MX5_dropLast 0 [some (vR 4 b)] [] σ post
  refine V_run kX5_dropLast 2 [] (show V 0 MX5_dropLast 4 [some (vR 4 b)] [vZ (σ.1 b 2)] σ post from ?_)
  rcases Int.lt_or_le 0 (σ.1 b 2) with h1 | h1
  · skip
    refine V_run kX5_dropLast 8 [1] (show (zr (σ.1 b 2) ∧ 0 < (σ.1 b 2)) ∧ V 0 MX5_dropLast 20 [some (vR 4 b)] [vZ 1] (uI σ b 2 ((σ.1 b 2) - 1)) post from ⟨(by omega), ?_⟩)
    exact V_zret kX5_dropLast rfl rfl (Or.inr rfl) (hp1 (by omega))
  · skip
    refine V_run kX5_dropLast 2 [0] (show (zr (σ.1 b 2) ∧ (σ.1 b 2) ≤ 0) ∧ V 0 MX5_dropLast 8 [some (vR 4 b)] [vZ 0] σ post from ⟨(by omega), ?_⟩)
    exact V_zret kX5_dropLast rfl rfl (Or.inl rfl) (hp0 (by omega))
set_option maxHeartbeats 4000000 in
/-- Text.clear -/
theorem c_T_clear {b : Nat} {σ : zSt} {post : Option VV → zSt → Prop}  (hp : post none (uI σ b 2 0)) : Mc 0 MX5_clear [vR 4 b] σ post := by
  show V 0 MX5_clear 0 [some (vR 4 b)] [] σ post
  refine V_run kX5_clear 3 [] (show V 0 MX5_clear 5 [some (vR 4 b)] [] (uI σ b 2 0) post from ?_)
  exact V_vret kX5_clear rfl rfl (hp)
end
