section
/-- a private method of a class that the tables say can be made, by its rows of tables_1 -/
def lw_okq (q : MethodName × Nat) : Prop := (q.1.cls ≠ "java/lang/invoke/MethodHandle" ∧ q.1.cls ≠ "java/lang/invoke/VarHandle") ∧ Cond.instantiable q.1.cls q.2 ∈ tables_1 ∧ Cond.privateMethod q.1 ∈ tables_1 ∧ Cond.instanceMethod q.1 ∈ tables_1
theorem lw_p0 : lw_okq (⟨"PromiseDesk", "requireRoom", "(I)V"⟩, 10) := ⟨⟨by decide +kernel, by decide +kernel⟩, List.mem_of_getElem? (i := 29) (by decide +kernel), List.mem_of_getElem? (i := 111) (by decide +kernel), List.mem_of_getElem? (i := 112) (by decide +kernel)⟩
theorem lw_p1 : lw_okq (⟨"java/lang/Throwable", "fillInStackTrace", "(I)Ljava/lang/Throwable;"⟩, 6) := ⟨⟨by decide +kernel, by decide +kernel⟩, List.mem_of_getElem? (i := 156) (by decide +kernel), List.mem_of_getElem? (i := 154) (by decide +kernel), List.mem_of_getElem? (i := 155) (by decide +kernel)⟩
theorem lw_p2 : lw_okq (⟨"PromiseDesk", "newPromise", "()LPromiseDesk$Resolvers;"⟩, 10) := ⟨⟨by decide +kernel, by decide +kernel⟩, List.mem_of_getElem? (i := 29) (by decide +kernel), List.mem_of_getElem? (i := 186) (by decide +kernel), List.mem_of_getElem? (i := 187) (by decide +kernel)⟩
theorem lw_p3 : lw_okq (⟨"PromiseDesk", "nextValue", "()I"⟩, 10) := ⟨⟨by decide +kernel, by decide +kernel⟩, List.mem_of_getElem? (i := 29) (by decide +kernel), List.mem_of_getElem? (i := 192) (by decide +kernel), List.mem_of_getElem? (i := 193) (by decide +kernel)⟩
theorem lw_p4 : lw_okq (⟨"java/util/ArrayList", "add", "(Ljava/lang/Object;[Ljava/lang/Object;I)V"⟩, 3) := ⟨⟨by decide +kernel, by decide +kernel⟩, List.mem_of_getElem? (i := 37) (by decide +kernel), List.mem_of_getElem? (i := 244) (by decide +kernel), List.mem_of_getElem? (i := 245) (by decide +kernel)⟩
theorem lw_p5 : lw_okq (⟨"java/util/ArrayList", "grow", "()[Ljava/lang/Object;"⟩, 3) := ⟨⟨by decide +kernel, by decide +kernel⟩, List.mem_of_getElem? (i := 37) (by decide +kernel), List.mem_of_getElem? (i := 248) (by decide +kernel), List.mem_of_getElem? (i := 249) (by decide +kernel)⟩
theorem lw_p6 : lw_okq (⟨"java/util/ArrayList", "grow", "(I)[Ljava/lang/Object;"⟩, 3) := ⟨⟨by decide +kernel, by decide +kernel⟩, List.mem_of_getElem? (i := 37) (by decide +kernel), List.mem_of_getElem? (i := 252) (by decide +kernel), List.mem_of_getElem? (i := 253) (by decide +kernel)⟩
theorem lw_p7 : lw_okq (⟨"PromiseDesk", "requireRange", "(III)V"⟩, 10) := ⟨⟨by decide +kernel, by decide +kernel⟩, List.mem_of_getElem? (i := 29) (by decide +kernel), List.mem_of_getElem? (i := 324) (by decide +kernel), List.mem_of_getElem? (i := 325) (by decide +kernel)⟩
theorem lw_p8 : lw_okq (⟨"PromiseDesk", "requireValue", "(I)V"⟩, 10) := ⟨⟨by decide +kernel, by decide +kernel⟩, List.mem_of_getElem? (i := 29) (by decide +kernel), List.mem_of_getElem? (i := 344) (by decide +kernel), List.mem_of_getElem? (i := 345) (by decide +kernel)⟩
theorem lw_p9 : lw_okq (⟨"PromiseDesk", "thingOf", "(I)LPromiseDesk$Thing;"⟩, 10) := ⟨⟨by decide +kernel, by decide +kernel⟩, List.mem_of_getElem? (i := 29) (by decide +kernel), List.mem_of_getElem? (i := 348) (by decide +kernel), List.mem_of_getElem? (i := 349) (by decide +kernel)⟩
theorem lw_p10 : lw_okq (⟨"PromiseDesk", "requireKept", "(I)LPromiseDesk$Resolvers;"⟩, 10) := ⟨⟨by decide +kernel, by decide +kernel⟩, List.mem_of_getElem? (i := 29) (by decide +kernel), List.mem_of_getElem? (i := 368) (by decide +kernel), List.mem_of_getElem? (i := 369) (by decide +kernel)⟩
theorem lw_p11 : lw_okq (⟨"PromiseDesk", "requirePromise", "(I)LPromiseDesk$Promise;"⟩, 10) := ⟨⟨by decide +kernel, by decide +kernel⟩, List.mem_of_getElem? (i := 29) (by decide +kernel), List.mem_of_getElem? (i := 372) (by decide +kernel), List.mem_of_getElem? (i := 373) (by decide +kernel)⟩
theorem lw_p12 : lw_okq (⟨"PromiseDesk", "callOneOf", "(LPromiseDesk$Resolvers;ZI)Z"⟩, 10) := ⟨⟨by decide +kernel, by decide +kernel⟩, List.mem_of_getElem? (i := 29) (by decide +kernel), List.mem_of_getElem? (i := 444) (by decide +kernel), List.mem_of_getElem? (i := 445) (by decide +kernel)⟩
theorem lw_p13 : lw_okq (⟨"PromiseDesk", "reject", "(LPromiseDesk$Resolvers;I)V"⟩, 10) := ⟨⟨by decide +kernel, by decide +kernel⟩, List.mem_of_getElem? (i := 29) (by decide +kernel), List.mem_of_getElem? (i := 448) (by decide +kernel), List.mem_of_getElem? (i := 449) (by decide +kernel)⟩
theorem lw_p14 : lw_okq (⟨"PromiseDesk", "close", "(LPromiseDesk$Promise;II)V"⟩, 10) := ⟨⟨by decide +kernel, by decide +kernel⟩, List.mem_of_getElem? (i := 29) (by decide +kernel), List.mem_of_getElem? (i := 452) (by decide +kernel), List.mem_of_getElem? (i := 453) (by decide +kernel)⟩
theorem lw_p15 : lw_okq (⟨"PromiseDesk", "enqueue", "(LPromiseDesk$Job;)V"⟩, 10) := ⟨⟨by decide +kernel, by decide +kernel⟩, List.mem_of_getElem? (i := 29) (by decide +kernel), List.mem_of_getElem? (i := 460) (by decide +kernel), List.mem_of_getElem? (i := 461) (by decide +kernel)⟩
def lw_privs_1 : List (MethodName × Nat) := [(⟨"PromiseDesk", "requireRoom", "(I)V"⟩, 10), (⟨"java/lang/Throwable", "fillInStackTrace", "(I)Ljava/lang/Throwable;"⟩, 6), (⟨"PromiseDesk", "newPromise", "()LPromiseDesk$Resolvers;"⟩, 10), (⟨"PromiseDesk", "nextValue", "()I"⟩, 10), (⟨"java/util/ArrayList", "add", "(Ljava/lang/Object;[Ljava/lang/Object;I)V"⟩, 3), (⟨"java/util/ArrayList", "grow", "()[Ljava/lang/Object;"⟩, 3), (⟨"java/util/ArrayList", "grow", "(I)[Ljava/lang/Object;"⟩, 3), (⟨"PromiseDesk", "requireRange", "(III)V"⟩, 10), (⟨"PromiseDesk", "requireValue", "(I)V"⟩, 10), (⟨"PromiseDesk", "thingOf", "(I)LPromiseDesk$Thing;"⟩, 10), (⟨"PromiseDesk", "requireKept", "(I)LPromiseDesk$Resolvers;"⟩, 10), (⟨"PromiseDesk", "requirePromise", "(I)LPromiseDesk$Promise;"⟩, 10), (⟨"PromiseDesk", "callOneOf", "(LPromiseDesk$Resolvers;ZI)Z"⟩, 10), (⟨"PromiseDesk", "reject", "(LPromiseDesk$Resolvers;I)V"⟩, 10), (⟨"PromiseDesk", "close", "(LPromiseDesk$Promise;II)V"⟩, 10), (⟨"PromiseDesk", "enqueue", "(LPromiseDesk$Job;)V"⟩, 10)]
theorem lw_r1 : ∀ q ∈ lw_privs_1, lw_okq q := List.forall_mem_cons.mpr ⟨lw_p0, List.forall_mem_cons.mpr ⟨lw_p1, List.forall_mem_cons.mpr ⟨lw_p2, List.forall_mem_cons.mpr ⟨lw_p3, List.forall_mem_cons.mpr ⟨lw_p4, List.forall_mem_cons.mpr ⟨lw_p5, List.forall_mem_cons.mpr ⟨lw_p6, List.forall_mem_cons.mpr ⟨lw_p7, List.forall_mem_cons.mpr ⟨lw_p8, List.forall_mem_cons.mpr ⟨lw_p9, List.forall_mem_cons.mpr ⟨lw_p10, List.forall_mem_cons.mpr ⟨lw_p11, List.forall_mem_cons.mpr ⟨lw_p12, List.forall_mem_cons.mpr ⟨lw_p13, List.forall_mem_cons.mpr ⟨lw_p14, List.forall_mem_cons.mpr ⟨lw_p15, fun _ h => absurd h List.not_mem_nil⟩⟩⟩⟩⟩⟩⟩⟩⟩⟩⟩⟩⟩⟩⟩⟩
theorem lw_p16 : lw_okq (⟨"PromiseDesk", "resolve", "(LPromiseDesk$Resolvers;I)V"⟩, 10) := ⟨⟨by decide +kernel, by decide +kernel⟩, List.mem_of_getElem? (i := 29) (by decide +kernel), List.mem_of_getElem? (i := 464) (by decide +kernel), List.mem_of_getElem? (i := 465) (by decide +kernel)⟩
theorem lw_p17 : lw_okq (⟨"PromiseDesk", "newThing", "(I[I)I"⟩, 10) := ⟨⟨by decide +kernel, by decide +kernel⟩, List.mem_of_getElem? (i := 29) (by decide +kernel), List.mem_of_getElem? (i := 468) (by decide +kernel), List.mem_of_getElem? (i := 469) (by decide +kernel)⟩
theorem lw_p18 : lw_okq (⟨"PromiseDesk", "hasThenFunction", "(LPromiseDesk$Thing;)Z"⟩, 10) := ⟨⟨by decide +kernel, by decide +kernel⟩, List.mem_of_getElem? (i := 29) (by decide +kernel), List.mem_of_getElem? (i := 478) (by decide +kernel), List.mem_of_getElem? (i := 479) (by decide +kernel)⟩
theorem lw_p19 : lw_okq (⟨"PromiseDesk", "requireThenable", "(I)LPromiseDesk$Thenable;"⟩, 10) := ⟨⟨by decide +kernel, by decide +kernel⟩, List.mem_of_getElem? (i := 29) (by decide +kernel), List.mem_of_getElem? (i := 532) (by decide +kernel), List.mem_of_getElem? (i := 533) (by decide +kernel)⟩
theorem lw_p20 : lw_okq (⟨"PromiseDesk", "requireHandler", "(I)LPromiseDesk$Simple;"⟩, 10) := ⟨⟨by decide +kernel, by decide +kernel⟩, List.mem_of_getElem? (i := 29) (by decide +kernel), List.mem_of_getElem? (i := 544) (by decide +kernel), List.mem_of_getElem? (i := 545) (by decide +kernel)⟩
theorem lw_p21 : lw_okq (⟨"PromiseDesk", "derive", "(LPromiseDesk$Promise;LPromiseDesk$Function;LPromiseDesk$Function;)I"⟩, 10) := ⟨⟨by decide +kernel, by decide +kernel⟩, List.mem_of_getElem? (i := 29) (by decide +kernel), List.mem_of_getElem? (i := 548) (by decide +kernel), List.mem_of_getElem? (i := 549) (by decide +kernel)⟩
theorem lw_p22 : lw_okq (⟨"PromiseDesk", "attach", "(LPromiseDesk$Promise;LPromiseDesk$Job;)V"⟩, 10) := ⟨⟨by decide +kernel, by decide +kernel⟩, List.mem_of_getElem? (i := 29) (by decide +kernel), List.mem_of_getElem? (i := 555) (by decide +kernel), List.mem_of_getElem? (i := 556) (by decide +kernel)⟩
theorem lw_p23 : lw_okq (⟨"PromiseDesk", "promiseFor", "(I)LPromiseDesk$Promise;"⟩, 10) := ⟨⟨by decide +kernel, by decide +kernel⟩, List.mem_of_getElem? (i := 29) (by decide +kernel), List.mem_of_getElem? (i := 586) (by decide +kernel), List.mem_of_getElem? (i := 587) (by decide +kernel)⟩
theorem lw_p24 : lw_okq (⟨"PromiseDesk", "takeList", "()[I"⟩, 10) := ⟨⟨by decide +kernel, by decide +kernel⟩, List.mem_of_getElem? (i := 29) (by decide +kernel), List.mem_of_getElem? (i := 612) (by decide +kernel), List.mem_of_getElem? (i := 613) (by decide +kernel)⟩
theorem lw_p25 : lw_okq (⟨"PromiseDesk", "onFulfilled", "(LPromiseDesk$Combination;I)LPromiseDesk$Function;"⟩, 10) := ⟨⟨by decide +kernel, by decide +kernel⟩, List.mem_of_getElem? (i := 29) (by decide +kernel), List.mem_of_getElem? (i := 651) (by decide +kernel), List.mem_of_getElem? (i := 652) (by decide +kernel)⟩
theorem lw_p26 : lw_okq (⟨"PromiseDesk", "onRejected", "(LPromiseDesk$Combination;I)LPromiseDesk$Function;"⟩, 10) := ⟨⟨by decide +kernel, by decide +kernel⟩, List.mem_of_getElem? (i := 29) (by decide +kernel), List.mem_of_getElem? (i := 676) (by decide +kernel), List.mem_of_getElem? (i := 677) (by decide +kernel)⟩
theorem lw_p27 : lw_okq (⟨"PromiseDesk", "complete", "(LPromiseDesk$Combination;)V"⟩, 10) := ⟨⟨by decide +kernel, by decide +kernel⟩, List.mem_of_getElem? (i := 29) (by decide +kernel), List.mem_of_getElem? (i := 683) (by decide +kernel), List.mem_of_getElem? (i := 684) (by decide +kernel)⟩
theorem lw_p28 : lw_okq (⟨"PromiseDesk", "advance", "(LPromiseDesk$AsyncRun;)V"⟩, 10) := ⟨⟨by decide +kernel, by decide +kernel⟩, List.mem_of_getElem? (i := 29) (by decide +kernel), List.mem_of_getElem? (i := 720) (by decide +kernel), List.mem_of_getElem? (i := 721) (by decide +kernel)⟩
theorem lw_p29 : lw_okq (⟨"PromiseDesk", "requireRoomInLog", "()V"⟩, 10) := ⟨⟨by decide +kernel, by decide +kernel⟩, List.mem_of_getElem? (i := 29) (by decide +kernel), List.mem_of_getElem? (i := 734) (by decide +kernel), List.mem_of_getElem? (i := 735) (by decide +kernel)⟩
theorem lw_p30 : lw_okq (⟨"PromiseDesk", "dequeue", "(LPromiseDesk$Job;)V"⟩, 10) := ⟨⟨by decide +kernel, by decide +kernel⟩, List.mem_of_getElem? (i := 29) (by decide +kernel), List.mem_of_getElem? (i := 739) (by decide +kernel), List.mem_of_getElem? (i := 740) (by decide +kernel)⟩
theorem lw_p31 : lw_okq (⟨"PromiseDesk", "doJob", "(LPromiseDesk$Job;)V"⟩, 10) := ⟨⟨by decide +kernel, by decide +kernel⟩, List.mem_of_getElem? (i := 29) (by decide +kernel), List.mem_of_getElem? (i := 743) (by decide +kernel), List.mem_of_getElem? (i := 744) (by decide +kernel)⟩
def lw_privs_2 : List (MethodName × Nat) := [(⟨"PromiseDesk", "resolve", "(LPromiseDesk$Resolvers;I)V"⟩, 10), (⟨"PromiseDesk", "newThing", "(I[I)I"⟩, 10), (⟨"PromiseDesk", "hasThenFunction", "(LPromiseDesk$Thing;)Z"⟩, 10), (⟨"PromiseDesk", "requireThenable", "(I)LPromiseDesk$Thenable;"⟩, 10), (⟨"PromiseDesk", "requireHandler", "(I)LPromiseDesk$Simple;"⟩, 10), (⟨"PromiseDesk", "derive", "(LPromiseDesk$Promise;LPromiseDesk$Function;LPromiseDesk$Function;)I"⟩, 10), (⟨"PromiseDesk", "attach", "(LPromiseDesk$Promise;LPromiseDesk$Job;)V"⟩, 10), (⟨"PromiseDesk", "promiseFor", "(I)LPromiseDesk$Promise;"⟩, 10), (⟨"PromiseDesk", "takeList", "()[I"⟩, 10), (⟨"PromiseDesk", "onFulfilled", "(LPromiseDesk$Combination;I)LPromiseDesk$Function;"⟩, 10), (⟨"PromiseDesk", "onRejected", "(LPromiseDesk$Combination;I)LPromiseDesk$Function;"⟩, 10), (⟨"PromiseDesk", "complete", "(LPromiseDesk$Combination;)V"⟩, 10), (⟨"PromiseDesk", "advance", "(LPromiseDesk$AsyncRun;)V"⟩, 10), (⟨"PromiseDesk", "requireRoomInLog", "()V"⟩, 10), (⟨"PromiseDesk", "dequeue", "(LPromiseDesk$Job;)V"⟩, 10), (⟨"PromiseDesk", "doJob", "(LPromiseDesk$Job;)V"⟩, 10)]
theorem lw_r2 : ∀ q ∈ lw_privs_2, lw_okq q := List.forall_mem_cons.mpr ⟨lw_p16, List.forall_mem_cons.mpr ⟨lw_p17, List.forall_mem_cons.mpr ⟨lw_p18, List.forall_mem_cons.mpr ⟨lw_p19, List.forall_mem_cons.mpr ⟨lw_p20, List.forall_mem_cons.mpr ⟨lw_p21, List.forall_mem_cons.mpr ⟨lw_p22, List.forall_mem_cons.mpr ⟨lw_p23, List.forall_mem_cons.mpr ⟨lw_p24, List.forall_mem_cons.mpr ⟨lw_p25, List.forall_mem_cons.mpr ⟨lw_p26, List.forall_mem_cons.mpr ⟨lw_p27, List.forall_mem_cons.mpr ⟨lw_p28, List.forall_mem_cons.mpr ⟨lw_p29, List.forall_mem_cons.mpr ⟨lw_p30, List.forall_mem_cons.mpr ⟨lw_p31, fun _ h => absurd h List.not_mem_nil⟩⟩⟩⟩⟩⟩⟩⟩⟩⟩⟩⟩⟩⟩⟩⟩
theorem lw_p32 : lw_okq (⟨"PromiseDesk", "hears", "(LPromiseDesk$AsyncRun;LPromiseDesk$Job;)Z"⟩, 10) := ⟨⟨by decide +kernel, by decide +kernel⟩, List.mem_of_getElem? (i := 29) (by decide +kernel), List.mem_of_getElem? (i := 747) (by decide +kernel), List.mem_of_getElem? (i := 748) (by decide +kernel)⟩
theorem lw_p33 : lw_okq (⟨"PromiseDesk", "note", "(II)V"⟩, 10) := ⟨⟨by decide +kernel, by decide +kernel⟩, List.mem_of_getElem? (i := 29) (by decide +kernel), List.mem_of_getElem? (i := 755) (by decide +kernel), List.mem_of_getElem? (i := 756) (by decide +kernel)⟩
theorem lw_p34 : lw_okq (⟨"PromiseDesk", "callThen", "(LPromiseDesk$Thenable;LPromiseDesk$Resolvers;)V"⟩, 10) := ⟨⟨by decide +kernel, by decide +kernel⟩, List.mem_of_getElem? (i := 29) (by decide +kernel), List.mem_of_getElem? (i := 761) (by decide +kernel), List.mem_of_getElem? (i := 762) (by decide +kernel)⟩
theorem lw_p35 : lw_okq (⟨"PromiseDesk", "doAct", "(LPromiseDesk$Thenable;IILPromiseDesk$Resolvers;)V"⟩, 10) := ⟨⟨by decide +kernel, by decide +kernel⟩, List.mem_of_getElem? (i := 29) (by decide +kernel), List.mem_of_getElem? (i := 766) (by decide +kernel), List.mem_of_getElem? (i := 767) (by decide +kernel)⟩
theorem lw_p36 : lw_okq (⟨"PromiseDesk", "finish", "(LPromiseDesk$Resolvers;I)V"⟩, 10) := ⟨⟨by decide +kernel, by decide +kernel⟩, List.mem_of_getElem? (i := 29) (by decide +kernel), List.mem_of_getElem? (i := 787) (by decide +kernel), List.mem_of_getElem? (i := 788) (by decide +kernel)⟩
theorem lw_p37 : lw_okq (⟨"PromiseDesk", "requireThing", "(I)LPromiseDesk$Thing;"⟩, 10) := ⟨⟨by decide +kernel, by decide +kernel⟩, List.mem_of_getElem? (i := 29) (by decide +kernel), List.mem_of_getElem? (i := 812) (by decide +kernel), List.mem_of_getElem? (i := 813) (by decide +kernel)⟩
theorem lw_p38 : lw_okq (⟨"PromiseDesk", "requireParts", "(I)[I"⟩, 10) := ⟨⟨by decide +kernel, by decide +kernel⟩, List.mem_of_getElem? (i := 29) (by decide +kernel), List.mem_of_getElem? (i := 824) (by decide +kernel), List.mem_of_getElem? (i := 825) (by decide +kernel)⟩
theorem lw_p39 : lw_okq (⟨"PromiseDeskModel", "isFull", "(I)Z"⟩, 52) := ⟨⟨by decide +kernel, by decide +kernel⟩, List.mem_of_getElem? (i := 837) (by decide +kernel), List.mem_of_getElem? (i := 1009) (by decide +kernel), List.mem_of_getElem? (i := 1010) (by decide +kernel)⟩
theorem lw_p40 : lw_okq (⟨"PromiseDeskModel", "fails", "(I)I"⟩, 52) := ⟨⟨by decide +kernel, by decide +kernel⟩, List.mem_of_getElem? (i := 837) (by decide +kernel), List.mem_of_getElem? (i := 1013) (by decide +kernel), List.mem_of_getElem? (i := 1014) (by decide +kernel)⟩
theorem lw_p41 : lw_okq (⟨"PromiseDeskModel", "capability", "()I"⟩, 52) := ⟨⟨by decide +kernel, by decide +kernel⟩, List.mem_of_getElem? (i := 837) (by decide +kernel), List.mem_of_getElem? (i := 1017) (by decide +kernel), List.mem_of_getElem? (i := 1018) (by decide +kernel)⟩
theorem lw_p42 : lw_okq (⟨"PromiseDeskModel", "newObject", "(I)I"⟩, 52) := ⟨⟨by decide +kernel, by decide +kernel⟩, List.mem_of_getElem? (i := 837) (by decide +kernel), List.mem_of_getElem? (i := 1021) (by decide +kernel), List.mem_of_getElem? (i := 1022) (by decide +kernel)⟩
theorem lw_p43 : lw_okq (⟨"PromiseDeskModel", "record", "(I)I"⟩, 52) := ⟨⟨by decide +kernel, by decide +kernel⟩, List.mem_of_getElem? (i := 837) (by decide +kernel), List.mem_of_getElem? (i := 1025) (by decide +kernel), List.mem_of_getElem? (i := 1026) (by decide +kernel)⟩
theorem lw_p44 : lw_okq (⟨"PromiseDeskModel", "isValue", "(I)Z"⟩, 52) := ⟨⟨by decide +kernel, by decide +kernel⟩, List.mem_of_getElem? (i := 837) (by decide +kernel), List.mem_of_getElem? (i := 1036) (by decide +kernel), List.mem_of_getElem? (i := 1037) (by decide +kernel)⟩
theorem lw_p45 : lw_okq (⟨"PromiseDeskModel", "isObject", "(I)Z"⟩, 52) := ⟨⟨by decide +kernel, by decide +kernel⟩, List.mem_of_getElem? (i := 837) (by decide +kernel), List.mem_of_getElem? (i := 1040) (by decide +kernel), List.mem_of_getElem? (i := 1041) (by decide +kernel)⟩
theorem lw_p46 : lw_okq (⟨"PromiseDeskModel", "isKept", "(I)Z"⟩, 52) := ⟨⟨by decide +kernel, by decide +kernel⟩, List.mem_of_getElem? (i := 837) (by decide +kernel), List.mem_of_getElem? (i := 1044) (by decide +kernel), List.mem_of_getElem? (i := 1045) (by decide +kernel)⟩
theorem lw_p47 : lw_okq (⟨"PromiseDeskModel", "isKind", "(II)Z"⟩, 52) := ⟨⟨by decide +kernel, by decide +kernel⟩, List.mem_of_getElem? (i := 837) (by decide +kernel), List.mem_of_getElem? (i := 1048) (by decide +kernel), List.mem_of_getElem? (i := 1049) (by decide +kernel)⟩
def lw_privs_3 : List (MethodName × Nat) := [(⟨"PromiseDesk", "hears", "(LPromiseDesk$AsyncRun;LPromiseDesk$Job;)Z"⟩, 10), (⟨"PromiseDesk", "note", "(II)V"⟩, 10), (⟨"PromiseDesk", "callThen", "(LPromiseDesk$Thenable;LPromiseDesk$Resolvers;)V"⟩, 10), (⟨"PromiseDesk", "doAct", "(LPromiseDesk$Thenable;IILPromiseDesk$Resolvers;)V"⟩, 10), (⟨"PromiseDesk", "finish", "(LPromiseDesk$Resolvers;I)V"⟩, 10), (⟨"PromiseDesk", "requireThing", "(I)LPromiseDesk$Thing;"⟩, 10), (⟨"PromiseDesk", "requireParts", "(I)[I"⟩, 10), (⟨"PromiseDeskModel", "isFull", "(I)Z"⟩, 52), (⟨"PromiseDeskModel", "fails", "(I)I"⟩, 52), (⟨"PromiseDeskModel", "capability", "()I"⟩, 52), (⟨"PromiseDeskModel", "newObject", "(I)I"⟩, 52), (⟨"PromiseDeskModel", "record", "(I)I"⟩, 52), (⟨"PromiseDeskModel", "isValue", "(I)Z"⟩, 52), (⟨"PromiseDeskModel", "isObject", "(I)Z"⟩, 52), (⟨"PromiseDeskModel", "isKept", "(I)Z"⟩, 52), (⟨"PromiseDeskModel", "isKind", "(II)Z"⟩, 52)]
theorem lw_r3 : ∀ q ∈ lw_privs_3, lw_okq q := List.forall_mem_cons.mpr ⟨lw_p32, List.forall_mem_cons.mpr ⟨lw_p33, List.forall_mem_cons.mpr ⟨lw_p34, List.forall_mem_cons.mpr ⟨lw_p35, List.forall_mem_cons.mpr ⟨lw_p36, List.forall_mem_cons.mpr ⟨lw_p37, List.forall_mem_cons.mpr ⟨lw_p38, List.forall_mem_cons.mpr ⟨lw_p39, List.forall_mem_cons.mpr ⟨lw_p40, List.forall_mem_cons.mpr ⟨lw_p41, List.forall_mem_cons.mpr ⟨lw_p42, List.forall_mem_cons.mpr ⟨lw_p43, List.forall_mem_cons.mpr ⟨lw_p44, List.forall_mem_cons.mpr ⟨lw_p45, List.forall_mem_cons.mpr ⟨lw_p46, List.forall_mem_cons.mpr ⟨lw_p47, fun _ h => absurd h List.not_mem_nil⟩⟩⟩⟩⟩⟩⟩⟩⟩⟩⟩⟩⟩⟩⟩⟩
theorem lw_p48 : lw_okq (⟨"PromiseDeskModel", "reject", "(II)V"⟩, 52) := ⟨⟨by decide +kernel, by decide +kernel⟩, List.mem_of_getElem? (i := 837) (by decide +kernel), List.mem_of_getElem? (i := 1060) (by decide +kernel), List.mem_of_getElem? (i := 1061) (by decide +kernel)⟩
theorem lw_p49 : lw_okq (⟨"PromiseDeskModel", "settle", "(III)V"⟩, 52) := ⟨⟨by decide +kernel, by decide +kernel⟩, List.mem_of_getElem? (i := 837) (by decide +kernel), List.mem_of_getElem? (i := 1064) (by decide +kernel), List.mem_of_getElem? (i := 1065) (by decide +kernel)⟩
theorem lw_p50 : lw_okq (⟨"PromiseDeskModel", "react", "(III)V"⟩, 52) := ⟨⟨by decide +kernel, by decide +kernel⟩, List.mem_of_getElem? (i := 837) (by decide +kernel), List.mem_of_getElem? (i := 1068) (by decide +kernel), List.mem_of_getElem? (i := 1069) (by decide +kernel)⟩
theorem lw_p51 : lw_okq (⟨"PromiseDeskModel", "resolve", "(II)V"⟩, 52) := ⟨⟨by decide +kernel, by decide +kernel⟩, List.mem_of_getElem? (i := 837) (by decide +kernel), List.mem_of_getElem? (i := 1072) (by decide +kernel), List.mem_of_getElem? (i := 1073) (by decide +kernel)⟩
theorem lw_p52 : lw_okq (⟨"PromiseDeskModel", "isHandler", "(I)Z"⟩, 52) := ⟨⟨by decide +kernel, by decide +kernel⟩, List.mem_of_getElem? (i := 837) (by decide +kernel), List.mem_of_getElem? (i := 1084) (by decide +kernel), List.mem_of_getElem? (i := 1085) (by decide +kernel)⟩
theorem lw_p53 : lw_okq (⟨"PromiseDeskModel", "then", "(IIIII)I"⟩, 52) := ⟨⟨by decide +kernel, by decide +kernel⟩, List.mem_of_getElem? (i := 837) (by decide +kernel), List.mem_of_getElem? (i := 1088) (by decide +kernel), List.mem_of_getElem? (i := 1089) (by decide +kernel)⟩
theorem lw_p54 : lw_okq (⟨"PromiseDeskModel", "performThen", "(IIIIII)V"⟩, 52) := ⟨⟨by decide +kernel, by decide +kernel⟩, List.mem_of_getElem? (i := 837) (by decide +kernel), List.mem_of_getElem? (i := 1092) (by decide +kernel), List.mem_of_getElem? (i := 1093) (by decide +kernel)⟩
theorem lw_p55 : lw_okq (⟨"PromiseDeskModel", "promiseOf", "(I)I"⟩, 52) := ⟨⟨by decide +kernel, by decide +kernel⟩, List.mem_of_getElem? (i := 837) (by decide +kernel), List.mem_of_getElem? (i := 1104) (by decide +kernel), List.mem_of_getElem? (i := 1105) (by decide +kernel)⟩
theorem lw_p56 : lw_okq (⟨"PromiseDeskModel", "group", "()I"⟩, 52) := ⟨⟨by decide +kernel, by decide +kernel⟩, List.mem_of_getElem? (i := 837) (by decide +kernel), List.mem_of_getElem? (i := 1120) (by decide +kernel), List.mem_of_getElem? (i := 1121) (by decide +kernel)⟩
theorem lw_p57 : lw_okq (⟨"PromiseDeskModel", "finish", "(IZ)V"⟩, 52) := ⟨⟨by decide +kernel, by decide +kernel⟩, List.mem_of_getElem? (i := 837) (by decide +kernel), List.mem_of_getElem? (i := 1124) (by decide +kernel), List.mem_of_getElem? (i := 1125) (by decide +kernel)⟩
theorem lw_p58 : lw_okq (⟨"PromiseDeskModel", "array", "(II)I"⟩, 52) := ⟨⟨by decide +kernel, by decide +kernel⟩, List.mem_of_getElem? (i := 837) (by decide +kernel), List.mem_of_getElem? (i := 1128) (by decide +kernel), List.mem_of_getElem? (i := 1129) (by decide +kernel)⟩
theorem lw_p59 : lw_okq (⟨"PromiseDeskModel", "goOn", "(I)V"⟩, 52) := ⟨⟨by decide +kernel, by decide +kernel⟩, List.mem_of_getElem? (i := 837) (by decide +kernel), List.mem_of_getElem? (i := 1136) (by decide +kernel), List.mem_of_getElem? (i := 1137) (by decide +kernel)⟩
theorem lw_p60 : lw_okq (⟨"PromiseDeskModel", "job", "()V"⟩, 52) := ⟨⟨by decide +kernel, by decide +kernel⟩, List.mem_of_getElem? (i := 837) (by decide +kernel), List.mem_of_getElem? (i := 1144) (by decide +kernel), List.mem_of_getElem? (i := 1145) (by decide +kernel)⟩
theorem lw_p61 : lw_okq (⟨"PromiseDeskModel", "thenJob", "(II)V"⟩, 52) := ⟨⟨by decide +kernel, by decide +kernel⟩, List.mem_of_getElem? (i := 837) (by decide +kernel), List.mem_of_getElem? (i := 1148) (by decide +kernel), List.mem_of_getElem? (i := 1149) (by decide +kernel)⟩
theorem lw_p62 : lw_okq (⟨"PromiseDeskModel", "note", "(II)V"⟩, 52) := ⟨⟨by decide +kernel, by decide +kernel⟩, List.mem_of_getElem? (i := 837) (by decide +kernel), List.mem_of_getElem? (i := 1152) (by decide +kernel), List.mem_of_getElem? (i := 1153) (by decide +kernel)⟩
theorem lw_p63 : lw_okq (⟨"PromiseDeskModel", "does", "(IIII)Z"⟩, 52) := ⟨⟨by decide +kernel, by decide +kernel⟩, List.mem_of_getElem? (i := 837) (by decide +kernel), List.mem_of_getElem? (i := 1156) (by decide +kernel), List.mem_of_getElem? (i := 1157) (by decide +kernel)⟩
def lw_privs_4 : List (MethodName × Nat) := [(⟨"PromiseDeskModel", "reject", "(II)V"⟩, 52), (⟨"PromiseDeskModel", "settle", "(III)V"⟩, 52), (⟨"PromiseDeskModel", "react", "(III)V"⟩, 52), (⟨"PromiseDeskModel", "resolve", "(II)V"⟩, 52), (⟨"PromiseDeskModel", "isHandler", "(I)Z"⟩, 52), (⟨"PromiseDeskModel", "then", "(IIIII)I"⟩, 52), (⟨"PromiseDeskModel", "performThen", "(IIIIII)V"⟩, 52), (⟨"PromiseDeskModel", "promiseOf", "(I)I"⟩, 52), (⟨"PromiseDeskModel", "group", "()I"⟩, 52), (⟨"PromiseDeskModel", "finish", "(IZ)V"⟩, 52), (⟨"PromiseDeskModel", "array", "(II)I"⟩, 52), (⟨"PromiseDeskModel", "goOn", "(I)V"⟩, 52), (⟨"PromiseDeskModel", "job", "()V"⟩, 52), (⟨"PromiseDeskModel", "thenJob", "(II)V"⟩, 52), (⟨"PromiseDeskModel", "note", "(II)V"⟩, 52), (⟨"PromiseDeskModel", "does", "(IIII)Z"⟩, 52)]
theorem lw_r4 : ∀ q ∈ lw_privs_4, lw_okq q := List.forall_mem_cons.mpr ⟨lw_p48, List.forall_mem_cons.mpr ⟨lw_p49, List.forall_mem_cons.mpr ⟨lw_p50, List.forall_mem_cons.mpr ⟨lw_p51, List.forall_mem_cons.mpr ⟨lw_p52, List.forall_mem_cons.mpr ⟨lw_p53, List.forall_mem_cons.mpr ⟨lw_p54, List.forall_mem_cons.mpr ⟨lw_p55, List.forall_mem_cons.mpr ⟨lw_p56, List.forall_mem_cons.mpr ⟨lw_p57, List.forall_mem_cons.mpr ⟨lw_p58, List.forall_mem_cons.mpr ⟨lw_p59, List.forall_mem_cons.mpr ⟨lw_p60, List.forall_mem_cons.mpr ⟨lw_p61, List.forall_mem_cons.mpr ⟨lw_p62, List.forall_mem_cons.mpr ⟨lw_p63, fun _ h => absurd h List.not_mem_nil⟩⟩⟩⟩⟩⟩⟩⟩⟩⟩⟩⟩⟩⟩⟩⟩
theorem lw_p64 : lw_okq (⟨"PromiseDeskModel", "call", "(III)I"⟩, 52) := ⟨⟨by decide +kernel, by decide +kernel⟩, List.mem_of_getElem? (i := 837) (by decide +kernel), List.mem_of_getElem? (i := 1160) (by decide +kernel), List.mem_of_getElem? (i := 1161) (by decide +kernel)⟩
theorem lw_p65 : lw_okq (⟨"PromiseDeskModel", "handle", "(II)I"⟩, 52) := ⟨⟨by decide +kernel, by decide +kernel⟩, List.mem_of_getElem? (i := 837) (by decide +kernel), List.mem_of_getElem? (i := 1164) (by decide +kernel), List.mem_of_getElem? (i := 1165) (by decide +kernel)⟩
theorem lw_p66 : lw_okq (⟨"PromiseDeskModel", "element", "(III)V"⟩, 52) := ⟨⟨by decide +kernel, by decide +kernel⟩, List.mem_of_getElem? (i := 837) (by decide +kernel), List.mem_of_getElem? (i := 1168) (by decide +kernel), List.mem_of_getElem? (i := 1169) (by decide +kernel)⟩
theorem lw_p67 : lw_okq (⟨"PromiseDeskModel", "last", "(III)I"⟩, 52) := ⟨⟨by decide +kernel, by decide +kernel⟩, List.mem_of_getElem? (i := 837) (by decide +kernel), List.mem_of_getElem? (i := 1172) (by decide +kernel), List.mem_of_getElem? (i := 1173) (by decide +kernel)⟩
theorem lw_p68 : lw_okq (⟨"PromiseDeskModel", "resume", "(II)V"⟩, 52) := ⟨⟨by decide +kernel, by decide +kernel⟩, List.mem_of_getElem? (i := 837) (by decide +kernel), List.mem_of_getElem? (i := 1176) (by decide +kernel), List.mem_of_getElem? (i := 1177) (by decide +kernel)⟩
def lw_privs_5 : List (MethodName × Nat) := [(⟨"PromiseDeskModel", "call", "(III)I"⟩, 52), (⟨"PromiseDeskModel", "handle", "(II)I"⟩, 52), (⟨"PromiseDeskModel", "element", "(III)V"⟩, 52), (⟨"PromiseDeskModel", "last", "(III)I"⟩, 52), (⟨"PromiseDeskModel", "resume", "(II)V"⟩, 52)]
theorem lw_r5 : ∀ q ∈ lw_privs_5, lw_okq q := List.forall_mem_cons.mpr ⟨lw_p64, List.forall_mem_cons.mpr ⟨lw_p65, List.forall_mem_cons.mpr ⟨lw_p66, List.forall_mem_cons.mpr ⟨lw_p67, List.forall_mem_cons.mpr ⟨lw_p68, fun _ h => absurd h List.not_mem_nil⟩⟩⟩⟩⟩
def lw_privs : List (MethodName × Nat) := lw_privs_1 ++ (lw_privs_2 ++ (lw_privs_3 ++ (lw_privs_4 ++ (lw_privs_5))))
def lw_tbl : List Cond := k2_sels lw_privs ++ tables_1
theorem lw_privs_ok : ∀ q ∈ lw_privs, lw_okq q := by
  show ∀ q ∈ lw_privs_1 ++ (lw_privs_2 ++ (lw_privs_3 ++ (lw_privs_4 ++ (lw_privs_5)))), lw_okq q
  exact List.forall_mem_append.mpr ⟨lw_r1, List.forall_mem_append.mpr ⟨lw_r2, List.forall_mem_append.mpr ⟨lw_r3, List.forall_mem_append.mpr ⟨lw_r4, lw_r5⟩⟩⟩⟩
/-- the tables' words that stay good under every step -/
def Tw : List Cond := lw_tbl.filter goodWord
theorem Tw_in {w : Cond} (h : w ∈ tables_1) (g : goodWord w = true) : w ∈ Tw := List.mem_filter.mpr ⟨List.mem_append_right _ h, g⟩
theorem Tw_sel {w : Cond} (h : w ∈ k2_sels lw_privs) (g : goodWord w = true) : w ∈ Tw := List.mem_filter.mpr ⟨List.mem_append_left _ h, g⟩
theorem Tw_good {w : Cond} (h : w ∈ Tw) : (w.onTables && w.keeps) = true ∨ ∃ ty, w = .arrayClass ty := good_of_word (List.mem_filter.mp h).2
theorem Tw_1 {w : Cond} (h : w ∈ tables_1_1) (g : goodWord w = true) : w ∈ Tw := Tw_in (List.mem_append_left _ h) g
theorem Tw_2 {w : Cond} (h : w ∈ tables_1_2) (g : goodWord w = true) : w ∈ Tw := Tw_in (List.mem_append_right _ (List.mem_append_left _ h)) g
theorem Tw_3 {w : Cond} (h : w ∈ tables_1_3) (g : goodWord w = true) : w ∈ Tw := Tw_in (List.mem_append_right _ (List.mem_append_right _ (List.mem_append_left _ h))) g
theorem Tw_4 {w : Cond} (h : w ∈ tables_1_4) (g : goodWord w = true) : w ∈ Tw := Tw_in (List.mem_append_right _ (List.mem_append_right _ (List.mem_append_right _ (List.mem_append_left _ h)))) g
theorem Tw_5 {w : Cond} (h : w ∈ tables_1_5) (g : goodWord w = true) : w ∈ Tw := Tw_in (List.mem_append_right _ (List.mem_append_right _ (List.mem_append_right _ (List.mem_append_right _ (List.mem_append_left _ h))))) g
theorem Tw_6 {w : Cond} (h : w ∈ tables_1_6) (g : goodWord w = true) : w ∈ Tw := Tw_in (List.mem_append_right _ (List.mem_append_right _ (List.mem_append_right _ (List.mem_append_right _ (List.mem_append_right _ h))))) g
/-- a callee's words (its code, and the tables') among a caller's -/
theorem g_all {w0 k : Cond} (h5 : k ∈ Tw) : GoodIn (w0 :: Tw) (k :: Tw) := fun w h => (List.mem_cons.mp h).elim (fun e => by rw [e]; exact ⟨List.mem_cons_of_mem _ h5, Tw_good h5⟩) (fun h => ⟨List.mem_cons_of_mem _ h, Tw_good h⟩)
theorem g_V {w0 k : Cond} {own C : String} {idx : Nat} {y : MethodName} (h1 : Cond.methodLink own idx y ∈ Tw) (h2 : Cond.instanceMethod y ∈ Tw) (h3 : Cond.selects C y y ∈ Tw) (h4 : Cond.initialized C ∈ Tw) (h5 : k ∈ Tw) : GoodIn (w0 :: Tw) (wsV own idx C y (k :: Tw)) := by
  intro w h
  rcases List.mem_append.mp h with h | h
  · have hw : w ∈ Tw := by
      rcases List.mem_cons.mp h with e | h
      · rw [e]; exact h1
      rcases List.mem_cons.mp h with e | h
      · rw [e]; exact h2
      rcases List.mem_cons.mp h with e | h
      · rw [e]; exact h3
      rcases List.mem_cons.mp h with e | h
      · rw [e]; exact h4
      · cases h
    exact ⟨List.mem_cons_of_mem _ hw, Tw_good hw⟩
  · exact g_all h5 w h
theorem g_S {w0 k : Cond} {own : String} {idx : Nat} {y : MethodName} (h1 : Cond.methodLink own idx y ∈ Tw) (h2 : Cond.static y ∈ Tw) (h4 : Cond.initialized y.cls ∈ Tw) (h5 : k ∈ Tw) : GoodIn (w0 :: Tw) (va_wsS own idx y (k :: Tw)) := by
  intro w h
  rcases List.mem_append.mp h with h | h
  · have hw : w ∈ Tw := by
      rcases List.mem_cons.mp h with e | h
      · rw [e]; exact h1
      rcases List.mem_cons.mp h with e | h
      · rw [e]; exact h2
      rcases List.mem_cons.mp h with e | h
      · rw [e]; exact h4
      · cases h
    exact ⟨List.mem_cons_of_mem _ hw, Tw_good hw⟩
  · exact g_all h5 w h
end
section
def RX0 : String := "PromiseDesk$AsyncRun"
def TX0 : u_T := fun k => match k with
  | 0 => ("PromiseDesk$AsyncRun", "awaited", "[I", true)
  | 1 => ("PromiseDesk$AsyncRun", "handler", "LPromiseDesk$Simple;", true)
  | 2 => ("PromiseDesk$AsyncRun", "end", "I", true)
  | 3 => ("PromiseDesk$AsyncRun", "capability", "LPromiseDesk$Resolvers;", true)
  | _ => ("PromiseDesk$AsyncRun", "next", "I", false)
def tyX0 : Nat → FieldType := fun k => match k with
  | 0 => .array .int
  | 1 => .object "PromiseDesk$Simple"
  | 2 => .int
  | 3 => .object "PromiseDesk$Resolvers"
  | _ => .int
theorem nmX0 : ∀ a, a < 5 → ∀ b, b < 5 → a ≠ b → (TX0 a).2.1 ≠ (TX0 b).2.1 := by decide +kernel
theorem tyX0_ok : ∀ k, k < 5 → parseFieldDescriptor (TX0 k).2.2.1 = some (tyX0 k) := by decide +kernel
abbrev cX0_init : ByteArray := prog_2_method_1_code
def yX0_init : MethodName := ⟨RX0, "<init>", "([ILPromiseDesk$Simple;ILPromiseDesk$Resolvers;)V"⟩
def RX1 : String := "PromiseDesk$Combination"
def TX1 : u_T := fun k => match k with
  | 0 => ("PromiseDesk$Combination", "sort", "I", true)
  | 1 => ("PromiseDesk$Combination", "values", "[I", true)
  | 2 => ("PromiseDesk$Combination", "capability", "LPromiseDesk$Resolvers;", true)
  | _ => ("PromiseDesk$Combination", "remaining", "I", false)
def tyX1 : Nat → FieldType := fun k => match k with
  | 0 => .int
  | 1 => .array .int
  | 2 => .object "PromiseDesk$Resolvers"
  | _ => .int
theorem nmX1 : ∀ a, a < 4 → ∀ b, b < 4 → a ≠ b → (TX1 a).2.1 ≠ (TX1 b).2.1 := by decide +kernel
theorem tyX1_ok : ∀ k, k < 4 → parseFieldDescriptor (TX1 k).2.2.1 = some (tyX1 k) := by decide +kernel
abbrev cX1_init : ByteArray := prog_3_method_1_code
def yX1_init : MethodName := ⟨RX1, "<init>", "(IILPromiseDesk$Resolvers;)V"⟩
def RX2 : String := "PromiseDesk$Element"
def TX2 : u_T := fun k => match k with
  | 0 => ("PromiseDesk$Element", "combination", "LPromiseDesk$Combination;", true)
  | 1 => ("PromiseDesk$Element", "index", "I", true)
  | _ => ("PromiseDesk$Element", "rejects", "Z", true)
def tyX2 : Nat → FieldType := fun k => match k with
  | 0 => .object "PromiseDesk$Combination"
  | 1 => .int
  | _ => .boolean
theorem nmX2 : ∀ a, a < 3 → ∀ b, b < 3 → a ≠ b → (TX2 a).2.1 ≠ (TX2 b).2.1 := by decide +kernel
theorem tyX2_ok : ∀ k, k < 3 → parseFieldDescriptor (TX2 k).2.2.1 = some (tyX2 k) := by decide +kernel
abbrev cX2_init : ByteArray := prog_4_method_1_code
def yX2_init : MethodName := ⟨RX2, "<init>", "(LPromiseDesk$Combination;IZ)V"⟩
abbrev cX2_callIn : ByteArray := prog_4_method_2_code
def yX2_callIn : MethodName := ⟨RX2, "callIn", "(LPromiseDesk;I)I"⟩
def RX3 : String := "PromiseDesk$Function"
def TX3 : u_T := fun k => match k with
  | _ => ("", "", "", false)
def tyX3 : Nat → FieldType := fun k => match k with
  | _ => .int
theorem nmX3 : ∀ a, a < 0 → ∀ b, b < 0 → a ≠ b → (TX3 a).2.1 ≠ (TX3 b).2.1 := by decide +kernel
theorem tyX3_ok : ∀ k, k < 0 → parseFieldDescriptor (TX3 k).2.2.1 = some (tyX3 k) := by decide +kernel
abbrev cX3_init : ByteArray := prog_5_method_1_code
def yX3_init : MethodName := ⟨RX3, "<init>", "()V"⟩
def RX4 : String := "PromiseDesk$Job"
def TX4 : u_T := fun k => match k with
  | 0 => ("PromiseDesk$Job", "yes", "LPromiseDesk$Function;", true)
  | 1 => ("PromiseDesk$Job", "no", "LPromiseDesk$Function;", true)
  | 2 => ("PromiseDesk$Job", "capability", "LPromiseDesk$Resolvers;", true)
  | 3 => ("PromiseDesk$Job", "run", "LPromiseDesk$AsyncRun;", true)
  | 4 => ("PromiseDesk$Job", "followed", "LPromiseDesk$Thing;", true)
  | 5 => ("PromiseDesk$Job", "rejects", "Z", false)
  | 6 => ("PromiseDesk$Job", "argument", "I", false)
  | _ => ("PromiseDesk$Job", "next", "LPromiseDesk$Job;", false)
def tyX4 : Nat → FieldType := fun k => match k with
  | 0 => .object "PromiseDesk$Function"
  | 1 => .object "PromiseDesk$Function"
  | 2 => .object "PromiseDesk$Resolvers"
  | 3 => .object "PromiseDesk$AsyncRun"
  | 4 => .object "PromiseDesk$Thing"
  | 5 => .boolean
  | 6 => .int
  | _ => .object "PromiseDesk$Job"
theorem nmX4 : ∀ a, a < 8 → ∀ b, b < 8 → a ≠ b → (TX4 a).2.1 ≠ (TX4 b).2.1 := by decide +kernel
theorem tyX4_ok : ∀ k, k < 8 → parseFieldDescriptor (TX4 k).2.2.1 = some (tyX4 k) := by decide +kernel
abbrev cX4_init : ByteArray := prog_6_method_1_code
def yX4_init : MethodName := ⟨RX4, "<init>", "(LPromiseDesk$Function;LPromiseDesk$Function;LPromiseDesk$Resolvers;LPromiseDesk$AsyncRun;LPromiseDesk$Thing;)V"⟩
abbrev cX4_reaction : ByteArray := prog_6_method_2_code
def yX4_reaction : MethodName := ⟨RX4, "reaction", "(LPromiseDesk$Function;LPromiseDesk$Function;LPromiseDesk$Resolvers;)LPromiseDesk$Job;"⟩
abbrev cX4_resumption : ByteArray := prog_6_method_3_code
def yX4_resumption : MethodName := ⟨RX4, "resumption", "(LPromiseDesk$AsyncRun;)LPromiseDesk$Job;"⟩
abbrev cX4_follow : ByteArray := prog_6_method_4_code
def yX4_follow : MethodName := ⟨RX4, "follow", "(LPromiseDesk$Thing;LPromiseDesk$Promise;)LPromiseDesk$Job;"⟩
abbrev cX4_hear : ByteArray := prog_6_method_5_code
def yX4_hear : MethodName := ⟨RX4, "hear", "(ZI)V"⟩
def RX5 : String := "PromiseDesk$Lastly"
def TX5 : u_T := fun k => match k with
  | 0 => ("PromiseDesk$Lastly", "handler", "LPromiseDesk$Simple;", true)
  | _ => ("PromiseDesk$Lastly", "actBehind", "I", true)
def tyX5 : Nat → FieldType := fun k => match k with
  | 0 => .object "PromiseDesk$Simple"
  | _ => .int
theorem nmX5 : ∀ a, a < 2 → ∀ b, b < 2 → a ≠ b → (TX5 a).2.1 ≠ (TX5 b).2.1 := by decide +kernel
theorem tyX5_ok : ∀ k, k < 2 → parseFieldDescriptor (TX5 k).2.2.1 = some (tyX5 k) := by decide +kernel
abbrev cX5_init : ByteArray := prog_7_method_1_code
def yX5_init : MethodName := ⟨RX5, "<init>", "(LPromiseDesk$Simple;I)V"⟩
abbrev cX5_callIn : ByteArray := prog_7_method_2_code
def yX5_callIn : MethodName := ⟨RX5, "callIn", "(LPromiseDesk;I)I"⟩
def RX6 : String := "PromiseDesk$Promise"
def TX6 : u_T := fun k => match k with
  | 0 => ("PromiseDesk$Thing", "value", "I", true)
  | 1 => ("PromiseDesk$Thing", "kind", "I", true)
  | 2 => ("PromiseDesk$Thing", "parts", "[I", true)
  | 3 => ("PromiseDesk$Promise", "state", "I", false)
  | 4 => ("PromiseDesk$Promise", "result", "I", false)
  | 5 => ("PromiseDesk$Promise", "handled", "Z", false)
  | 6 => ("PromiseDesk$Promise", "kept", "LPromiseDesk$Resolvers;", false)
  | 7 => ("PromiseDesk$Promise", "firstWaiting", "LPromiseDesk$Job;", false)
  | _ => ("PromiseDesk$Promise", "lastWaiting", "LPromiseDesk$Job;", false)
def tyX6 : Nat → FieldType := fun k => match k with
  | 0 => .int
  | 1 => .int
  | 2 => .array .int
  | 3 => .int
  | 4 => .int
  | 5 => .boolean
  | 6 => .object "PromiseDesk$Resolvers"
  | 7 => .object "PromiseDesk$Job"
  | _ => .object "PromiseDesk$Job"
theorem nmX6 : ∀ a, a < 9 → ∀ b, b < 9 → a ≠ b → (TX6 a).2.1 ≠ (TX6 b).2.1 := by decide +kernel
theorem tyX6_ok : ∀ k, k < 9 → parseFieldDescriptor (TX6 k).2.2.1 = some (tyX6 k) := by decide +kernel
abbrev cX6_init : ByteArray := prog_8_method_1_code
def yX6_init : MethodName := ⟨RX6, "<init>", "(I)V"⟩
def RX7 : String := "PromiseDesk$Resolvers"
def TX7 : u_T := fun k => match k with
  | 0 => ("PromiseDesk$Resolvers", "promise", "LPromiseDesk$Promise;", true)
  | _ => ("PromiseDesk$Resolvers", "called", "Z", false)
def tyX7 : Nat → FieldType := fun k => match k with
  | 0 => .object "PromiseDesk$Promise"
  | _ => .boolean
theorem nmX7 : ∀ a, a < 2 → ∀ b, b < 2 → a ≠ b → (TX7 a).2.1 ≠ (TX7 b).2.1 := by decide +kernel
theorem tyX7_ok : ∀ k, k < 2 → parseFieldDescriptor (TX7 k).2.2.1 = some (tyX7 k) := by decide +kernel
abbrev cX7_init : ByteArray := prog_9_method_1_code
def yX7_init : MethodName := ⟨RX7, "<init>", "(LPromiseDesk$Promise;)V"⟩
def RX8 : String := "PromiseDesk$Simple"
def TX8 : u_T := fun k => match k with
  | 0 => ("PromiseDesk$Simple", "number", "I", true)
  | 1 => ("PromiseDesk$Simple", "act", "I", true)
  | 2 => ("PromiseDesk$Simple", "value", "I", true)
  | _ => ("PromiseDesk$Simple", "target", "LPromiseDesk$Resolvers;", true)
def tyX8 : Nat → FieldType := fun k => match k with
  | 0 => .int
  | 1 => .int
  | 2 => .int
  | _ => .object "PromiseDesk$Resolvers"
theorem nmX8 : ∀ a, a < 4 → ∀ b, b < 4 → a ≠ b → (TX8 a).2.1 ≠ (TX8 b).2.1 := by decide +kernel
theorem tyX8_ok : ∀ k, k < 4 → parseFieldDescriptor (TX8 k).2.2.1 = some (tyX8 k) := by decide +kernel
abbrev cX8_init : ByteArray := prog_10_method_1_code
def yX8_init : MethodName := ⟨RX8, "<init>", "(IIILPromiseDesk$Resolvers;)V"⟩
abbrev cX8_resolving : ByteArray := prog_10_method_2_code
def yX8_resolving : MethodName := ⟨RX8, "resolving", "(LPromiseDesk$Resolvers;)LPromiseDesk$Simple;"⟩
abbrev cX8_rejecting : ByteArray := prog_10_method_3_code
def yX8_rejecting : MethodName := ⟨RX8, "rejecting", "(LPromiseDesk$Resolvers;)LPromiseDesk$Simple;"⟩
abbrev cX8_callIn : ByteArray := prog_10_method_4_code
def yX8_callIn : MethodName := ⟨RX8, "callIn", "(LPromiseDesk;I)I"⟩
def RX9 : String := "PromiseDesk$Thenable"
def TX9 : u_T := fun k => match k with
  | 0 => ("PromiseDesk$Thing", "value", "I", true)
  | 1 => ("PromiseDesk$Thing", "kind", "I", true)
  | 2 => ("PromiseDesk$Thing", "parts", "[I", true)
  | 3 => ("PromiseDesk$Thenable", "what", "I", true)
  | 4 => ("PromiseDesk$Thenable", "firstAct", "I", false)
  | 5 => ("PromiseDesk$Thenable", "firstValue", "I", false)
  | 6 => ("PromiseDesk$Thenable", "secondAct", "I", false)
  | 7 => ("PromiseDesk$Thenable", "secondValue", "I", false)
  | _ => ("PromiseDesk$Thenable", "kept", "LPromiseDesk$Resolvers;", false)
def tyX9 : Nat → FieldType := fun k => match k with
  | 0 => .int
  | 1 => .int
  | 2 => .array .int
  | 3 => .int
  | 4 => .int
  | 5 => .int
  | 6 => .int
  | 7 => .int
  | _ => .object "PromiseDesk$Resolvers"
theorem nmX9 : ∀ a, a < 9 → ∀ b, b < 9 → a ≠ b → (TX9 a).2.1 ≠ (TX9 b).2.1 := by decide +kernel
theorem tyX9_ok : ∀ k, k < 9 → parseFieldDescriptor (TX9 k).2.2.1 = some (tyX9 k) := by decide +kernel
abbrev cX9_init : ByteArray := prog_11_method_1_code
def yX9_init : MethodName := ⟨RX9, "<init>", "(II)V"⟩
def RX10 : String := "PromiseDesk$Thing"
def TX10 : u_T := fun k => match k with
  | 0 => ("PromiseDesk$Thing", "value", "I", true)
  | 1 => ("PromiseDesk$Thing", "kind", "I", true)
  | _ => ("PromiseDesk$Thing", "parts", "[I", true)
def tyX10 : Nat → FieldType := fun k => match k with
  | 0 => .int
  | 1 => .int
  | _ => .array .int
theorem nmX10 : ∀ a, a < 3 → ∀ b, b < 3 → a ≠ b → (TX10 a).2.1 ≠ (TX10 b).2.1 := by decide +kernel
theorem tyX10_ok : ∀ k, k < 3 → parseFieldDescriptor (TX10 k).2.2.1 = some (tyX10 k) := by decide +kernel
abbrev cX10_init : ByteArray := prog_12_method_1_code
def yX10_init : MethodName := ⟨RX10, "<init>", "(II[I)V"⟩
def RX11 : String := "PromiseDesk"
def TX11 : u_T := fun k => match k with
  | 0 => ("PromiseDesk", "things", "Ljava/util/ArrayList;", true)
  | 1 => ("PromiseDesk", "handlers", "Ljava/util/ArrayList;", true)
  | 2 => ("PromiseDesk", "items", "[I", true)
  | 3 => ("PromiseDesk", "itemCount", "I", false)
  | 4 => ("PromiseDesk", "pairs", "[I", false)
  | 5 => ("PromiseDesk", "pairCount", "I", false)
  | 6 => ("PromiseDesk", "firstJob", "LPromiseDesk$Job;", false)
  | 7 => ("PromiseDesk", "lastJob", "LPromiseDesk$Job;", false)
  | 8 => ("PromiseDesk", "jobCount", "I", false)
  | _ => ("PromiseDesk", "threw", "Z", false)
def tyX11 : Nat → FieldType := fun k => match k with
  | 0 => .object "java/util/ArrayList"
  | 1 => .object "java/util/ArrayList"
  | 2 => .array .int
  | 3 => .int
  | 4 => .array .int
  | 5 => .int
  | 6 => .object "PromiseDesk$Job"
  | 7 => .object "PromiseDesk$Job"
  | 8 => .int
  | _ => .boolean
theorem nmX11 : ∀ a, a < 10 → ∀ b, b < 10 → a ≠ b → (TX11 a).2.1 ≠ (TX11 b).2.1 := by decide +kernel
theorem tyX11_ok : ∀ k, k < 10 → parseFieldDescriptor (TX11 k).2.2.1 = some (tyX11 k) := by decide +kernel
abbrev cX11_init : ByteArray := prog_1_method_1_code
def yX11_init : MethodName := ⟨RX11, "<init>", "()V"⟩
abbrev cX11_promise : ByteArray := prog_1_method_2_code
def yX11_promise : MethodName := ⟨RX11, "promise", "()I"⟩
abbrev cX11_handler : ByteArray := prog_1_method_3_code
def yX11_handler : MethodName := ⟨RX11, "handler", "(II)I"⟩
abbrev cX11_thenable : ByteArray := prog_1_method_4_code
def yX11_thenable : MethodName := ⟨RX11, "thenable", "(IIIII)I"⟩
abbrev cX11_settle : ByteArray := prog_1_method_5_code
def yX11_settle : MethodName := ⟨RX11, "settle", "(IZI)Z"⟩
abbrev cX11_later : ByteArray := prog_1_method_6_code
def yX11_later : MethodName := ⟨RX11, "later", "(IZI)I"⟩
abbrev cX11_then : ByteArray := prog_1_method_7_code
def yX11_then : MethodName := ⟨RX11, "then", "(IIIZ)I"⟩
abbrev cX11_lastly : ByteArray := prog_1_method_8_code
def yX11_lastly : MethodName := ⟨RX11, "lastly", "(II)I"⟩
abbrev cX11_wrap : ByteArray := prog_1_method_9_code
def yX11_wrap : MethodName := ⟨RX11, "wrap", "(I)I"⟩
abbrev cX11_broken : ByteArray := prog_1_method_10_code
def yX11_broken : MethodName := ⟨RX11, "broken", "(I)I"⟩
abbrev cX11_item : ByteArray := prog_1_method_11_code
def yX11_item : MethodName := ⟨RX11, "item", "(I)I"⟩
abbrev cX11_combine : ByteArray := prog_1_method_12_code
def yX11_combine : MethodName := ⟨RX11, "combine", "(I)I"⟩
abbrev cX11_async : ByteArray := prog_1_method_13_code
def yX11_async : MethodName := ⟨RX11, "async", "(II)I"⟩
abbrev cX11_jobs : ByteArray := prog_1_method_14_code
def yX11_jobs : MethodName := ⟨RX11, "jobs", "(I)I"⟩
abbrev cX11_state : ByteArray := prog_1_method_15_code
def yX11_state : MethodName := ⟨RX11, "state", "(I)I"⟩
abbrev cX11_result : ByteArray := prog_1_method_16_code
def yX11_result : MethodName := ⟨RX11, "result", "(I)I"⟩
abbrev cX11_kind : ByteArray := prog_1_method_17_code
def yX11_kind : MethodName := ⟨RX11, "kind", "(I)I"⟩
abbrev cX11_part : ByteArray := prog_1_method_18_code
def yX11_part : MethodName := ⟨RX11, "part", "(II)I"⟩
abbrev cX11_log : ByteArray := prog_1_method_19_code
def yX11_log : MethodName := ⟨RX11, "log", "(IZ)I"⟩
abbrev cX11_count : ByteArray := prog_1_method_20_code
def yX11_count : MethodName := ⟨RX11, "count", "(I)I"⟩
abbrev cX11_requireRange : ByteArray := prog_1_method_21_code
def yX11_requireRange : MethodName := ⟨RX11, "requireRange", "(III)V"⟩
abbrev cX11_requireValue : ByteArray := prog_1_method_22_code
def yX11_requireValue : MethodName := ⟨RX11, "requireValue", "(I)V"⟩
abbrev cX11_requireThing : ByteArray := prog_1_method_23_code
def yX11_requireThing : MethodName := ⟨RX11, "requireThing", "(I)LPromiseDesk$Thing;"⟩
abbrev cX11_requirePromise : ByteArray := prog_1_method_24_code
def yX11_requirePromise : MethodName := ⟨RX11, "requirePromise", "(I)LPromiseDesk$Promise;"⟩
abbrev cX11_requireThenable : ByteArray := prog_1_method_25_code
def yX11_requireThenable : MethodName := ⟨RX11, "requireThenable", "(I)LPromiseDesk$Thenable;"⟩
abbrev cX11_requireKept : ByteArray := prog_1_method_26_code
def yX11_requireKept : MethodName := ⟨RX11, "requireKept", "(I)LPromiseDesk$Resolvers;"⟩
abbrev cX11_requireHandler : ByteArray := prog_1_method_27_code
def yX11_requireHandler : MethodName := ⟨RX11, "requireHandler", "(I)LPromiseDesk$Simple;"⟩
abbrev cX11_requireParts : ByteArray := prog_1_method_28_code
def yX11_requireParts : MethodName := ⟨RX11, "requireParts", "(I)[I"⟩
abbrev cX11_requireRoom : ByteArray := prog_1_method_29_code
def yX11_requireRoom : MethodName := ⟨RX11, "requireRoom", "(I)V"⟩
abbrev cX11_requireRoomInLog : ByteArray := prog_1_method_30_code
def yX11_requireRoomInLog : MethodName := ⟨RX11, "requireRoomInLog", "()V"⟩
abbrev cX11_thingOf : ByteArray := prog_1_method_31_code
def yX11_thingOf : MethodName := ⟨RX11, "thingOf", "(I)LPromiseDesk$Thing;"⟩
abbrev cX11_nextValue : ByteArray := prog_1_method_32_code
def yX11_nextValue : MethodName := ⟨RX11, "nextValue", "()I"⟩
abbrev cX11_newThing : ByteArray := prog_1_method_33_code
def yX11_newThing : MethodName := ⟨RX11, "newThing", "(I[I)I"⟩
abbrev cX11_newPromise : ByteArray := prog_1_method_34_code
def yX11_newPromise : MethodName := ⟨RX11, "newPromise", "()LPromiseDesk$Resolvers;"⟩
abbrev cX11_note : ByteArray := prog_1_method_35_code
def yX11_note : MethodName := ⟨RX11, "note", "(II)V"⟩
abbrev cX11_takeList : ByteArray := prog_1_method_36_code
def yX11_takeList : MethodName := ⟨RX11, "takeList", "()[I"⟩
abbrev cX11_enqueue : ByteArray := prog_1_method_37_code
def yX11_enqueue : MethodName := ⟨RX11, "enqueue", "(LPromiseDesk$Job;)V"⟩
abbrev cX11_dequeue : ByteArray := prog_1_method_38_code
def yX11_dequeue : MethodName := ⟨RX11, "dequeue", "(LPromiseDesk$Job;)V"⟩
abbrev cX11_callOneOf : ByteArray := prog_1_method_39_code
def yX11_callOneOf : MethodName := ⟨RX11, "callOneOf", "(LPromiseDesk$Resolvers;ZI)Z"⟩
abbrev cX11_resolve : ByteArray := prog_1_method_40_code
def yX11_resolve : MethodName := ⟨RX11, "resolve", "(LPromiseDesk$Resolvers;I)V"⟩
abbrev cX11_hasThenFunction : ByteArray := prog_1_method_41_code
def yX11_hasThenFunction : MethodName := ⟨RX11, "hasThenFunction", "(LPromiseDesk$Thing;)Z"⟩
abbrev cX11_reject : ByteArray := prog_1_method_42_code
def yX11_reject : MethodName := ⟨RX11, "reject", "(LPromiseDesk$Resolvers;I)V"⟩
abbrev cX11_close : ByteArray := prog_1_method_43_code
def yX11_close : MethodName := ⟨RX11, "close", "(LPromiseDesk$Promise;II)V"⟩
abbrev cX11_promiseFor : ByteArray := prog_1_method_44_code
def yX11_promiseFor : MethodName := ⟨RX11, "promiseFor", "(I)LPromiseDesk$Promise;"⟩
abbrev cX11_derive : ByteArray := prog_1_method_45_code
def yX11_derive : MethodName := ⟨RX11, "derive", "(LPromiseDesk$Promise;LPromiseDesk$Function;LPromiseDesk$Function;)I"⟩
abbrev cX11_attach : ByteArray := prog_1_method_46_code
def yX11_attach : MethodName := ⟨RX11, "attach", "(LPromiseDesk$Promise;LPromiseDesk$Job;)V"⟩
abbrev cX11_doJob : ByteArray := prog_1_method_47_code
def yX11_doJob : MethodName := ⟨RX11, "doJob", "(LPromiseDesk$Job;)V"⟩
abbrev cX11_finish : ByteArray := prog_1_method_48_code
def yX11_finish : MethodName := ⟨RX11, "finish", "(LPromiseDesk$Resolvers;I)V"⟩
abbrev cX11_hears : ByteArray := prog_1_method_49_code
def yX11_hears : MethodName := ⟨RX11, "hears", "(LPromiseDesk$AsyncRun;LPromiseDesk$Job;)Z"⟩
abbrev cX11_advance : ByteArray := prog_1_method_50_code
def yX11_advance : MethodName := ⟨RX11, "advance", "(LPromiseDesk$AsyncRun;)V"⟩
abbrev cX11_callThen : ByteArray := prog_1_method_51_code
def yX11_callThen : MethodName := ⟨RX11, "callThen", "(LPromiseDesk$Thenable;LPromiseDesk$Resolvers;)V"⟩
abbrev cX11_doAct : ByteArray := prog_1_method_52_code
def yX11_doAct : MethodName := ⟨RX11, "doAct", "(LPromiseDesk$Thenable;IILPromiseDesk$Resolvers;)V"⟩
abbrev cX11_onFulfilled : ByteArray := prog_1_method_53_code
def yX11_onFulfilled : MethodName := ⟨RX11, "onFulfilled", "(LPromiseDesk$Combination;I)LPromiseDesk$Function;"⟩
abbrev cX11_onRejected : ByteArray := prog_1_method_54_code
def yX11_onRejected : MethodName := ⟨RX11, "onRejected", "(LPromiseDesk$Combination;I)LPromiseDesk$Function;"⟩
abbrev cX11_complete : ByteArray := prog_1_method_55_code
def yX11_complete : MethodName := ⟨RX11, "complete", "(LPromiseDesk$Combination;)V"⟩
def RX12 : String := "PromiseDeskModel"
def TX12 : u_T := fun k => match k with
  | 0 => ("PromiseDeskModel", "thrown", "I", false)
  | 1 => ("PromiseDeskModel", "objects", "I", false)
  | 2 => ("PromiseDeskModel", "kind", "[I", true)
  | 3 => ("PromiseDeskModel", "state", "[I", true)
  | 4 => ("PromiseDeskModel", "result", "[I", true)
  | 5 => ("PromiseDeskModel", "reactions", "[I", true)
  | 6 => ("PromiseDeskModel", "kept", "[I", true)
  | 7 => ("PromiseDeskModel", "handled", "[Z", true)
  | 8 => ("PromiseDeskModel", "dataA", "[I", true)
  | 9 => ("PromiseDeskModel", "dataB", "[I", true)
  | 10 => ("PromiseDeskModel", "dataC", "[I", true)
  | 11 => ("PromiseDeskModel", "dataD", "[I", true)
  | 12 => ("PromiseDeskModel", "dataE", "[I", true)
  | 13 => ("PromiseDeskModel", "recordPromise", "[I", true)
  | 14 => ("PromiseDeskModel", "recordDone", "[Z", true)
  | 15 => ("PromiseDeskModel", "records", "I", false)
  | 16 => ("PromiseDeskModel", "reactionNext", "[I", true)
  | 17 => ("PromiseDeskModel", "reactionTo", "[I", true)
  | 18 => ("PromiseDeskModel", "yesKind", "[I", true)
  | 19 => ("PromiseDeskModel", "yesOf", "[I", true)
  | 20 => ("PromiseDeskModel", "noKind", "[I", true)
  | 21 => ("PromiseDeskModel", "noOf", "[I", true)
  | 22 => ("PromiseDeskModel", "reactionMany", "I", false)
  | 23 => ("PromiseDeskModel", "jobKind", "[I", true)
  | 24 => ("PromiseDeskModel", "jobOf", "[I", true)
  | 25 => ("PromiseDeskModel", "jobTo", "[I", true)
  | 26 => ("PromiseDeskModel", "jobArgument", "[I", true)
  | 27 => ("PromiseDeskModel", "jobRejects", "[Z", true)
  | 28 => ("PromiseDeskModel", "jobThen", "[Z", true)
  | 29 => ("PromiseDeskModel", "jobFirst", "I", false)
  | 30 => ("PromiseDeskModel", "jobEnd", "I", false)
  | 31 => ("PromiseDeskModel", "act", "[I", true)
  | 32 => ("PromiseDeskModel", "actValue", "[I", true)
  | 33 => ("PromiseDeskModel", "handlers", "I", false)
  | 34 => ("PromiseDeskModel", "logWho", "[I", true)
  | 35 => ("PromiseDeskModel", "logWhat", "[I", true)
  | 36 => ("PromiseDeskModel", "logs", "I", false)
  | 37 => ("PromiseDeskModel", "list", "[I", true)
  | 38 => ("PromiseDeskModel", "listed", "I", false)
  | 39 => ("PromiseDeskModel", "value", "[I", true)
  | 40 => ("PromiseDeskModel", "elementOf", "[I", true)
  | 41 => ("PromiseDeskModel", "elementDone", "[Z", true)
  | 42 => ("PromiseDeskModel", "values", "I", false)
  | 43 => ("PromiseDeskModel", "from", "[I", true)
  | 44 => ("PromiseDeskModel", "many", "[I", true)
  | 45 => ("PromiseDeskModel", "left", "[I", true)
  | 46 => ("PromiseDeskModel", "to", "[I", true)
  | 47 => ("PromiseDeskModel", "end", "[I", true)
  | 48 => ("PromiseDeskModel", "calls", "[I", true)
  | 49 => ("PromiseDeskModel", "at", "[I", true)
  | 50 => ("PromiseDeskModel", "groups", "I", false)
  | _ => ("PromiseDeskModel", "threw", "Z", false)
def tyX12 : Nat → FieldType := fun k => match k with
  | 0 => .int
  | 1 => .int
  | 2 => .array .int
  | 3 => .array .int
  | 4 => .array .int
  | 5 => .array .int
  | 6 => .array .int
  | 7 => .array .boolean
  | 8 => .array .int
  | 9 => .array .int
  | 10 => .array .int
  | 11 => .array .int
  | 12 => .array .int
  | 13 => .array .int
  | 14 => .array .boolean
  | 15 => .int
  | 16 => .array .int
  | 17 => .array .int
  | 18 => .array .int
  | 19 => .array .int
  | 20 => .array .int
  | 21 => .array .int
  | 22 => .int
  | 23 => .array .int
  | 24 => .array .int
  | 25 => .array .int
  | 26 => .array .int
  | 27 => .array .boolean
  | 28 => .array .boolean
  | 29 => .int
  | 30 => .int
  | 31 => .array .int
  | 32 => .array .int
  | 33 => .int
  | 34 => .array .int
  | 35 => .array .int
  | 36 => .int
  | 37 => .array .int
  | 38 => .int
  | 39 => .array .int
  | 40 => .array .int
  | 41 => .array .boolean
  | 42 => .int
  | 43 => .array .int
  | 44 => .array .int
  | 45 => .array .int
  | 46 => .array .int
  | 47 => .array .int
  | 48 => .array .int
  | 49 => .array .int
  | 50 => .int
  | _ => .boolean
theorem nmX12 : ∀ a, a < 52 → ∀ b, b < 52 → a ≠ b → (TX12 a).2.1 ≠ (TX12 b).2.1 := by decide +kernel
theorem tyX12_ok : ∀ k, k < 52 → parseFieldDescriptor (TX12 k).2.2.1 = some (tyX12 k) := by decide +kernel
abbrev cX12_init : ByteArray := prog_14_method_1_code
def yX12_init : MethodName := ⟨RX12, "<init>", "()V"⟩
abbrev cX12_thrown : ByteArray := prog_14_method_2_code
def yX12_thrown : MethodName := ⟨RX12, "thrown", "()I"⟩
abbrev cX12_fails : ByteArray := prog_14_method_3_code
def yX12_fails : MethodName := ⟨RX12, "fails", "(I)I"⟩
abbrev cX12_valueOf : ByteArray := prog_14_method_4_code
def yX12_valueOf : MethodName := ⟨RX12, "valueOf", "(I)I"⟩
abbrev cX12_isObject : ByteArray := prog_14_method_5_code
def yX12_isObject : MethodName := ⟨RX12, "isObject", "(I)Z"⟩
abbrev cX12_isValue : ByteArray := prog_14_method_6_code
def yX12_isValue : MethodName := ⟨RX12, "isValue", "(I)Z"⟩
abbrev cX12_isKind : ByteArray := prog_14_method_7_code
def yX12_isKind : MethodName := ⟨RX12, "isKind", "(II)Z"⟩
abbrev cX12_isHandler : ByteArray := prog_14_method_8_code
def yX12_isHandler : MethodName := ⟨RX12, "isHandler", "(I)Z"⟩
abbrev cX12_isFull : ByteArray := prog_14_method_9_code
def yX12_isFull : MethodName := ⟨RX12, "isFull", "(I)Z"⟩
abbrev cX12_newObject : ByteArray := prog_14_method_10_code
def yX12_newObject : MethodName := ⟨RX12, "newObject", "(I)I"⟩
abbrev cX12_record : ByteArray := prog_14_method_11_code
def yX12_record : MethodName := ⟨RX12, "record", "(I)I"⟩
abbrev cX12_capability : ByteArray := prog_14_method_12_code
def yX12_capability : MethodName := ⟨RX12, "capability", "()I"⟩
abbrev cX12_resolve : ByteArray := prog_14_method_13_code
def yX12_resolve : MethodName := ⟨RX12, "resolve", "(II)V"⟩
abbrev cX12_reject : ByteArray := prog_14_method_14_code
def yX12_reject : MethodName := ⟨RX12, "reject", "(II)V"⟩
abbrev cX12_settle : ByteArray := prog_14_method_15_code
def yX12_settle : MethodName := ⟨RX12, "settle", "(III)V"⟩
abbrev cX12_react : ByteArray := prog_14_method_16_code
def yX12_react : MethodName := ⟨RX12, "react", "(III)V"⟩
abbrev cX12_performThen : ByteArray := prog_14_method_17_code
def yX12_performThen : MethodName := ⟨RX12, "performThen", "(IIIIII)V"⟩
abbrev cX12_then : ByteArray := prog_14_method_18_code
def yX12_then : MethodName := ⟨RX12, "then", "(IIIII)I"⟩
abbrev cX12_promiseOf : ByteArray := prog_14_method_19_code
def yX12_promiseOf : MethodName := ⟨RX12, "promiseOf", "(I)I"⟩
abbrev cX12_note : ByteArray := prog_14_method_20_code
def yX12_note : MethodName := ⟨RX12, "note", "(II)V"⟩
abbrev cX12_handle : ByteArray := prog_14_method_21_code
def yX12_handle : MethodName := ⟨RX12, "handle", "(II)I"⟩
abbrev cX12_call : ByteArray := prog_14_method_22_code
def yX12_call : MethodName := ⟨RX12, "call", "(III)I"⟩
abbrev cX12_last : ByteArray := prog_14_method_23_code
def yX12_last : MethodName := ⟨RX12, "last", "(III)I"⟩
abbrev cX12_array : ByteArray := prog_14_method_24_code
def yX12_array : MethodName := ⟨RX12, "array", "(II)I"⟩
abbrev cX12_element : ByteArray := prog_14_method_25_code
def yX12_element : MethodName := ⟨RX12, "element", "(III)V"⟩
abbrev cX12_finish : ByteArray := prog_14_method_26_code
def yX12_finish : MethodName := ⟨RX12, "finish", "(IZ)V"⟩
abbrev cX12_job : ByteArray := prog_14_method_27_code
def yX12_job : MethodName := ⟨RX12, "job", "()V"⟩
abbrev cX12_thenJob : ByteArray := prog_14_method_28_code
def yX12_thenJob : MethodName := ⟨RX12, "thenJob", "(II)V"⟩
abbrev cX12_does : ByteArray := prog_14_method_29_code
def yX12_does : MethodName := ⟨RX12, "does", "(IIII)Z"⟩
abbrev cX12_goOn : ByteArray := prog_14_method_30_code
def yX12_goOn : MethodName := ⟨RX12, "goOn", "(I)V"⟩
abbrev cX12_resume : ByteArray := prog_14_method_31_code
def yX12_resume : MethodName := ⟨RX12, "resume", "(II)V"⟩
abbrev cX12_group : ByteArray := prog_14_method_32_code
def yX12_group : MethodName := ⟨RX12, "group", "()I"⟩
abbrev cX12_promise : ByteArray := prog_14_method_33_code
def yX12_promise : MethodName := ⟨RX12, "promise", "()I"⟩
abbrev cX12_isKept : ByteArray := prog_14_method_34_code
def yX12_isKept : MethodName := ⟨RX12, "isKept", "(I)Z"⟩
abbrev cX12_handler : ByteArray := prog_14_method_35_code
def yX12_handler : MethodName := ⟨RX12, "handler", "(II)I"⟩
abbrev cX12_thenable : ByteArray := prog_14_method_36_code
def yX12_thenable : MethodName := ⟨RX12, "thenable", "(IIIII)I"⟩
abbrev cX12_settle_ : ByteArray := prog_14_method_37_code
def yX12_settle_ : MethodName := ⟨RX12, "settle", "(IZI)Z"⟩
abbrev cX12_later : ByteArray := prog_14_method_38_code
def yX12_later : MethodName := ⟨RX12, "later", "(IZI)I"⟩
abbrev cX12_then_ : ByteArray := prog_14_method_39_code
def yX12_then_ : MethodName := ⟨RX12, "then", "(IIIZ)I"⟩
abbrev cX12_lastly : ByteArray := prog_14_method_40_code
def yX12_lastly : MethodName := ⟨RX12, "lastly", "(II)I"⟩
abbrev cX12_wrap : ByteArray := prog_14_method_41_code
def yX12_wrap : MethodName := ⟨RX12, "wrap", "(I)I"⟩
abbrev cX12_broken : ByteArray := prog_14_method_42_code
def yX12_broken : MethodName := ⟨RX12, "broken", "(I)I"⟩
abbrev cX12_item : ByteArray := prog_14_method_43_code
def yX12_item : MethodName := ⟨RX12, "item", "(I)I"⟩
abbrev cX12_combine : ByteArray := prog_14_method_44_code
def yX12_combine : MethodName := ⟨RX12, "combine", "(I)I"⟩
abbrev cX12_async : ByteArray := prog_14_method_45_code
def yX12_async : MethodName := ⟨RX12, "async", "(II)I"⟩
abbrev cX12_jobs : ByteArray := prog_14_method_46_code
def yX12_jobs : MethodName := ⟨RX12, "jobs", "(I)I"⟩
abbrev cX12_state : ByteArray := prog_14_method_47_code
def yX12_state : MethodName := ⟨RX12, "state", "(I)I"⟩
abbrev cX12_result : ByteArray := prog_14_method_48_code
def yX12_result : MethodName := ⟨RX12, "result", "(I)I"⟩
abbrev cX12_kind : ByteArray := prog_14_method_49_code
def yX12_kind : MethodName := ⟨RX12, "kind", "(I)I"⟩
abbrev cX12_part : ByteArray := prog_14_method_50_code
def yX12_part : MethodName := ⟨RX12, "part", "(II)I"⟩
abbrev cX12_log : ByteArray := prog_14_method_51_code
def yX12_log : MethodName := ⟨RX12, "log", "(IZ)I"⟩
abbrev cX12_count : ByteArray := prog_14_method_52_code
def yX12_count : MethodName := ⟨RX12, "count", "(I)I"⟩
def RJx145de : String := "java/io/Serializable"
def TJx145de : u_T := fun k => match k with
  | _ => ("", "", "", false)
def tyJx145de : Nat → FieldType := fun k => match k with
  | _ => .int
theorem nmJx145de : ∀ a, a < 0 → ∀ b, b < 0 → a ≠ b → (TJx145de a).2.1 ≠ (TJx145de b).2.1 := by decide +kernel
theorem tyJx145de_ok : ∀ k, k < 0 → parseFieldDescriptor (TJx145de k).2.2.1 = some (tyJx145de k) := by decide +kernel
def RJx8e188 : String := "java/lang/Cloneable"
def TJx8e188 : u_T := fun k => match k with
  | _ => ("", "", "", false)
def tyJx8e188 : Nat → FieldType := fun k => match k with
  | _ => .int
theorem nmJx8e188 : ∀ a, a < 0 → ∀ b, b < 0 → a ≠ b → (TJx8e188 a).2.1 ≠ (TJx8e188 b).2.1 := by decide +kernel
theorem tyJx8e188_ok : ∀ k, k < 0 → parseFieldDescriptor (TJx8e188 k).2.2.1 = some (tyJx8e188 k) := by decide +kernel
def RJxab1ab : String := "java/lang/Iterable"
def TJxab1ab : u_T := fun k => match k with
  | _ => ("", "", "", false)
def tyJxab1ab : Nat → FieldType := fun k => match k with
  | _ => .int
theorem nmJxab1ab : ∀ a, a < 0 → ∀ b, b < 0 → a ≠ b → (TJxab1ab a).2.1 ≠ (TJxab1ab b).2.1 := by decide +kernel
theorem tyJxab1ab_ok : ∀ k, k < 0 → parseFieldDescriptor (TJxab1ab k).2.2.1 = some (tyJxab1ab k) := by decide +kernel
def RJ9 : String := "java/lang/Math"
def TJ9 : u_T := fun k => match k with
  | _ => ("", "", "", false)
def tyJ9 : Nat → FieldType := fun k => match k with
  | _ => .int
theorem nmJ9 : ∀ a, a < 0 → ∀ b, b < 0 → a ≠ b → (TJ9 a).2.1 ≠ (TJ9 b).2.1 := by decide +kernel
theorem tyJ9_ok : ∀ k, k < 0 → parseFieldDescriptor (TJ9 k).2.2.1 = some (tyJ9 k) := by decide +kernel
abbrev cJ9_max_7cf53 : ByteArray := prog_21_method_65_code
def yJ9_max_7cf53 : MethodName := ⟨RJ9, "max", "(II)I"⟩
abbrev cJ9_min_7cf53 : ByteArray := prog_21_method_69_code
def yJ9_min_7cf53 : MethodName := ⟨RJ9, "min", "(II)I"⟩
def RJ0 : String := "java/lang/String"
def TJ0 : u_T := fun k => match k with
  | _ => ("", "", "", false)
def tyJ0 : Nat → FieldType := fun k => match k with
  | _ => .int
theorem nmJ0 : ∀ a, a < 0 → ∀ b, b < 0 → a ≠ b → (TJ0 a).2.1 ≠ (TJ0 b).2.1 := by decide +kernel
theorem tyJ0_ok : ∀ k, k < 0 → parseFieldDescriptor (TJ0 k).2.2.1 = some (tyJ0 k) := by decide +kernel
def RJ10 : String := "java/lang/System"
def TJ10 : u_T := fun k => match k with
  | _ => ("", "", "", false)
def tyJ10 : Nat → FieldType := fun k => match k with
  | _ => .int
theorem nmJ10 : ∀ a, a < 0 → ∀ b, b < 0 → a ≠ b → (TJ10 a).2.1 ≠ (TJ10 b).2.1 := by decide +kernel
theorem tyJ10_ok : ∀ k, k < 0 → parseFieldDescriptor (TJ10 k).2.2.1 = some (tyJ10 k) := by decide +kernel
def RJxa1e45 : String := "java/util/AbstractCollection"
def TJxa1e45 : u_T := fun k => match k with
  | _ => ("", "", "", false)
def tyJxa1e45 : Nat → FieldType := fun k => match k with
  | _ => .int
theorem nmJxa1e45 : ∀ a, a < 0 → ∀ b, b < 0 → a ≠ b → (TJxa1e45 a).2.1 ≠ (TJxa1e45 b).2.1 := by decide +kernel
theorem tyJxa1e45_ok : ∀ k, k < 0 → parseFieldDescriptor (TJxa1e45 k).2.2.1 = some (tyJxa1e45 k) := by decide +kernel
abbrev cJxa1e45_init_da8c8 : ByteArray := prog_26_method_1_code
def yJxa1e45_init_da8c8 : MethodName := ⟨RJxa1e45, "<init>", "()V"⟩
def RJxc12de : String := "java/util/AbstractList"
def TJxc12de : u_T := fun k => match k with
  | _ => ("", "", "", false)
def tyJxc12de : Nat → FieldType := fun k => match k with
  | _ => .int
theorem nmJxc12de : ∀ a, a < 0 → ∀ b, b < 0 → a ≠ b → (TJxc12de a).2.1 ≠ (TJxc12de b).2.1 := by decide +kernel
theorem tyJxc12de_ok : ∀ k, k < 0 → parseFieldDescriptor (TJxc12de k).2.2.1 = some (tyJxc12de k) := by decide +kernel
abbrev cJxc12de_init_da8c8 : ByteArray := prog_27_method_1_code
def yJxc12de_init_da8c8 : MethodName := ⟨RJxc12de, "<init>", "()V"⟩
def RJx4a65c : String := "java/util/ArrayList"
def TJx4a65c : u_T := fun k => match k with
  | 0 => ("java/util/AbstractList", "modCount", "I", false)
  | 1 => ("java/util/ArrayList", "elementData", "[Ljava/lang/Object;", false)
  | _ => ("java/util/ArrayList", "size", "I", false)
def tyJx4a65c : Nat → FieldType := fun k => match k with
  | 0 => .int
  | 1 => .array (.object "java/lang/Object")
  | _ => .int
theorem nmJx4a65c : ∀ a, a < 3 → ∀ b, b < 3 → a ≠ b → (TJx4a65c a).2.1 ≠ (TJx4a65c b).2.1 := by decide +kernel
theorem tyJx4a65c_ok : ∀ k, k < 3 → parseFieldDescriptor (TJx4a65c k).2.2.1 = some (tyJx4a65c k) := by decide +kernel
abbrev cJx4a65c_init_da8c8 : ByteArray := prog_28_method_2_code
def yJx4a65c_init_da8c8 : MethodName := ⟨RJx4a65c, "<init>", "()V"⟩
abbrev cJx4a65c_grow_92f84 : ByteArray := prog_28_method_6_code
def yJx4a65c_grow_92f84 : MethodName := ⟨RJx4a65c, "grow", "(I)[Ljava/lang/Object;"⟩
abbrev cJx4a65c_grow_d5877 : ByteArray := prog_28_method_7_code
def yJx4a65c_grow_d5877 : MethodName := ⟨RJx4a65c, "grow", "()[Ljava/lang/Object;"⟩
abbrev cJx4a65c_size_8abf5 : ByteArray := prog_28_method_8_code
def yJx4a65c_size_8abf5 : MethodName := ⟨RJx4a65c, "size", "()I"⟩
abbrev cJx4a65c_elementData_915e3 : ByteArray := prog_28_method_18_code
def yJx4a65c_elementData_915e3 : MethodName := ⟨RJx4a65c, "elementData", "(I)Ljava/lang/Object;"⟩
abbrev cJx4a65c_get_915e3 : ByteArray := prog_28_method_20_code
def yJx4a65c_get_915e3 : MethodName := ⟨RJx4a65c, "get", "(I)Ljava/lang/Object;"⟩
abbrev cJx4a65c_add_72be8 : ByteArray := prog_28_method_24_code
def yJx4a65c_add_72be8 : MethodName := ⟨RJx4a65c, "add", "(Ljava/lang/Object;[Ljava/lang/Object;I)V"⟩
abbrev cJx4a65c_add_9ea2d : ByteArray := prog_28_method_25_code
def yJx4a65c_add_9ea2d : MethodName := ⟨RJx4a65c, "add", "(Ljava/lang/Object;)Z"⟩
def RJ7 : String := "java/util/Arrays"
def TJ7 : u_T := fun k => match k with
  | _ => ("", "", "", false)
def tyJ7 : Nat → FieldType := fun k => match k with
  | _ => .int
theorem nmJ7 : ∀ a, a < 0 → ∀ b, b < 0 → a ≠ b → (TJ7 a).2.1 ≠ (TJ7 b).2.1 := by decide +kernel
theorem tyJ7_ok : ∀ k, k < 0 → parseFieldDescriptor (TJ7 k).2.2.1 = some (tyJ7 k) := by decide +kernel
abbrev cJ7_copyOf_1904c : ByteArray := prog_29_method_119_code
def yJ7_copyOf_1904c : MethodName := ⟨RJ7, "copyOf", "([Ljava/lang/Object;I)[Ljava/lang/Object;"⟩
abbrev cJ7_copyOf_6403c : ByteArray := prog_29_method_120_code
def yJ7_copyOf_6403c : MethodName := ⟨RJ7, "copyOf", "([Ljava/lang/Object;ILjava/lang/Class;)[Ljava/lang/Object;"⟩
abbrev cJ7_copyOf_59c91 : ByteArray := prog_29_method_123_code
def yJ7_copyOf_59c91 : MethodName := ⟨RJ7, "copyOf", "([II)[I"⟩
def RJx5ef63 : String := "java/util/Collection"
def TJx5ef63 : u_T := fun k => match k with
  | _ => ("", "", "", false)
def tyJx5ef63 : Nat → FieldType := fun k => match k with
  | _ => .int
theorem nmJx5ef63 : ∀ a, a < 0 → ∀ b, b < 0 → a ≠ b → (TJx5ef63 a).2.1 ≠ (TJx5ef63 b).2.1 := by decide +kernel
theorem tyJx5ef63_ok : ∀ k, k < 0 → parseFieldDescriptor (TJx5ef63 k).2.2.1 = some (tyJx5ef63 k) := by decide +kernel
def RJxbd725 : String := "java/util/List"
def TJxbd725 : u_T := fun k => match k with
  | _ => ("", "", "", false)
def tyJxbd725 : Nat → FieldType := fun k => match k with
  | _ => .int
theorem nmJxbd725 : ∀ a, a < 0 → ∀ b, b < 0 → a ≠ b → (TJxbd725 a).2.1 ≠ (TJxbd725 b).2.1 := by decide +kernel
theorem tyJxbd725_ok : ∀ k, k < 0 → parseFieldDescriptor (TJxbd725 k).2.2.1 = some (tyJxbd725 k) := by decide +kernel
def RJ15 : String := "java/util/Objects"
def TJ15 : u_T := fun k => match k with
  | _ => ("", "", "", false)
def tyJ15 : Nat → FieldType := fun k => match k with
  | _ => .int
theorem nmJ15 : ∀ a, a < 0 → ∀ b, b < 0 → a ≠ b → (TJ15 a).2.1 ≠ (TJ15 b).2.1 := by decide +kernel
theorem tyJ15_ok : ∀ k, k < 0 → parseFieldDescriptor (TJ15 k).2.2.1 = some (tyJ15 k) := by decide +kernel
abbrev cJ15_checkIndex_7cf53 : ByteArray := prog_32_method_17_code
def yJ15_checkIndex_7cf53 : MethodName := ⟨RJ15, "checkIndex", "(II)I"⟩
def RJxf0a74 : String := "java/util/RandomAccess"
def TJxf0a74 : u_T := fun k => match k with
  | _ => ("", "", "", false)
def tyJxf0a74 : Nat → FieldType := fun k => match k with
  | _ => .int
theorem nmJxf0a74 : ∀ a, a < 0 → ∀ b, b < 0 → a ≠ b → (TJxf0a74 a).2.1 ≠ (TJxf0a74 b).2.1 := by decide +kernel
theorem tyJxf0a74_ok : ∀ k, k < 0 → parseFieldDescriptor (TJxf0a74 k).2.2.1 = some (tyJxf0a74 k) := by decide +kernel
def RJxa66e6 : String := "java/util/SequencedCollection"
def TJxa66e6 : u_T := fun k => match k with
  | _ => ("", "", "", false)
def tyJxa66e6 : Nat → FieldType := fun k => match k with
  | _ => .int
theorem nmJxa66e6 : ∀ a, a < 0 → ∀ b, b < 0 → a ≠ b → (TJxa66e6 a).2.1 ≠ (TJxa66e6 b).2.1 := by decide +kernel
theorem tyJxa66e6_ok : ∀ k, k < 0 → parseFieldDescriptor (TJxa66e6 k).2.2.1 = some (tyJxa66e6 k) := by decide +kernel
def RJ8 : String := "jdk/internal/util/ArraysSupport"
def TJ8 : u_T := fun k => match k with
  | _ => ("", "", "", false)
def tyJ8 : Nat → FieldType := fun k => match k with
  | _ => .int
theorem nmJ8 : ∀ a, a < 0 → ∀ b, b < 0 → a ≠ b → (TJ8 a).2.1 ≠ (TJ8 b).2.1 := by decide +kernel
theorem tyJ8_ok : ∀ k, k < 0 → parseFieldDescriptor (TJ8 k).2.2.1 = some (tyJ8 k) := by decide +kernel
abbrev cJ8_newLength_cabcc : ByteArray := prog_35_method_27_code
def yJ8_newLength_cabcc : MethodName := ⟨RJ8, "newLength", "(III)I"⟩
abbrev cJ8_hugeLength_7cf53 : ByteArray := prog_35_method_28_code
def yJ8_hugeLength_7cf53 : MethodName := ⟨RJ8, "hugeLength", "(II)I"⟩
def RJ3 : String := "jdk/internal/util/Preconditions"
def TJ3 : u_T := fun k => match k with
  | _ => ("", "", "", false)
def tyJ3 : Nat → FieldType := fun k => match k with
  | _ => .int
theorem nmJ3 : ∀ a, a < 0 → ∀ b, b < 0 → a ≠ b → (TJ3 a).2.1 ≠ (TJ3 b).2.1 := by decide +kernel
theorem tyJ3_ok : ∀ k, k < 0 → parseFieldDescriptor (TJ3 k).2.2.1 = some (tyJ3 k) := by decide +kernel
abbrev cJ3_checkIndex_8e157 : ByteArray := prog_36_method_11_code
def yJ3_checkIndex_8e157 : MethodName := ⟨RJ3, "checkIndex", "(IILjava/util/function/BiFunction;)I"⟩
def RL : String := "PromiseDeskLaw"
abbrev cL_promise : ByteArray := method_3_code
def yL_promise : MethodName := ⟨RL, "promise", "(LPromiseDesk;[J)I"⟩
abbrev cL_handler : ByteArray := method_4_code
def yL_handler : MethodName := ⟨RL, "handler", "(LPromiseDesk;II[J)I"⟩
abbrev cL_thenable : ByteArray := method_5_code
def yL_thenable : MethodName := ⟨RL, "thenable", "(LPromiseDesk;IIIII[J)I"⟩
abbrev cL_settle : ByteArray := method_6_code
def yL_settle : MethodName := ⟨RL, "settle", "(LPromiseDesk;IZI[J)I"⟩
abbrev cL_later : ByteArray := method_7_code
def yL_later : MethodName := ⟨RL, "later", "(LPromiseDesk;IZI[J)I"⟩
abbrev cL_then : ByteArray := method_8_code
def yL_then : MethodName := ⟨RL, "then", "(LPromiseDesk;IIIZ[J)I"⟩
abbrev cL_lastly : ByteArray := method_9_code
def yL_lastly : MethodName := ⟨RL, "lastly", "(LPromiseDesk;II[J)I"⟩
abbrev cL_wrap : ByteArray := method_10_code
def yL_wrap : MethodName := ⟨RL, "wrap", "(LPromiseDesk;I[J)I"⟩
abbrev cL_broken : ByteArray := method_11_code
def yL_broken : MethodName := ⟨RL, "broken", "(LPromiseDesk;I[J)I"⟩
abbrev cL_item : ByteArray := method_12_code
def yL_item : MethodName := ⟨RL, "item", "(LPromiseDesk;I[J)I"⟩
abbrev cL_combine : ByteArray := method_13_code
def yL_combine : MethodName := ⟨RL, "combine", "(LPromiseDesk;I[J)I"⟩
abbrev cL_async : ByteArray := method_14_code
def yL_async : MethodName := ⟨RL, "async", "(LPromiseDesk;II[J)I"⟩
abbrev cL_jobs : ByteArray := method_15_code
def yL_jobs : MethodName := ⟨RL, "jobs", "(LPromiseDesk;I[J)I"⟩
abbrev cL_state : ByteArray := method_16_code
def yL_state : MethodName := ⟨RL, "state", "(LPromiseDesk;I[J)I"⟩
abbrev cL_result : ByteArray := method_17_code
def yL_result : MethodName := ⟨RL, "result", "(LPromiseDesk;I[J)I"⟩
abbrev cL_kind : ByteArray := method_18_code
def yL_kind : MethodName := ⟨RL, "kind", "(LPromiseDesk;I[J)I"⟩
abbrev cL_part : ByteArray := method_19_code
def yL_part : MethodName := ⟨RL, "part", "(LPromiseDesk;II[J)I"⟩
abbrev cL_count : ByteArray := method_20_code
def yL_count : MethodName := ⟨RL, "count", "(LPromiseDesk;I[J)I"⟩
abbrev cL_law : ByteArray := code
def yL_law : MethodName := ⟨RL, "law", "([I)Z"⟩
abbrev vwCl : List vw_C := [(RJx4a65c, TJx4a65c, 3), (RX0, TX0, 5), (RX1, TX1, 4), (RX2, TX2, 3), (RX4, TX4, 8), (RX5, TX5, 2), (RX6, TX6, 9), (RX7, TX7, 2), (RX8, TX8, 4), (RX9, TX9, 9), (RX10, TX10, 3), (RX11, TX11, 10), (RX12, TX12, 52)]
end
section
theorem u_0 : Cond.initialized "PromiseDeskLaw" ∈ Tw := Tw_1 (List.mem_of_getElem? (i := 0) rfl) rfl
theorem u_1 : Cond.initialized "PromiseDesk" ∈ Tw := Tw_1 (List.mem_of_getElem? (i := 1) rfl) rfl
theorem u_2 : Cond.initialized "java/util/AbstractCollection" ∈ Tw := Tw_1 (List.mem_of_getElem? (i := 2) rfl) rfl
theorem u_3 : Cond.initialized "java/util/AbstractList" ∈ Tw := Tw_1 (List.mem_of_getElem? (i := 3) rfl) rfl
theorem u_4 : Cond.initialized "java/util/ArrayList" ∈ Tw := Tw_1 (List.mem_of_getElem? (i := 4) rfl) rfl
theorem u_5 : Cond.initialized "PromiseDeskModel" ∈ Tw := Tw_1 (List.mem_of_getElem? (i := 5) rfl) rfl
theorem u_6 : Cond.initialized "java/lang/Throwable" ∈ Tw := Tw_1 (List.mem_of_getElem? (i := 6) rfl) rfl
theorem u_7 : Cond.initialized "java/lang/Exception" ∈ Tw := Tw_1 (List.mem_of_getElem? (i := 7) rfl) rfl
theorem u_8 : Cond.initialized "java/lang/RuntimeException" ∈ Tw := Tw_1 (List.mem_of_getElem? (i := 8) rfl) rfl
theorem u_9 : Cond.initialized "java/lang/IllegalStateException" ∈ Tw := Tw_1 (List.mem_of_getElem? (i := 9) rfl) rfl
theorem u_10 : Cond.initialized "PromiseDesk$Thing" ∈ Tw := Tw_1 (List.mem_of_getElem? (i := 10) rfl) rfl
theorem u_11 : Cond.initialized "PromiseDesk$Promise" ∈ Tw := Tw_1 (List.mem_of_getElem? (i := 11) rfl) rfl
theorem u_12 : Cond.initialized "jdk/internal/util/ArraysSupport" ∈ Tw := Tw_1 (List.mem_of_getElem? (i := 12) rfl) rfl
theorem u_13 : Cond.initialized "java/lang/Math" ∈ Tw := Tw_1 (List.mem_of_getElem? (i := 13) rfl) rfl
theorem u_14 : Cond.initialized "java/util/Arrays" ∈ Tw := Tw_1 (List.mem_of_getElem? (i := 14) rfl) rfl
theorem u_15 : Cond.initialized "java/lang/System" ∈ Tw := Tw_1 (List.mem_of_getElem? (i := 15) rfl) rfl
theorem u_16 : Cond.initialized "PromiseDesk$Resolvers" ∈ Tw := Tw_1 (List.mem_of_getElem? (i := 16) rfl) rfl
theorem u_17 : Cond.initialized "java/lang/IllegalArgumentException" ∈ Tw := Tw_1 (List.mem_of_getElem? (i := 17) rfl) rfl
theorem u_18 : Cond.initialized "java/util/Objects" ∈ Tw := Tw_1 (List.mem_of_getElem? (i := 18) rfl) rfl
theorem u_19 : Cond.initialized "jdk/internal/util/Preconditions" ∈ Tw := Tw_1 (List.mem_of_getElem? (i := 19) rfl) rfl
theorem u_20 : Cond.initialized "PromiseDesk$Function" ∈ Tw := Tw_1 (List.mem_of_getElem? (i := 20) rfl) rfl
theorem u_21 : Cond.initialized "PromiseDesk$Simple" ∈ Tw := Tw_1 (List.mem_of_getElem? (i := 21) rfl) rfl
theorem u_22 : Cond.initialized "PromiseDesk$Thenable" ∈ Tw := Tw_1 (List.mem_of_getElem? (i := 22) rfl) rfl
theorem u_23 : Cond.initialized "PromiseDesk$Job" ∈ Tw := Tw_1 (List.mem_of_getElem? (i := 23) rfl) rfl
theorem u_24 : Cond.initialized "PromiseDesk$Lastly" ∈ Tw := Tw_1 (List.mem_of_getElem? (i := 24) rfl) rfl
theorem u_25 : Cond.initialized "PromiseDesk$Combination" ∈ Tw := Tw_1 (List.mem_of_getElem? (i := 25) rfl) rfl
theorem u_26 : Cond.initialized "PromiseDesk$Element" ∈ Tw := Tw_1 (List.mem_of_getElem? (i := 26) rfl) rfl
theorem u_27 : Cond.initialized "PromiseDesk$AsyncRun" ∈ Tw := Tw_1 (List.mem_of_getElem? (i := 27) rfl) rfl
theorem u_28 : Cond.classLink "PromiseDeskLaw" 8 "PromiseDesk" ∈ Tw := Tw_1 (List.mem_of_getElem? (i := 28) rfl) rfl
theorem u_29 : Cond.instantiable "PromiseDesk" 10 ∈ Tw := Tw_1 (List.mem_of_getElem? (i := 29) rfl) rfl
theorem u_30 : Cond.methodLink "PromiseDeskLaw" 74 yX11_init ∈ Tw := Tw_1 (List.mem_of_getElem? (i := 30) rfl) rfl
theorem u_31 : Cond.instanceMethod yX11_init ∈ Tw := Tw_1 (List.mem_of_getElem? (i := 31) rfl) rfl
theorem u_32 : Cond.code yX11_init prog_1_method_1_code 1 (Option.none : Option FieldType) ∈ Tw := Tw_1 (List.mem_of_getElem? (i := 32) rfl) rfl
theorem u_33 : Cond.methodLink "PromiseDesk" 1 ⟨"java/lang/Object", "<init>", "()V"⟩ ∈ Tw := Tw_1 (List.mem_of_getElem? (i := 33) rfl) rfl
theorem u_34 : Cond.instanceMethod ⟨"java/lang/Object", "<init>", "()V"⟩ ∈ Tw := Tw_1 (List.mem_of_getElem? (i := 34) rfl) rfl
theorem u_35 : Cond.code ⟨"java/lang/Object", "<init>", "()V"⟩ object_method_1_code 1 (Option.none : Option FieldType) ∈ Tw := Tw_1 (List.mem_of_getElem? (i := 35) rfl) rfl
theorem u_36 : Cond.classLink "PromiseDesk" 7 "java/util/ArrayList" ∈ Tw := Tw_1 (List.mem_of_getElem? (i := 36) rfl) rfl
theorem u_37 : Cond.instantiable "java/util/ArrayList" 3 ∈ Tw := Tw_1 (List.mem_of_getElem? (i := 37) rfl) rfl
theorem u_38 : Cond.methodLink "PromiseDesk" 9 yJx4a65c_init_da8c8 ∈ Tw := Tw_1 (List.mem_of_getElem? (i := 38) rfl) rfl
theorem u_39 : Cond.instanceMethod yJx4a65c_init_da8c8 ∈ Tw := Tw_1 (List.mem_of_getElem? (i := 39) rfl) rfl
theorem u_40 : Cond.code yJx4a65c_init_da8c8 prog_28_method_2_code 1 (Option.none : Option FieldType) ∈ Tw := Tw_1 (List.mem_of_getElem? (i := 40) rfl) rfl
theorem u_41 : Cond.methodLink "java/util/ArrayList" 1 yJxc12de_init_da8c8 ∈ Tw := Tw_1 (List.mem_of_getElem? (i := 41) rfl) rfl
theorem u_42 : Cond.instanceMethod yJxc12de_init_da8c8 ∈ Tw := Tw_1 (List.mem_of_getElem? (i := 42) rfl) rfl
theorem u_43 : Cond.code yJxc12de_init_da8c8 prog_27_method_1_code 1 (Option.none : Option FieldType) ∈ Tw := Tw_1 (List.mem_of_getElem? (i := 43) rfl) rfl
theorem u_44 : Cond.methodLink "java/util/AbstractList" 1 yJxa1e45_init_da8c8 ∈ Tw := Tw_1 (List.mem_of_getElem? (i := 44) rfl) rfl
theorem u_45 : Cond.instanceMethod yJxa1e45_init_da8c8 ∈ Tw := Tw_1 (List.mem_of_getElem? (i := 45) rfl) rfl
theorem u_46 : Cond.code yJxa1e45_init_da8c8 prog_26_method_1_code 1 (Option.none : Option FieldType) ∈ Tw := Tw_1 (List.mem_of_getElem? (i := 46) rfl) rfl
theorem u_47 : Cond.methodLink "java/util/AbstractCollection" 1 ⟨"java/lang/Object", "<init>", "()V"⟩ ∈ Tw := Tw_1 (List.mem_of_getElem? (i := 47) rfl) rfl
theorem u_48 : Cond.fieldLink "java/util/ArrayList" 39 "java/util/ArrayList" "DEFAULTCAPACITY_EMPTY_ELEMENTDATA" "[Ljava/lang/Object;" ∈ Tw := Tw_1 (List.mem_of_getElem? (i := 48) rfl) rfl
theorem u_50 : Cond.fieldLink "java/util/ArrayList" 9 "java/util/ArrayList" "elementData" "[Ljava/lang/Object;" ∈ Tw := Tw_1 (List.mem_of_getElem? (i := 50) rfl) rfl
theorem u_51 : Cond.fieldLink "java/util/ArrayList" 48 "java/util/ArrayList" "size" "I" ∈ Tw := Tw_1 (List.mem_of_getElem? (i := 51) rfl) rfl
theorem u_52 : Cond.fieldLink "java/util/AbstractList" 7 "java/util/AbstractList" "modCount" "I" ∈ Tw := Tw_1 (List.mem_of_getElem? (i := 52) rfl) rfl
theorem u_53 : Cond.fieldLink "java/util/ArrayList" 63 "java/util/ArrayList" "modCount" "I" ∈ Tw := Tw_1 (List.mem_of_getElem? (i := 53) rfl) rfl
theorem u_54 : Cond.sameField "java/util/ArrayList" "java/util/AbstractList" "modCount" "I" ∈ Tw := Tw_1 (List.mem_of_getElem? (i := 54) rfl) rfl
theorem u_55 : Cond.lays "java/util/ArrayList" "java/util/ArrayList" "elementData" "[Ljava/lang/Object;" ∈ Tw := Tw_1 (List.mem_of_getElem? (i := 55) rfl) rfl
theorem u_56 : Cond.soleField "java/util/ArrayList" "elementData" ∈ Tw := Tw_1 (List.mem_of_getElem? (i := 56) rfl) rfl
theorem u_57 : Cond.lays "java/util/ArrayList" "java/util/ArrayList" "size" "I" ∈ Tw := Tw_1 (List.mem_of_getElem? (i := 57) rfl) rfl
theorem u_58 : Cond.soleField "java/util/ArrayList" "size" ∈ Tw := Tw_1 (List.mem_of_getElem? (i := 58) rfl) rfl
theorem u_59 : Cond.lays "java/util/ArrayList" "java/util/AbstractList" "modCount" "I" ∈ Tw := Tw_1 (List.mem_of_getElem? (i := 59) rfl) rfl
theorem u_60 : Cond.soleField "java/util/AbstractList" "modCount" ∈ Tw := Tw_1 (List.mem_of_getElem? (i := 60) rfl) rfl
theorem u_61 : Cond.superclass "java/util/ArrayList" "java/util/AbstractList" ∈ Tw := Tw_1 (List.mem_of_getElem? (i := 61) rfl) rfl
theorem u_62 : Cond.fieldLink "PromiseDesk" 10 "PromiseDesk" "things" "Ljava/util/ArrayList;" ∈ Tw := Tw_1 (List.mem_of_getElem? (i := 62) rfl) rfl
theorem u_63 : Cond.fieldLink "PromiseDesk" 16 "PromiseDesk" "handlers" "Ljava/util/ArrayList;" ∈ Tw := Tw_1 (List.mem_of_getElem? (i := 63) rfl) rfl
theorem u_64 : Cond.fieldLink "PromiseDesk" 19 "PromiseDesk" "items" "[I" ∈ Tw := Tw_1 (List.mem_of_getElem? (i := 64) rfl) rfl
theorem u_65 : Cond.fieldLink "PromiseDesk" 135 "PromiseDesk" "itemCount" "I" ∈ Tw := Tw_1 (List.mem_of_getElem? (i := 65) rfl) rfl
theorem u_66 : Cond.fieldLink "PromiseDesk" 23 "PromiseDesk" "pairs" "[I" ∈ Tw := Tw_1 (List.mem_of_getElem? (i := 66) rfl) rfl
theorem u_67 : Cond.fieldLink "PromiseDesk" 206 "PromiseDesk" "pairCount" "I" ∈ Tw := Tw_1 (List.mem_of_getElem? (i := 67) rfl) rfl
theorem u_68 : Cond.fieldLink "PromiseDesk" 169 "PromiseDesk" "firstJob" "LPromiseDesk$Job;" ∈ Tw := Tw_1 (List.mem_of_getElem? (i := 68) rfl) rfl
theorem u_69 : Cond.fieldLink "PromiseDesk" 261 "PromiseDesk" "lastJob" "LPromiseDesk$Job;" ∈ Tw := Tw_1 (List.mem_of_getElem? (i := 69) rfl) rfl
theorem u_70 : Cond.fieldLink "PromiseDesk" 210 "PromiseDesk" "jobCount" "I" ∈ Tw := Tw_1 (List.mem_of_getElem? (i := 70) rfl) rfl
theorem u_74 : Cond.fieldLink "PromiseDesk" 351 "PromiseDesk" "threw" "Z" ∈ Tw := Tw_1 (List.mem_of_getElem? (i := 74) rfl) rfl
theorem u_75 : Cond.laysFinal "PromiseDesk" "PromiseDesk" "things" "Ljava/util/ArrayList;" ∈ Tw := Tw_1 (List.mem_of_getElem? (i := 75) rfl) rfl
theorem u_76 : Cond.soleField "PromiseDesk" "things" ∈ Tw := Tw_1 (List.mem_of_getElem? (i := 76) rfl) rfl
theorem u_77 : Cond.laysFinal "PromiseDesk" "PromiseDesk" "handlers" "Ljava/util/ArrayList;" ∈ Tw := Tw_1 (List.mem_of_getElem? (i := 77) rfl) rfl
theorem u_78 : Cond.soleField "PromiseDesk" "handlers" ∈ Tw := Tw_1 (List.mem_of_getElem? (i := 78) rfl) rfl
theorem u_79 : Cond.laysFinal "PromiseDesk" "PromiseDesk" "items" "[I" ∈ Tw := Tw_1 (List.mem_of_getElem? (i := 79) rfl) rfl
theorem u_80 : Cond.soleField "PromiseDesk" "items" ∈ Tw := Tw_1 (List.mem_of_getElem? (i := 80) rfl) rfl
theorem u_81 : Cond.lays "PromiseDesk" "PromiseDesk" "itemCount" "I" ∈ Tw := Tw_1 (List.mem_of_getElem? (i := 81) rfl) rfl
theorem u_82 : Cond.soleField "PromiseDesk" "itemCount" ∈ Tw := Tw_1 (List.mem_of_getElem? (i := 82) rfl) rfl
theorem u_83 : Cond.lays "PromiseDesk" "PromiseDesk" "pairs" "[I" ∈ Tw := Tw_1 (List.mem_of_getElem? (i := 83) rfl) rfl
theorem u_84 : Cond.soleField "PromiseDesk" "pairs" ∈ Tw := Tw_1 (List.mem_of_getElem? (i := 84) rfl) rfl
theorem u_85 : Cond.lays "PromiseDesk" "PromiseDesk" "pairCount" "I" ∈ Tw := Tw_1 (List.mem_of_getElem? (i := 85) rfl) rfl
theorem u_86 : Cond.soleField "PromiseDesk" "pairCount" ∈ Tw := Tw_1 (List.mem_of_getElem? (i := 86) rfl) rfl
theorem u_87 : Cond.lays "PromiseDesk" "PromiseDesk" "firstJob" "LPromiseDesk$Job;" ∈ Tw := Tw_1 (List.mem_of_getElem? (i := 87) rfl) rfl
theorem u_88 : Cond.soleField "PromiseDesk" "firstJob" ∈ Tw := Tw_1 (List.mem_of_getElem? (i := 88) rfl) rfl
theorem u_89 : Cond.lays "PromiseDesk" "PromiseDesk" "lastJob" "LPromiseDesk$Job;" ∈ Tw := Tw_1 (List.mem_of_getElem? (i := 89) rfl) rfl
theorem u_90 : Cond.soleField "PromiseDesk" "lastJob" ∈ Tw := Tw_1 (List.mem_of_getElem? (i := 90) rfl) rfl
theorem u_91 : Cond.lays "PromiseDesk" "PromiseDesk" "jobCount" "I" ∈ Tw := Tw_1 (List.mem_of_getElem? (i := 91) rfl) rfl
theorem u_92 : Cond.soleField "PromiseDesk" "jobCount" ∈ Tw := Tw_1 (List.mem_of_getElem? (i := 92) rfl) rfl
theorem u_93 : Cond.lays "PromiseDesk" "PromiseDesk" "threw" "Z" ∈ Tw := Tw_1 (List.mem_of_getElem? (i := 93) rfl) rfl
theorem u_94 : Cond.soleField "PromiseDesk" "threw" ∈ Tw := Tw_1 (List.mem_of_getElem? (i := 94) rfl) rfl
theorem u_95 : Cond.superclass "PromiseDesk" "java/lang/Object" ∈ Tw := Tw_1 (List.mem_of_getElem? (i := 95) rfl) rfl
theorem u_96 : Cond.arrayClass FieldType.int ∈ Tw := Tw_1 (List.mem_of_getElem? (i := 96) rfl) rfl
theorem u_97 : Cond.methodLink "PromiseDeskLaw" 140 yX11_log ∈ Tw := Tw_1 (List.mem_of_getElem? (i := 97) rfl) rfl
theorem u_98 : Cond.instanceMethod yX11_log ∈ Tw := Tw_1 (List.mem_of_getElem? (i := 98) rfl) rfl
theorem u_99 : Cond.selects "PromiseDesk" yX11_log yX11_log ∈ Tw := Tw_1 (List.mem_of_getElem? (i := 99) rfl) rfl
theorem u_100 : Cond.code yX11_log prog_1_method_19_code 3 (Option.some FieldType.int) ∈ Tw := Tw_1 (List.mem_of_getElem? (i := 100) rfl) rfl
theorem u_101 : Cond.constant "PromiseDesk" 209 (-1000000) ∈ Tw := Tw_1 (List.mem_of_getElem? (i := 101) rfl) rfl
theorem u_102 : Cond.methodLink "PromiseDeskLaw" 78 yL_promise ∈ Tw := Tw_1 (List.mem_of_getElem? (i := 102) rfl) rfl
theorem u_103 : Cond.static yL_promise ∈ Tw := Tw_1 (List.mem_of_getElem? (i := 103) rfl) rfl
theorem u_104 : Cond.codeWith yL_promise method_3_code 3 (Option.some FieldType.int) [(0, 8, 11, 13)] ∈ Tw := Tw_1 (List.mem_of_getElem? (i := 104) rfl) rfl
theorem u_105 : Cond.classLink "PromiseDeskLaw" 13 "java/lang/IllegalStateException" ∈ Tw := Tw_1 (List.mem_of_getElem? (i := 105) rfl) rfl
theorem u_106 : Cond.methodLink "PromiseDeskLaw" 7 yX11_promise ∈ Tw := Tw_1 (List.mem_of_getElem? (i := 106) rfl) rfl
theorem u_107 : Cond.instanceMethod yX11_promise ∈ Tw := Tw_1 (List.mem_of_getElem? (i := 107) rfl) rfl
theorem u_108 : Cond.selects "PromiseDesk" yX11_promise yX11_promise ∈ Tw := Tw_1 (List.mem_of_getElem? (i := 108) rfl) rfl
theorem u_109 : Cond.code yX11_promise prog_1_method_2_code 2 (Option.some FieldType.int) ∈ Tw := Tw_1 (List.mem_of_getElem? (i := 109) rfl) rfl
theorem u_110 : Cond.methodLink "PromiseDesk" 26 yX11_requireRoom ∈ Tw := Tw_1 (List.mem_of_getElem? (i := 110) rfl) rfl
theorem u_112 : Cond.instanceMethod yX11_requireRoom ∈ Tw := Tw_1 (List.mem_of_getElem? (i := 112) rfl) rfl
theorem u_113 : Cond.code yX11_requireRoom prog_1_method_29_code 2 (Option.none : Option FieldType) ∈ Tw := Tw_1 (List.mem_of_getElem? (i := 113) rfl) rfl
theorem u_114 : Cond.methodLink "PromiseDesk" 61 yJx4a65c_size_8abf5 ∈ Tw := Tw_1 (List.mem_of_getElem? (i := 114) rfl) rfl
theorem u_115 : Cond.instanceMethod yJx4a65c_size_8abf5 ∈ Tw := Tw_1 (List.mem_of_getElem? (i := 115) rfl) rfl
theorem u_116 : Cond.selects "java/util/ArrayList" yJx4a65c_size_8abf5 yJx4a65c_size_8abf5 ∈ Tw := Tw_1 (List.mem_of_getElem? (i := 116) rfl) rfl
theorem u_117 : Cond.code yJx4a65c_size_8abf5 prog_28_method_8_code 1 (Option.some FieldType.int) ∈ Tw := Tw_1 (List.mem_of_getElem? (i := 117) rfl) rfl
theorem u_118 : Cond.classLink "PromiseDesk" 65 "java/lang/IllegalStateException" ∈ Tw := Tw_1 (List.mem_of_getElem? (i := 118) rfl) rfl
theorem u_119 : Cond.instantiable "java/lang/IllegalStateException" 6 ∈ Tw := Tw_1 (List.mem_of_getElem? (i := 119) rfl) rfl
theorem u_127 : Cond.selects "java/lang/IllegalStateException" ⟨"java/lang/Throwable", "fillInStackTrace", "(I)Ljava/lang/Throwable;"⟩ ⟨"java/lang/Throwable", "fillInStackTrace", "(I)Ljava/lang/Throwable;"⟩ ∈ Tw := Tw_1 (List.mem_of_getElem? (i := 127) rfl) rfl
theorem u_128 : Cond.selects "java/lang/IllegalStateException" ⟨"java/lang/Throwable", "fillInStackTrace", "()Ljava/lang/Throwable;"⟩ ⟨"java/lang/Throwable", "fillInStackTrace", "()Ljava/lang/Throwable;"⟩ ∈ Tw := Tw_1 (List.mem_of_getElem? (i := 128) rfl) rfl
theorem u_129 : Cond.lays "java/lang/IllegalStateException" "java/lang/Throwable" "cause" "Ljava/lang/Throwable;" ∈ Tw := Tw_1 (List.mem_of_getElem? (i := 129) rfl) rfl
theorem u_130 : Cond.lays "java/lang/Throwable" "java/lang/Throwable" "cause" "Ljava/lang/Throwable;" ∈ Tw := Tw_1 (List.mem_of_getElem? (i := 130) rfl) rfl
theorem u_131 : Cond.lays "java/lang/IllegalStateException" "java/lang/Throwable" "stackTrace" "[Ljava/lang/StackTraceElement;" ∈ Tw := Tw_1 (List.mem_of_getElem? (i := 131) rfl) rfl
theorem u_132 : Cond.lays "java/lang/Throwable" "java/lang/Throwable" "stackTrace" "[Ljava/lang/StackTraceElement;" ∈ Tw := Tw_1 (List.mem_of_getElem? (i := 132) rfl) rfl
theorem u_133 : Cond.lays "java/lang/IllegalStateException" "java/lang/Throwable" "suppressedExceptions" "Ljava/util/List;" ∈ Tw := Tw_1 (List.mem_of_getElem? (i := 133) rfl) rfl
theorem u_134 : Cond.lays "java/lang/Throwable" "java/lang/Throwable" "suppressedExceptions" "Ljava/util/List;" ∈ Tw := Tw_1 (List.mem_of_getElem? (i := 134) rfl) rfl
theorem u_135 : Cond.lays "java/lang/IllegalStateException" "java/lang/Throwable" "detailMessage" "Ljava/lang/String;" ∈ Tw := Tw_1 (List.mem_of_getElem? (i := 135) rfl) rfl
theorem u_136 : Cond.lays "java/lang/Throwable" "java/lang/Throwable" "detailMessage" "Ljava/lang/String;" ∈ Tw := Tw_1 (List.mem_of_getElem? (i := 136) rfl) rfl
theorem u_137 : Cond.lays "java/lang/IllegalStateException" "java/lang/Throwable" "backtrace" "Ljava/lang/Object;" ∈ Tw := Tw_1 (List.mem_of_getElem? (i := 137) rfl) rfl
theorem u_138 : Cond.lays "java/lang/Throwable" "java/lang/Throwable" "backtrace" "Ljava/lang/Object;" ∈ Tw := Tw_1 (List.mem_of_getElem? (i := 138) rfl) rfl
theorem u_139 : Cond.fieldLink "java/lang/Throwable" 198 "java/lang/Throwable" "backtrace" "Ljava/lang/Object;" ∈ Tw := Tw_1 (List.mem_of_getElem? (i := 139) rfl) rfl
theorem u_140 : Cond.superclass "java/lang/Throwable" "java/lang/Object" ∈ Tw := Tw_1 (List.mem_of_getElem? (i := 140) rfl) rfl
theorem u_141 : Cond.instanceMethod ⟨"java/lang/Throwable", "<init>", "()V"⟩ ∈ Tw := Tw_1 (List.mem_of_getElem? (i := 141) rfl) rfl
theorem u_142 : Cond.code ⟨"java/lang/Throwable", "<init>", "()V"⟩ prog_25_method_1_code 1 (Option.none : Option FieldType) ∈ Tw := Tw_1 (List.mem_of_getElem? (i := 142) rfl) rfl
theorem u_143 : Cond.methodLink "java/lang/Throwable" 1 ⟨"java/lang/Object", "<init>", "()V"⟩ ∈ Tw := Tw_1 (List.mem_of_getElem? (i := 143) rfl) rfl
theorem u_144 : Cond.fieldLink "java/lang/Throwable" 13 "java/lang/Throwable" "UNASSIGNED_STACK" "[Ljava/lang/StackTraceElement;" ∈ Tw := Tw_1 (List.mem_of_getElem? (i := 144) rfl) rfl
theorem u_146 : Cond.fieldLink "java/lang/Throwable" 20 "java/lang/Throwable" "SUPPRESSED_SENTINEL" "Ljava/util/List;" ∈ Tw := Tw_1 (List.mem_of_getElem? (i := 146) rfl) rfl
theorem u_148 : Cond.methodLink "java/lang/Throwable" 27 ⟨"java/lang/Throwable", "fillInStackTrace", "()Ljava/lang/Throwable;"⟩ ∈ Tw := Tw_1 (List.mem_of_getElem? (i := 148) rfl) rfl
theorem u_149 : Cond.instanceMethod ⟨"java/lang/Throwable", "fillInStackTrace", "()Ljava/lang/Throwable;"⟩ ∈ Tw := Tw_1 (List.mem_of_getElem? (i := 149) rfl) rfl
theorem u_150 : Cond.sameMethod "java/lang/Throwable" "java/lang/Throwable" "fillInStackTrace" "()Ljava/lang/Throwable;" ∈ Tw := Tw_1 (List.mem_of_getElem? (i := 150) rfl) rfl
theorem u_151 : Cond.selects "java/lang/IllegalArgumentException" ⟨"java/lang/Throwable", "fillInStackTrace", "()Ljava/lang/Throwable;"⟩ ⟨"java/lang/Throwable", "fillInStackTrace", "()Ljava/lang/Throwable;"⟩ ∈ Tw := Tw_1 (List.mem_of_getElem? (i := 151) rfl) rfl
theorem u_152 : Cond.codeSync ⟨"java/lang/Throwable", "fillInStackTrace", "()Ljava/lang/Throwable;"⟩ prog_25_method_18_code 1 (Option.some (FieldType.object "java/lang/Throwable")) ∈ Tw := Tw_1 (List.mem_of_getElem? (i := 152) rfl) rfl
theorem u_153 : Cond.methodLink "java/lang/Throwable" 202 ⟨"java/lang/Throwable", "fillInStackTrace", "(I)Ljava/lang/Throwable;"⟩ ∈ Tw := Tw_1 (List.mem_of_getElem? (i := 153) rfl) rfl
theorem u_155 : Cond.instanceMethod ⟨"java/lang/Throwable", "fillInStackTrace", "(I)Ljava/lang/Throwable;"⟩ ∈ Tw := Tw_1 (List.mem_of_getElem? (i := 155) rfl) rfl
theorem u_156 : Cond.instantiable "java/lang/Throwable" 6 ∈ Tw := Tw_1 (List.mem_of_getElem? (i := 156) rfl) rfl
theorem u_157 : Cond.native ⟨"java/lang/Throwable", "fillInStackTrace", "(I)Ljava/lang/Throwable;"⟩ ∈ Tw := Tw_1 (List.mem_of_getElem? (i := 157) rfl) rfl
theorem u_159 : Cond.methodLink "PromiseDesk" 69 ⟨"java/lang/IllegalStateException", "<init>", "(Ljava/lang/String;)V"⟩ ∈ Tw := Tw_1 (List.mem_of_getElem? (i := 159) rfl) rfl
theorem u_160 : Cond.instanceMethod ⟨"java/lang/IllegalStateException", "<init>", "(Ljava/lang/String;)V"⟩ ∈ Tw := Tw_1 (List.mem_of_getElem? (i := 160) rfl) rfl
theorem u_161 : Cond.code ⟨"java/lang/IllegalStateException", "<init>", "(Ljava/lang/String;)V"⟩ prog_19_method_2_code 2 (Option.none : Option FieldType) ∈ Tw := Tw_1 (List.mem_of_getElem? (i := 161) rfl) rfl
theorem u_162 : Cond.methodLink "java/lang/IllegalStateException" 7 ⟨"java/lang/RuntimeException", "<init>", "(Ljava/lang/String;)V"⟩ ∈ Tw := Tw_1 (List.mem_of_getElem? (i := 162) rfl) rfl
theorem u_163 : Cond.instanceMethod ⟨"java/lang/RuntimeException", "<init>", "(Ljava/lang/String;)V"⟩ ∈ Tw := Tw_1 (List.mem_of_getElem? (i := 163) rfl) rfl
theorem u_164 : Cond.code ⟨"java/lang/RuntimeException", "<init>", "(Ljava/lang/String;)V"⟩ prog_22_method_2_code 2 (Option.none : Option FieldType) ∈ Tw := Tw_1 (List.mem_of_getElem? (i := 164) rfl) rfl
theorem u_165 : Cond.methodLink "java/lang/RuntimeException" 7 ⟨"java/lang/Exception", "<init>", "(Ljava/lang/String;)V"⟩ ∈ Tw := Tw_1 (List.mem_of_getElem? (i := 165) rfl) rfl
theorem u_166 : Cond.instanceMethod ⟨"java/lang/Exception", "<init>", "(Ljava/lang/String;)V"⟩ ∈ Tw := Tw_1 (List.mem_of_getElem? (i := 166) rfl) rfl
theorem u_167 : Cond.code ⟨"java/lang/Exception", "<init>", "(Ljava/lang/String;)V"⟩ prog_17_method_2_code 2 (Option.none : Option FieldType) ∈ Tw := Tw_1 (List.mem_of_getElem? (i := 167) rfl) rfl
theorem u_168 : Cond.methodLink "java/lang/Exception" 7 ⟨"java/lang/Throwable", "<init>", "(Ljava/lang/String;)V"⟩ ∈ Tw := Tw_1 (List.mem_of_getElem? (i := 168) rfl) rfl
theorem u_169 : Cond.instanceMethod ⟨"java/lang/Throwable", "<init>", "(Ljava/lang/String;)V"⟩ ∈ Tw := Tw_1 (List.mem_of_getElem? (i := 169) rfl) rfl
theorem u_170 : Cond.code ⟨"java/lang/Throwable", "<init>", "(Ljava/lang/String;)V"⟩ prog_25_method_2_code 2 (Option.none : Option FieldType) ∈ Tw := Tw_1 (List.mem_of_getElem? (i := 170) rfl) rfl
theorem u_171 : Cond.fieldLink "java/lang/Throwable" 198 "java/lang/Throwable" "backtrace" "Ljava/lang/Object;" ∈ Tw := Tw_1 (List.mem_of_getElem? (i := 171) rfl) rfl
theorem u_172 : Cond.fieldLink "java/lang/Throwable" 31 "java/lang/Throwable" "detailMessage" "Ljava/lang/String;" ∈ Tw := Tw_1 (List.mem_of_getElem? (i := 172) rfl) rfl
theorem u_173 : Cond.fieldLink "java/lang/Throwable" 7 "java/lang/Throwable" "cause" "Ljava/lang/Throwable;" ∈ Tw := Tw_1 (List.mem_of_getElem? (i := 173) rfl) rfl
theorem u_174 : Cond.fieldLink "java/lang/Throwable" 17 "java/lang/Throwable" "stackTrace" "[Ljava/lang/StackTraceElement;" ∈ Tw := Tw_1 (List.mem_of_getElem? (i := 174) rfl) rfl
theorem u_175 : Cond.fieldLink "java/lang/Throwable" 24 "java/lang/Throwable" "suppressedExceptions" "Ljava/util/List;" ∈ Tw := Tw_1 (List.mem_of_getElem? (i := 175) rfl) rfl
theorem u_176 : Cond.soleField "java/lang/Throwable" "backtrace" ∈ Tw := Tw_1 (List.mem_of_getElem? (i := 176) rfl) rfl
theorem u_177 : Cond.soleField "java/lang/Throwable" "detailMessage" ∈ Tw := Tw_1 (List.mem_of_getElem? (i := 177) rfl) rfl
theorem u_178 : Cond.soleField "java/lang/Throwable" "cause" ∈ Tw := Tw_1 (List.mem_of_getElem? (i := 178) rfl) rfl
theorem u_179 : Cond.soleField "java/lang/Throwable" "stackTrace" ∈ Tw := Tw_1 (List.mem_of_getElem? (i := 179) rfl) rfl
theorem u_180 : Cond.lays "java/lang/IllegalStateException" "java/lang/Throwable" "depth" "I" ∈ Tw := Tw_1 (List.mem_of_getElem? (i := 180) rfl) rfl
theorem u_181 : Cond.soleField "java/lang/Throwable" "depth" ∈ Tw := Tw_1 (List.mem_of_getElem? (i := 181) rfl) rfl
theorem u_182 : Cond.soleField "java/lang/Throwable" "suppressedExceptions" ∈ Tw := Tw_1 (List.mem_of_getElem? (i := 182) rfl) rfl
theorem u_183 : Cond.superclass "java/lang/IllegalStateException" "java/lang/RuntimeException" ∈ Tw := Tw_1 (List.mem_of_getElem? (i := 183) rfl) rfl
theorem u_184 : Cond.arrayClass FieldType.byte ∈ Tw := Tw_1 (List.mem_of_getElem? (i := 184) rfl) rfl
theorem u_185 : Cond.methodLink "PromiseDesk" 30 yX11_newPromise ∈ Tw := Tw_1 (List.mem_of_getElem? (i := 185) rfl) rfl
theorem u_187 : Cond.instanceMethod yX11_newPromise ∈ Tw := Tw_1 (List.mem_of_getElem? (i := 187) rfl) rfl
theorem u_188 : Cond.code yX11_newPromise prog_1_method_34_code 2 (Option.some (FieldType.object "PromiseDesk$Resolvers")) ∈ Tw := Tw_1 (List.mem_of_getElem? (i := 188) rfl) rfl
theorem u_189 : Cond.classLink "PromiseDesk" 41 "PromiseDesk$Promise" ∈ Tw := Tw_1 (List.mem_of_getElem? (i := 189) rfl) rfl
theorem u_190 : Cond.instantiable "PromiseDesk$Promise" 9 ∈ Tw := Tw_1 (List.mem_of_getElem? (i := 190) rfl) rfl
theorem u_191 : Cond.methodLink "PromiseDesk" 83 yX11_nextValue ∈ Tw := Tw_1 (List.mem_of_getElem? (i := 191) rfl) rfl
theorem u_193 : Cond.instanceMethod yX11_nextValue ∈ Tw := Tw_1 (List.mem_of_getElem? (i := 193) rfl) rfl
theorem u_194 : Cond.code yX11_nextValue prog_1_method_32_code 1 (Option.some FieldType.int) ∈ Tw := Tw_1 (List.mem_of_getElem? (i := 194) rfl) rfl
theorem u_195 : Cond.methodLink "PromiseDesk" 250 yX6_init ∈ Tw := Tw_1 (List.mem_of_getElem? (i := 195) rfl) rfl
theorem u_196 : Cond.instanceMethod yX6_init ∈ Tw := Tw_1 (List.mem_of_getElem? (i := 196) rfl) rfl
theorem u_197 : Cond.code yX6_init prog_8_method_1_code 2 (Option.none : Option FieldType) ∈ Tw := Tw_1 (List.mem_of_getElem? (i := 197) rfl) rfl
theorem u_198 : Cond.methodLink "PromiseDesk$Promise" 3 yX10_init ∈ Tw := Tw_1 (List.mem_of_getElem? (i := 198) rfl) rfl
theorem u_199 : Cond.instanceMethod yX10_init ∈ Tw := Tw_1 (List.mem_of_getElem? (i := 199) rfl) rfl
theorem u_200 : Cond.code yX10_init prog_12_method_1_code 4 (Option.none : Option FieldType) ∈ Tw := Tw_1 (List.mem_of_getElem? (i := 200) rfl) rfl
theorem u_201 : Cond.methodLink "PromiseDesk$Thing" 1 ⟨"java/lang/Object", "<init>", "()V"⟩ ∈ Tw := Tw_1 (List.mem_of_getElem? (i := 201) rfl) rfl
theorem u_202 : Cond.fieldLink "PromiseDesk$Promise" 9 "PromiseDesk$Promise" "state" "I" ∈ Tw := Tw_1 (List.mem_of_getElem? (i := 202) rfl) rfl
theorem u_203 : Cond.fieldLink "PromiseDesk" 187 "PromiseDesk$Promise" "state" "I" ∈ Tw := Tw_1 (List.mem_of_getElem? (i := 203) rfl) rfl
theorem u_204 : Cond.fieldLink "PromiseDesk$Promise" 15 "PromiseDesk$Promise" "result" "I" ∈ Tw := Tw_1 (List.mem_of_getElem? (i := 204) rfl) rfl
theorem u_205 : Cond.fieldLink "PromiseDesk" 190 "PromiseDesk$Promise" "result" "I" ∈ Tw := Tw_1 (List.mem_of_getElem? (i := 205) rfl) rfl
theorem u_206 : Cond.fieldLink "PromiseDesk" 183 "PromiseDesk$Promise" "handled" "Z" ∈ Tw := Tw_1 (List.mem_of_getElem? (i := 206) rfl) rfl
theorem u_207 : Cond.fieldLink "PromiseDesk" 40 "PromiseDesk$Promise" "kept" "LPromiseDesk$Resolvers;" ∈ Tw := Tw_1 (List.mem_of_getElem? (i := 207) rfl) rfl
theorem u_208 : Cond.fieldLink "PromiseDesk" 297 "PromiseDesk$Promise" "firstWaiting" "LPromiseDesk$Job;" ∈ Tw := Tw_1 (List.mem_of_getElem? (i := 208) rfl) rfl
theorem u_209 : Cond.fieldLink "PromiseDesk" 300 "PromiseDesk$Promise" "lastWaiting" "LPromiseDesk$Job;" ∈ Tw := Tw_1 (List.mem_of_getElem? (i := 209) rfl) rfl
theorem u_210 : Cond.fieldLink "PromiseDesk$Thing" 7 "PromiseDesk$Thing" "value" "I" ∈ Tw := Tw_1 (List.mem_of_getElem? (i := 210) rfl) rfl
theorem u_211 : Cond.fieldLink "PromiseDesk" 46 "PromiseDesk$Promise" "value" "I" ∈ Tw := Tw_1 (List.mem_of_getElem? (i := 211) rfl) rfl
theorem u_212 : Cond.sameField "PromiseDesk$Promise" "PromiseDesk$Thing" "value" "I" ∈ Tw := Tw_1 (List.mem_of_getElem? (i := 212) rfl) rfl
theorem u_213 : Cond.fieldLink "PromiseDesk" 101 "PromiseDesk$Thenable" "value" "I" ∈ Tw := Tw_1 (List.mem_of_getElem? (i := 213) rfl) rfl
theorem u_214 : Cond.sameField "PromiseDesk$Thenable" "PromiseDesk$Thing" "value" "I" ∈ Tw := Tw_1 (List.mem_of_getElem? (i := 214) rfl) rfl
theorem u_215 : Cond.fieldLink "PromiseDesk" 249 "PromiseDesk$Thing" "value" "I" ∈ Tw := Tw_1 (List.mem_of_getElem? (i := 215) rfl) rfl
theorem u_216 : Cond.fieldLink "PromiseDesk$Thing" 13 "PromiseDesk$Thing" "kind" "I" ∈ Tw := Tw_1 (List.mem_of_getElem? (i := 216) rfl) rfl
theorem u_217 : Cond.fieldLink "PromiseDesk" 197 "PromiseDesk$Thing" "kind" "I" ∈ Tw := Tw_1 (List.mem_of_getElem? (i := 217) rfl) rfl
theorem u_218 : Cond.fieldLink "PromiseDesk$Thing" 16 "PromiseDesk$Thing" "parts" "[I" ∈ Tw := Tw_1 (List.mem_of_getElem? (i := 218) rfl) rfl
theorem u_219 : Cond.fieldLink "PromiseDesk" 237 "PromiseDesk$Thing" "parts" "[I" ∈ Tw := Tw_1 (List.mem_of_getElem? (i := 219) rfl) rfl
theorem u_220 : Cond.lays "PromiseDesk$Promise" "PromiseDesk$Promise" "state" "I" ∈ Tw := Tw_1 (List.mem_of_getElem? (i := 220) rfl) rfl
theorem u_221 : Cond.soleField "PromiseDesk$Promise" "state" ∈ Tw := Tw_1 (List.mem_of_getElem? (i := 221) rfl) rfl
theorem u_222 : Cond.lays "PromiseDesk$Promise" "PromiseDesk$Promise" "result" "I" ∈ Tw := Tw_1 (List.mem_of_getElem? (i := 222) rfl) rfl
theorem u_223 : Cond.soleField "PromiseDesk$Promise" "result" ∈ Tw := Tw_1 (List.mem_of_getElem? (i := 223) rfl) rfl
theorem u_224 : Cond.lays "PromiseDesk$Promise" "PromiseDesk$Promise" "handled" "Z" ∈ Tw := Tw_1 (List.mem_of_getElem? (i := 224) rfl) rfl
theorem u_225 : Cond.soleField "PromiseDesk$Promise" "handled" ∈ Tw := Tw_1 (List.mem_of_getElem? (i := 225) rfl) rfl
theorem u_226 : Cond.lays "PromiseDesk$Promise" "PromiseDesk$Promise" "kept" "LPromiseDesk$Resolvers;" ∈ Tw := Tw_1 (List.mem_of_getElem? (i := 226) rfl) rfl
theorem u_227 : Cond.soleField "PromiseDesk$Promise" "kept" ∈ Tw := Tw_1 (List.mem_of_getElem? (i := 227) rfl) rfl
theorem u_228 : Cond.lays "PromiseDesk$Promise" "PromiseDesk$Promise" "firstWaiting" "LPromiseDesk$Job;" ∈ Tw := Tw_1 (List.mem_of_getElem? (i := 228) rfl) rfl
theorem u_229 : Cond.soleField "PromiseDesk$Promise" "firstWaiting" ∈ Tw := Tw_1 (List.mem_of_getElem? (i := 229) rfl) rfl
theorem u_230 : Cond.lays "PromiseDesk$Promise" "PromiseDesk$Promise" "lastWaiting" "LPromiseDesk$Job;" ∈ Tw := Tw_1 (List.mem_of_getElem? (i := 230) rfl) rfl
theorem u_231 : Cond.soleField "PromiseDesk$Promise" "lastWaiting" ∈ Tw := Tw_1 (List.mem_of_getElem? (i := 231) rfl) rfl
theorem u_232 : Cond.laysFinal "PromiseDesk$Promise" "PromiseDesk$Thing" "value" "I" ∈ Tw := Tw_1 (List.mem_of_getElem? (i := 232) rfl) rfl
theorem u_233 : Cond.soleField "PromiseDesk$Thing" "value" ∈ Tw := Tw_1 (List.mem_of_getElem? (i := 233) rfl) rfl
theorem u_234 : Cond.laysFinal "PromiseDesk$Promise" "PromiseDesk$Thing" "kind" "I" ∈ Tw := Tw_1 (List.mem_of_getElem? (i := 234) rfl) rfl
theorem u_235 : Cond.soleField "PromiseDesk$Thing" "kind" ∈ Tw := Tw_1 (List.mem_of_getElem? (i := 235) rfl) rfl
theorem u_236 : Cond.laysFinal "PromiseDesk$Promise" "PromiseDesk$Thing" "parts" "[I" ∈ Tw := Tw_1 (List.mem_of_getElem? (i := 236) rfl) rfl
theorem u_237 : Cond.soleField "PromiseDesk$Thing" "parts" ∈ Tw := Tw_1 (List.mem_of_getElem? (i := 237) rfl) rfl
theorem u_238 : Cond.superclass "PromiseDesk$Promise" "PromiseDesk$Thing" ∈ Tw := Tw_1 (List.mem_of_getElem? (i := 238) rfl) rfl
theorem u_239 : Cond.methodLink "PromiseDesk" 77 yJx4a65c_add_9ea2d ∈ Tw := Tw_1 (List.mem_of_getElem? (i := 239) rfl) rfl
theorem u_240 : Cond.instanceMethod yJx4a65c_add_9ea2d ∈ Tw := Tw_2 (List.mem_of_getElem? (i := 0) rfl) rfl
theorem u_241 : Cond.selects "java/util/ArrayList" yJx4a65c_add_9ea2d yJx4a65c_add_9ea2d ∈ Tw := Tw_2 (List.mem_of_getElem? (i := 1) rfl) rfl
theorem u_242 : Cond.code yJx4a65c_add_9ea2d prog_28_method_25_code 2 (Option.some FieldType.boolean) ∈ Tw := Tw_2 (List.mem_of_getElem? (i := 2) rfl) rfl
theorem u_243 : Cond.methodLink "java/util/ArrayList" 131 yJx4a65c_add_72be8 ∈ Tw := Tw_2 (List.mem_of_getElem? (i := 3) rfl) rfl
theorem u_245 : Cond.instanceMethod yJx4a65c_add_72be8 ∈ Tw := Tw_2 (List.mem_of_getElem? (i := 5) rfl) rfl
theorem u_246 : Cond.code yJx4a65c_add_72be8 prog_28_method_24_code 4 (Option.none : Option FieldType) ∈ Tw := Tw_2 (List.mem_of_getElem? (i := 6) rfl) rfl
theorem u_247 : Cond.methodLink "java/util/ArrayList" 129 yJx4a65c_grow_d5877 ∈ Tw := Tw_2 (List.mem_of_getElem? (i := 7) rfl) rfl
theorem u_249 : Cond.instanceMethod yJx4a65c_grow_d5877 ∈ Tw := Tw_2 (List.mem_of_getElem? (i := 9) rfl) rfl
theorem u_250 : Cond.code yJx4a65c_grow_d5877 prog_28_method_7_code 1 (Option.some (FieldType.array (FieldType.object "java/lang/Object"))) ∈ Tw := Tw_2 (List.mem_of_getElem? (i := 10) rfl) rfl
theorem u_251 : Cond.methodLink "java/util/ArrayList" 69 yJx4a65c_grow_92f84 ∈ Tw := Tw_2 (List.mem_of_getElem? (i := 11) rfl) rfl
theorem u_253 : Cond.instanceMethod yJx4a65c_grow_92f84 ∈ Tw := Tw_2 (List.mem_of_getElem? (i := 13) rfl) rfl
theorem u_254 : Cond.code yJx4a65c_grow_92f84 prog_28_method_6_code 4 (Option.some (FieldType.array (FieldType.object "java/lang/Object"))) ∈ Tw := Tw_2 (List.mem_of_getElem? (i := 14) rfl) rfl
theorem u_255 : Cond.methodLink "java/util/ArrayList" 73 yJ8_newLength_cabcc ∈ Tw := Tw_2 (List.mem_of_getElem? (i := 15) rfl) rfl
theorem u_256 : Cond.static yJ8_newLength_cabcc ∈ Tw := Tw_2 (List.mem_of_getElem? (i := 16) rfl) rfl
theorem u_257 : Cond.code yJ8_newLength_cabcc prog_35_method_27_code 4 (Option.some FieldType.int) ∈ Tw := Tw_2 (List.mem_of_getElem? (i := 17) rfl) rfl
theorem u_258 : Cond.methodLink "jdk/internal/util/ArraysSupport" 194 yJ9_max_7cf53 ∈ Tw := Tw_2 (List.mem_of_getElem? (i := 18) rfl) rfl
theorem u_259 : Cond.static yJ9_max_7cf53 ∈ Tw := Tw_2 (List.mem_of_getElem? (i := 19) rfl) rfl
theorem u_260 : Cond.code yJ9_max_7cf53 prog_21_method_65_code 2 (Option.some FieldType.int) ∈ Tw := Tw_2 (List.mem_of_getElem? (i := 20) rfl) rfl
theorem u_261 : Cond.constant "jdk/internal/util/ArraysSupport" 200 2147483639 ∈ Tw := Tw_2 (List.mem_of_getElem? (i := 21) rfl) rfl
theorem u_262 : Cond.methodLink "jdk/internal/util/ArraysSupport" 201 yJ8_hugeLength_7cf53 ∈ Tw := Tw_2 (List.mem_of_getElem? (i := 22) rfl) rfl
theorem u_263 : Cond.static yJ8_hugeLength_7cf53 ∈ Tw := Tw_2 (List.mem_of_getElem? (i := 23) rfl) rfl
theorem u_264 : Cond.code yJ8_hugeLength_7cf53 prog_35_method_28_code 3 (Option.some FieldType.int) ∈ Tw := Tw_2 (List.mem_of_getElem? (i := 24) rfl) rfl
theorem u_265 : Cond.methodLink "java/util/ArrayList" 66 yJ7_copyOf_1904c ∈ Tw := Tw_2 (List.mem_of_getElem? (i := 25) rfl) rfl
theorem u_266 : Cond.static yJ7_copyOf_1904c ∈ Tw := Tw_2 (List.mem_of_getElem? (i := 26) rfl) rfl
theorem u_267 : Cond.code yJ7_copyOf_1904c prog_29_method_119_code 2 (Option.some (FieldType.array (FieldType.object "java/lang/Object"))) ∈ Tw := Tw_2 (List.mem_of_getElem? (i := 27) rfl) rfl
theorem u_268 : Cond.methodLink "java/util/Arrays" 86 ⟨"java/lang/Object", "getClass", "()Ljava/lang/Class;"⟩ ∈ Tw := Tw_2 (List.mem_of_getElem? (i := 28) rfl) rfl
theorem u_269 : Cond.instanceMethod ⟨"java/lang/Object", "getClass", "()Ljava/lang/Class;"⟩ ∈ Tw := Tw_2 (List.mem_of_getElem? (i := 29) rfl) rfl
theorem u_270 : Cond.sameMethod "java/lang/Object" "java/lang/Object" "getClass" "()Ljava/lang/Class;" ∈ Tw := Tw_2 (List.mem_of_getElem? (i := 30) rfl) rfl
theorem u_271 : Cond.selects "PromiseDesk" ⟨"java/lang/Object", "getClass", "()Ljava/lang/Class;"⟩ ⟨"java/lang/Object", "getClass", "()Ljava/lang/Class;"⟩ ∈ Tw := Tw_2 (List.mem_of_getElem? (i := 31) rfl) rfl
theorem u_272 : Cond.selects "PromiseDesk$AsyncRun" ⟨"java/lang/Object", "getClass", "()Ljava/lang/Class;"⟩ ⟨"java/lang/Object", "getClass", "()Ljava/lang/Class;"⟩ ∈ Tw := Tw_2 (List.mem_of_getElem? (i := 32) rfl) rfl
theorem u_273 : Cond.selects "PromiseDesk$Combination" ⟨"java/lang/Object", "getClass", "()Ljava/lang/Class;"⟩ ⟨"java/lang/Object", "getClass", "()Ljava/lang/Class;"⟩ ∈ Tw := Tw_2 (List.mem_of_getElem? (i := 33) rfl) rfl
theorem u_274 : Cond.selects "PromiseDesk$Element" ⟨"java/lang/Object", "getClass", "()Ljava/lang/Class;"⟩ ⟨"java/lang/Object", "getClass", "()Ljava/lang/Class;"⟩ ∈ Tw := Tw_2 (List.mem_of_getElem? (i := 34) rfl) rfl
theorem u_275 : Cond.selects "PromiseDesk$Job" ⟨"java/lang/Object", "getClass", "()Ljava/lang/Class;"⟩ ⟨"java/lang/Object", "getClass", "()Ljava/lang/Class;"⟩ ∈ Tw := Tw_2 (List.mem_of_getElem? (i := 35) rfl) rfl
theorem u_276 : Cond.selects "PromiseDesk$Lastly" ⟨"java/lang/Object", "getClass", "()Ljava/lang/Class;"⟩ ⟨"java/lang/Object", "getClass", "()Ljava/lang/Class;"⟩ ∈ Tw := Tw_2 (List.mem_of_getElem? (i := 36) rfl) rfl
theorem u_277 : Cond.selects "PromiseDesk$Promise" ⟨"java/lang/Object", "getClass", "()Ljava/lang/Class;"⟩ ⟨"java/lang/Object", "getClass", "()Ljava/lang/Class;"⟩ ∈ Tw := Tw_2 (List.mem_of_getElem? (i := 37) rfl) rfl
theorem u_278 : Cond.selects "PromiseDesk$Resolvers" ⟨"java/lang/Object", "getClass", "()Ljava/lang/Class;"⟩ ⟨"java/lang/Object", "getClass", "()Ljava/lang/Class;"⟩ ∈ Tw := Tw_2 (List.mem_of_getElem? (i := 38) rfl) rfl
theorem u_279 : Cond.selects "PromiseDesk$Simple" ⟨"java/lang/Object", "getClass", "()Ljava/lang/Class;"⟩ ⟨"java/lang/Object", "getClass", "()Ljava/lang/Class;"⟩ ∈ Tw := Tw_2 (List.mem_of_getElem? (i := 39) rfl) rfl
theorem u_280 : Cond.selects "PromiseDesk$Thenable" ⟨"java/lang/Object", "getClass", "()Ljava/lang/Class;"⟩ ⟨"java/lang/Object", "getClass", "()Ljava/lang/Class;"⟩ ∈ Tw := Tw_2 (List.mem_of_getElem? (i := 40) rfl) rfl
theorem u_281 : Cond.selects "PromiseDesk$Thing" ⟨"java/lang/Object", "getClass", "()Ljava/lang/Class;"⟩ ⟨"java/lang/Object", "getClass", "()Ljava/lang/Class;"⟩ ∈ Tw := Tw_2 (List.mem_of_getElem? (i := 41) rfl) rfl
theorem u_282 : Cond.selects "PromiseDeskModel" ⟨"java/lang/Object", "getClass", "()Ljava/lang/Class;"⟩ ⟨"java/lang/Object", "getClass", "()Ljava/lang/Class;"⟩ ∈ Tw := Tw_2 (List.mem_of_getElem? (i := 42) rfl) rfl
theorem u_283 : Cond.selects "java/lang/IllegalArgumentException" ⟨"java/lang/Object", "getClass", "()Ljava/lang/Class;"⟩ ⟨"java/lang/Object", "getClass", "()Ljava/lang/Class;"⟩ ∈ Tw := Tw_2 (List.mem_of_getElem? (i := 43) rfl) rfl
theorem u_284 : Cond.selects "java/lang/IllegalStateException" ⟨"java/lang/Object", "getClass", "()Ljava/lang/Class;"⟩ ⟨"java/lang/Object", "getClass", "()Ljava/lang/Class;"⟩ ∈ Tw := Tw_2 (List.mem_of_getElem? (i := 44) rfl) rfl
theorem u_285 : Cond.selects "java/util/ArrayList" ⟨"java/lang/Object", "getClass", "()Ljava/lang/Class;"⟩ ⟨"java/lang/Object", "getClass", "()Ljava/lang/Class;"⟩ ∈ Tw := Tw_2 (List.mem_of_getElem? (i := 45) rfl) rfl
theorem u_286 : Cond.native ⟨"java/lang/Object", "getClass", "()Ljava/lang/Class;"⟩ ∈ Tw := Tw_2 (List.mem_of_getElem? (i := 46) rfl) rfl
theorem u_287 : Cond.methodLink "java/util/Arrays" 300 yJ7_copyOf_6403c ∈ Tw := Tw_2 (List.mem_of_getElem? (i := 47) rfl) rfl
theorem u_288 : Cond.static yJ7_copyOf_6403c ∈ Tw := Tw_2 (List.mem_of_getElem? (i := 48) rfl) rfl
theorem u_289 : Cond.code yJ7_copyOf_6403c prog_29_method_120_code 4 (Option.some (FieldType.array (FieldType.object "java/lang/Object"))) ∈ Tw := Tw_2 (List.mem_of_getElem? (i := 49) rfl) rfl
theorem u_290 : Cond.classLink "java/util/Arrays" 110 "[Ljava/lang/Object;" ∈ Tw := Tw_2 (List.mem_of_getElem? (i := 50) rfl) rfl
theorem u_292 : Cond.classLink "java/util/Arrays" 2 "java/lang/Object" ∈ Tw := Tw_2 (List.mem_of_getElem? (i := 52) rfl) rfl
theorem u_293 : Cond.methodLink "java/util/Arrays" 304 yJ9_min_7cf53 ∈ Tw := Tw_2 (List.mem_of_getElem? (i := 53) rfl) rfl
theorem u_294 : Cond.static yJ9_min_7cf53 ∈ Tw := Tw_2 (List.mem_of_getElem? (i := 54) rfl) rfl
theorem u_295 : Cond.code yJ9_min_7cf53 prog_21_method_69_code 2 (Option.some FieldType.int) ∈ Tw := Tw_2 (List.mem_of_getElem? (i := 55) rfl) rfl
theorem u_296 : Cond.methodLink "java/util/Arrays" 150 ⟨"java/lang/System", "arraycopy", "(Ljava/lang/Object;ILjava/lang/Object;II)V"⟩ ∈ Tw := Tw_2 (List.mem_of_getElem? (i := 56) rfl) rfl
theorem u_297 : Cond.static ⟨"java/lang/System", "arraycopy", "(Ljava/lang/Object;ILjava/lang/Object;II)V"⟩ ∈ Tw := Tw_2 (List.mem_of_getElem? (i := 57) rfl) rfl
theorem u_298 : Cond.native ⟨"java/lang/System", "arraycopy", "(Ljava/lang/Object;ILjava/lang/Object;II)V"⟩ ∈ Tw := Tw_2 (List.mem_of_getElem? (i := 58) rfl) rfl
theorem u_299 : Cond.methodLink "java/util/ArrayList" 79 yJ9_max_7cf53 ∈ Tw := Tw_2 (List.mem_of_getElem? (i := 59) rfl) rfl
theorem u_300 : Cond.classLink "java/util/ArrayList" 7 "java/lang/Object" ∈ Tw := Tw_2 (List.mem_of_getElem? (i := 60) rfl) rfl
theorem u_301 : Cond.classLink "PromiseDesk" 35 "PromiseDesk$Resolvers" ∈ Tw := Tw_2 (List.mem_of_getElem? (i := 61) rfl) rfl
theorem u_302 : Cond.instantiable "PromiseDesk$Resolvers" 2 ∈ Tw := Tw_2 (List.mem_of_getElem? (i := 62) rfl) rfl
theorem u_303 : Cond.methodLink "PromiseDesk" 252 yX7_init ∈ Tw := Tw_2 (List.mem_of_getElem? (i := 63) rfl) rfl
theorem u_304 : Cond.instanceMethod yX7_init ∈ Tw := Tw_2 (List.mem_of_getElem? (i := 64) rfl) rfl
theorem u_305 : Cond.code yX7_init prog_9_method_1_code 2 (Option.none : Option FieldType) ∈ Tw := Tw_2 (List.mem_of_getElem? (i := 65) rfl) rfl
theorem u_306 : Cond.methodLink "PromiseDesk$Resolvers" 1 ⟨"java/lang/Object", "<init>", "()V"⟩ ∈ Tw := Tw_2 (List.mem_of_getElem? (i := 66) rfl) rfl
theorem u_307 : Cond.fieldLink "PromiseDesk$Resolvers" 7 "PromiseDesk$Resolvers" "promise" "LPromiseDesk$Promise;" ∈ Tw := Tw_2 (List.mem_of_getElem? (i := 67) rfl) rfl
theorem u_308 : Cond.fieldLink "PromiseDesk" 34 "PromiseDesk$Resolvers" "promise" "LPromiseDesk$Promise;" ∈ Tw := Tw_2 (List.mem_of_getElem? (i := 68) rfl) rfl
theorem u_309 : Cond.fieldLink "PromiseDesk" 269 "PromiseDesk$Resolvers" "called" "Z" ∈ Tw := Tw_2 (List.mem_of_getElem? (i := 69) rfl) rfl
theorem u_310 : Cond.laysFinal "PromiseDesk$Resolvers" "PromiseDesk$Resolvers" "promise" "LPromiseDesk$Promise;" ∈ Tw := Tw_2 (List.mem_of_getElem? (i := 70) rfl) rfl
theorem u_311 : Cond.soleField "PromiseDesk$Resolvers" "promise" ∈ Tw := Tw_2 (List.mem_of_getElem? (i := 71) rfl) rfl
theorem u_312 : Cond.lays "PromiseDesk$Resolvers" "PromiseDesk$Resolvers" "called" "Z" ∈ Tw := Tw_2 (List.mem_of_getElem? (i := 72) rfl) rfl
theorem u_313 : Cond.soleField "PromiseDesk$Resolvers" "called" ∈ Tw := Tw_2 (List.mem_of_getElem? (i := 73) rfl) rfl
theorem u_314 : Cond.superclass "PromiseDesk$Resolvers" "java/lang/Object" ∈ Tw := Tw_2 (List.mem_of_getElem? (i := 74) rfl) rfl
theorem u_315 : Cond.methodLink "PromiseDeskLaw" 87 yL_handler ∈ Tw := Tw_2 (List.mem_of_getElem? (i := 75) rfl) rfl
theorem u_316 : Cond.static yL_handler ∈ Tw := Tw_2 (List.mem_of_getElem? (i := 76) rfl) rfl
theorem u_317 : Cond.codeWith yL_handler method_4_code 5 (Option.some FieldType.int) [(0, 10, 13, 19), (0, 10, 17, 13)] ∈ Tw := Tw_2 (List.mem_of_getElem? (i := 77) rfl) rfl
theorem u_318 : Cond.classLink "PromiseDeskLaw" 19 "java/lang/IllegalArgumentException" ∈ Tw := Tw_2 (List.mem_of_getElem? (i := 78) rfl) rfl
theorem u_319 : Cond.methodLink "PromiseDeskLaw" 15 yX11_handler ∈ Tw := Tw_2 (List.mem_of_getElem? (i := 79) rfl) rfl
theorem u_320 : Cond.instanceMethod yX11_handler ∈ Tw := Tw_2 (List.mem_of_getElem? (i := 80) rfl) rfl
theorem u_321 : Cond.selects "PromiseDesk" yX11_handler yX11_handler ∈ Tw := Tw_2 (List.mem_of_getElem? (i := 81) rfl) rfl
theorem u_322 : Cond.code yX11_handler prog_1_method_3_code 4 (Option.some FieldType.int) ∈ Tw := Tw_2 (List.mem_of_getElem? (i := 82) rfl) rfl
theorem u_323 : Cond.methodLink "PromiseDesk" 50 yX11_requireRange ∈ Tw := Tw_2 (List.mem_of_getElem? (i := 83) rfl) rfl
theorem u_325 : Cond.instanceMethod yX11_requireRange ∈ Tw := Tw_2 (List.mem_of_getElem? (i := 85) rfl) rfl
theorem u_326 : Cond.code yX11_requireRange prog_1_method_21_code 4 (Option.none : Option FieldType) ∈ Tw := Tw_2 (List.mem_of_getElem? (i := 86) rfl) rfl
theorem u_327 : Cond.classLink "PromiseDesk" 213 "java/lang/IllegalArgumentException" ∈ Tw := Tw_2 (List.mem_of_getElem? (i := 87) rfl) rfl
theorem u_328 : Cond.instantiable "java/lang/IllegalArgumentException" 6 ∈ Tw := Tw_2 (List.mem_of_getElem? (i := 88) rfl) rfl
theorem u_330 : Cond.selects "java/lang/IllegalArgumentException" ⟨"java/lang/Throwable", "fillInStackTrace", "(I)Ljava/lang/Throwable;"⟩ ⟨"java/lang/Throwable", "fillInStackTrace", "(I)Ljava/lang/Throwable;"⟩ ∈ Tw := Tw_2 (List.mem_of_getElem? (i := 90) rfl) rfl
theorem u_331 : Cond.lays "java/lang/IllegalArgumentException" "java/lang/Throwable" "cause" "Ljava/lang/Throwable;" ∈ Tw := Tw_2 (List.mem_of_getElem? (i := 91) rfl) rfl
theorem u_332 : Cond.lays "java/lang/IllegalArgumentException" "java/lang/Throwable" "stackTrace" "[Ljava/lang/StackTraceElement;" ∈ Tw := Tw_2 (List.mem_of_getElem? (i := 92) rfl) rfl
theorem u_333 : Cond.lays "java/lang/IllegalArgumentException" "java/lang/Throwable" "suppressedExceptions" "Ljava/util/List;" ∈ Tw := Tw_2 (List.mem_of_getElem? (i := 93) rfl) rfl
theorem u_334 : Cond.lays "java/lang/IllegalArgumentException" "java/lang/Throwable" "detailMessage" "Ljava/lang/String;" ∈ Tw := Tw_2 (List.mem_of_getElem? (i := 94) rfl) rfl
theorem u_335 : Cond.lays "java/lang/IllegalArgumentException" "java/lang/Throwable" "backtrace" "Ljava/lang/Object;" ∈ Tw := Tw_2 (List.mem_of_getElem? (i := 95) rfl) rfl
theorem u_337 : Cond.methodLink "PromiseDesk" 217 ⟨"java/lang/IllegalArgumentException", "<init>", "(Ljava/lang/String;)V"⟩ ∈ Tw := Tw_2 (List.mem_of_getElem? (i := 97) rfl) rfl
theorem u_338 : Cond.instanceMethod ⟨"java/lang/IllegalArgumentException", "<init>", "(Ljava/lang/String;)V"⟩ ∈ Tw := Tw_2 (List.mem_of_getElem? (i := 98) rfl) rfl
theorem u_339 : Cond.code ⟨"java/lang/IllegalArgumentException", "<init>", "(Ljava/lang/String;)V"⟩ prog_18_method_2_code 2 (Option.none : Option FieldType) ∈ Tw := Tw_2 (List.mem_of_getElem? (i := 99) rfl) rfl
theorem u_340 : Cond.methodLink "java/lang/IllegalArgumentException" 7 ⟨"java/lang/RuntimeException", "<init>", "(Ljava/lang/String;)V"⟩ ∈ Tw := Tw_2 (List.mem_of_getElem? (i := 100) rfl) rfl
theorem u_341 : Cond.lays "java/lang/IllegalArgumentException" "java/lang/Throwable" "depth" "I" ∈ Tw := Tw_2 (List.mem_of_getElem? (i := 101) rfl) rfl
theorem u_342 : Cond.superclass "java/lang/IllegalArgumentException" "java/lang/RuntimeException" ∈ Tw := Tw_2 (List.mem_of_getElem? (i := 102) rfl) rfl
theorem u_343 : Cond.methodLink "PromiseDesk" 54 yX11_requireValue ∈ Tw := Tw_2 (List.mem_of_getElem? (i := 103) rfl) rfl
theorem u_345 : Cond.instanceMethod yX11_requireValue ∈ Tw := Tw_2 (List.mem_of_getElem? (i := 105) rfl) rfl
theorem u_346 : Cond.code yX11_requireValue prog_1_method_22_code 3 (Option.none : Option FieldType) ∈ Tw := Tw_2 (List.mem_of_getElem? (i := 106) rfl) rfl
theorem u_347 : Cond.methodLink "PromiseDesk" 220 yX11_thingOf ∈ Tw := Tw_2 (List.mem_of_getElem? (i := 107) rfl) rfl
theorem u_349 : Cond.instanceMethod yX11_thingOf ∈ Tw := Tw_2 (List.mem_of_getElem? (i := 109) rfl) rfl
theorem u_350 : Cond.code yX11_thingOf prog_1_method_31_code 3 (Option.some (FieldType.object "PromiseDesk$Thing")) ∈ Tw := Tw_2 (List.mem_of_getElem? (i := 110) rfl) rfl
theorem u_351 : Cond.methodLink "PromiseDesk" 233 yJx4a65c_get_915e3 ∈ Tw := Tw_2 (List.mem_of_getElem? (i := 111) rfl) rfl
theorem u_352 : Cond.instanceMethod yJx4a65c_get_915e3 ∈ Tw := Tw_2 (List.mem_of_getElem? (i := 112) rfl) rfl
theorem u_353 : Cond.selects "java/util/ArrayList" yJx4a65c_get_915e3 yJx4a65c_get_915e3 ∈ Tw := Tw_2 (List.mem_of_getElem? (i := 113) rfl) rfl
theorem u_354 : Cond.code yJx4a65c_get_915e3 prog_28_method_20_code 2 (Option.some (FieldType.object "java/lang/Object")) ∈ Tw := Tw_2 (List.mem_of_getElem? (i := 114) rfl) rfl
theorem u_355 : Cond.methodLink "java/util/ArrayList" 118 yJ15_checkIndex_7cf53 ∈ Tw := Tw_2 (List.mem_of_getElem? (i := 115) rfl) rfl
theorem u_356 : Cond.static yJ15_checkIndex_7cf53 ∈ Tw := Tw_2 (List.mem_of_getElem? (i := 116) rfl) rfl
theorem u_357 : Cond.code yJ15_checkIndex_7cf53 prog_32_method_17_code 2 (Option.some FieldType.int) ∈ Tw := Tw_2 (List.mem_of_getElem? (i := 117) rfl) rfl
theorem u_358 : Cond.methodLink "java/util/Objects" 105 yJ3_checkIndex_8e157 ∈ Tw := Tw_2 (List.mem_of_getElem? (i := 118) rfl) rfl
theorem u_359 : Cond.static yJ3_checkIndex_8e157 ∈ Tw := Tw_2 (List.mem_of_getElem? (i := 119) rfl) rfl
theorem u_360 : Cond.code yJ3_checkIndex_8e157 prog_36_method_11_code 3 (Option.some FieldType.int) ∈ Tw := Tw_2 (List.mem_of_getElem? (i := 120) rfl) rfl
theorem u_361 : Cond.methodLink "java/util/ArrayList" 123 yJx4a65c_elementData_915e3 ∈ Tw := Tw_2 (List.mem_of_getElem? (i := 121) rfl) rfl
theorem u_362 : Cond.instanceMethod yJx4a65c_elementData_915e3 ∈ Tw := Tw_2 (List.mem_of_getElem? (i := 122) rfl) rfl
theorem u_363 : Cond.selects "java/util/ArrayList" yJx4a65c_elementData_915e3 yJx4a65c_elementData_915e3 ∈ Tw := Tw_2 (List.mem_of_getElem? (i := 123) rfl) rfl
theorem u_364 : Cond.code yJx4a65c_elementData_915e3 prog_28_method_18_code 2 (Option.some (FieldType.object "java/lang/Object")) ∈ Tw := Tw_2 (List.mem_of_getElem? (i := 124) rfl) rfl
theorem u_365 : Cond.classLink "PromiseDesk" 198 "PromiseDesk$Thing" ∈ Tw := Tw_2 (List.mem_of_getElem? (i := 125) rfl) rfl
theorem u_367 : Cond.methodLink "PromiseDesk" 57 yX11_requireKept ∈ Tw := Tw_2 (List.mem_of_getElem? (i := 127) rfl) rfl
theorem u_369 : Cond.instanceMethod yX11_requireKept ∈ Tw := Tw_2 (List.mem_of_getElem? (i := 129) rfl) rfl
theorem u_370 : Cond.code yX11_requireKept prog_1_method_26_code 3 (Option.some (FieldType.object "PromiseDesk$Resolvers")) ∈ Tw := Tw_2 (List.mem_of_getElem? (i := 130) rfl) rfl
theorem u_371 : Cond.methodLink "PromiseDesk" 111 yX11_requirePromise ∈ Tw := Tw_2 (List.mem_of_getElem? (i := 131) rfl) rfl
theorem u_373 : Cond.instanceMethod yX11_requirePromise ∈ Tw := Tw_2 (List.mem_of_getElem? (i := 133) rfl) rfl
theorem u_374 : Cond.code yX11_requirePromise prog_1_method_24_code 4 (Option.some (FieldType.object "PromiseDesk$Promise")) ∈ Tw := Tw_2 (List.mem_of_getElem? (i := 134) rfl) rfl
theorem u_378 : Cond.classLink "PromiseDesk" 72 "PromiseDesk$Simple" ∈ Tw := Tw_2 (List.mem_of_getElem? (i := 138) rfl) rfl
theorem u_379 : Cond.instantiable "PromiseDesk$Simple" 4 ∈ Tw := Tw_2 (List.mem_of_getElem? (i := 139) rfl) rfl
theorem u_380 : Cond.methodLink "PromiseDesk" 74 yX8_init ∈ Tw := Tw_2 (List.mem_of_getElem? (i := 140) rfl) rfl
theorem u_381 : Cond.instanceMethod yX8_init ∈ Tw := Tw_2 (List.mem_of_getElem? (i := 141) rfl) rfl
theorem u_382 : Cond.code yX8_init prog_10_method_1_code 5 (Option.none : Option FieldType) ∈ Tw := Tw_2 (List.mem_of_getElem? (i := 142) rfl) rfl
theorem u_384 : Cond.instanceMethod yX3_init ∈ Tw := Tw_2 (List.mem_of_getElem? (i := 144) rfl) rfl
theorem u_385 : Cond.code yX3_init prog_5_method_1_code 1 (Option.none : Option FieldType) ∈ Tw := Tw_2 (List.mem_of_getElem? (i := 145) rfl) rfl
theorem u_386 : Cond.methodLink "PromiseDesk$Function" 1 ⟨"java/lang/Object", "<init>", "()V"⟩ ∈ Tw := Tw_2 (List.mem_of_getElem? (i := 146) rfl) rfl
theorem u_387 : Cond.fieldLink "PromiseDesk$Simple" 9 "PromiseDesk$Simple" "number" "I" ∈ Tw := Tw_2 (List.mem_of_getElem? (i := 147) rfl) rfl
theorem u_388 : Cond.fieldLink "PromiseDesk$Simple" 15 "PromiseDesk$Simple" "act" "I" ∈ Tw := Tw_2 (List.mem_of_getElem? (i := 148) rfl) rfl
theorem u_389 : Cond.fieldLink "PromiseDesk$Simple" 18 "PromiseDesk$Simple" "value" "I" ∈ Tw := Tw_2 (List.mem_of_getElem? (i := 149) rfl) rfl
theorem u_390 : Cond.fieldLink "PromiseDesk$Simple" 21 "PromiseDesk$Simple" "target" "LPromiseDesk$Resolvers;" ∈ Tw := Tw_2 (List.mem_of_getElem? (i := 150) rfl) rfl
theorem u_391 : Cond.laysFinal "PromiseDesk$Simple" "PromiseDesk$Simple" "number" "I" ∈ Tw := Tw_2 (List.mem_of_getElem? (i := 151) rfl) rfl
theorem u_392 : Cond.soleField "PromiseDesk$Simple" "number" ∈ Tw := Tw_2 (List.mem_of_getElem? (i := 152) rfl) rfl
theorem u_393 : Cond.laysFinal "PromiseDesk$Simple" "PromiseDesk$Simple" "act" "I" ∈ Tw := Tw_2 (List.mem_of_getElem? (i := 153) rfl) rfl
theorem u_394 : Cond.soleField "PromiseDesk$Simple" "act" ∈ Tw := Tw_2 (List.mem_of_getElem? (i := 154) rfl) rfl
theorem u_395 : Cond.laysFinal "PromiseDesk$Simple" "PromiseDesk$Simple" "value" "I" ∈ Tw := Tw_2 (List.mem_of_getElem? (i := 155) rfl) rfl
theorem u_396 : Cond.soleField "PromiseDesk$Simple" "value" ∈ Tw := Tw_2 (List.mem_of_getElem? (i := 156) rfl) rfl
theorem u_397 : Cond.laysFinal "PromiseDesk$Simple" "PromiseDesk$Simple" "target" "LPromiseDesk$Resolvers;" ∈ Tw := Tw_2 (List.mem_of_getElem? (i := 157) rfl) rfl
theorem u_398 : Cond.soleField "PromiseDesk$Simple" "target" ∈ Tw := Tw_2 (List.mem_of_getElem? (i := 158) rfl) rfl
theorem u_399 : Cond.superclass "PromiseDesk$Simple" "PromiseDesk$Function" ∈ Tw := Tw_2 (List.mem_of_getElem? (i := 159) rfl) rfl
theorem u_400 : Cond.methodLink "PromiseDeskLaw" 91 yL_thenable ∈ Tw := Tw_2 (List.mem_of_getElem? (i := 160) rfl) rfl
theorem u_401 : Cond.static yL_thenable ∈ Tw := Tw_2 (List.mem_of_getElem? (i := 161) rfl) rfl
theorem u_402 : Cond.codeWith yL_thenable method_5_code 8 (Option.some FieldType.int) [(0, 16, 19, 19), (0, 16, 23, 13)] ∈ Tw := Tw_2 (List.mem_of_getElem? (i := 162) rfl) rfl
theorem u_403 : Cond.methodLink "PromiseDeskLaw" 21 yX11_thenable ∈ Tw := Tw_2 (List.mem_of_getElem? (i := 163) rfl) rfl
theorem u_404 : Cond.instanceMethod yX11_thenable ∈ Tw := Tw_2 (List.mem_of_getElem? (i := 164) rfl) rfl
theorem u_405 : Cond.selects "PromiseDesk" yX11_thenable yX11_thenable ∈ Tw := Tw_2 (List.mem_of_getElem? (i := 165) rfl) rfl
theorem u_406 : Cond.code yX11_thenable prog_1_method_4_code 7 (Option.some FieldType.int) ∈ Tw := Tw_2 (List.mem_of_getElem? (i := 166) rfl) rfl
theorem u_407 : Cond.classLink "PromiseDesk" 81 "PromiseDesk$Thenable" ∈ Tw := Tw_2 (List.mem_of_getElem? (i := 167) rfl) rfl
theorem u_408 : Cond.instantiable "PromiseDesk$Thenable" 9 ∈ Tw := Tw_2 (List.mem_of_getElem? (i := 168) rfl) rfl
theorem u_409 : Cond.methodLink "PromiseDesk" 86 yX9_init ∈ Tw := Tw_2 (List.mem_of_getElem? (i := 169) rfl) rfl
theorem u_410 : Cond.instanceMethod yX9_init ∈ Tw := Tw_2 (List.mem_of_getElem? (i := 170) rfl) rfl
theorem u_411 : Cond.code yX9_init prog_11_method_1_code 3 (Option.none : Option FieldType) ∈ Tw := Tw_2 (List.mem_of_getElem? (i := 171) rfl) rfl
theorem u_412 : Cond.methodLink "PromiseDesk$Thenable" 3 yX10_init ∈ Tw := Tw_2 (List.mem_of_getElem? (i := 172) rfl) rfl
theorem u_413 : Cond.fieldLink "PromiseDesk$Thenable" 9 "PromiseDesk$Thenable" "what" "I" ∈ Tw := Tw_2 (List.mem_of_getElem? (i := 173) rfl) rfl
theorem u_414 : Cond.fieldLink "PromiseDesk" 283 "PromiseDesk$Thenable" "what" "I" ∈ Tw := Tw_2 (List.mem_of_getElem? (i := 174) rfl) rfl
theorem u_415 : Cond.fieldLink "PromiseDesk" 89 "PromiseDesk$Thenable" "firstAct" "I" ∈ Tw := Tw_2 (List.mem_of_getElem? (i := 175) rfl) rfl
theorem u_416 : Cond.fieldLink "PromiseDesk" 92 "PromiseDesk$Thenable" "firstValue" "I" ∈ Tw := Tw_2 (List.mem_of_getElem? (i := 176) rfl) rfl
theorem u_417 : Cond.fieldLink "PromiseDesk" 95 "PromiseDesk$Thenable" "secondAct" "I" ∈ Tw := Tw_2 (List.mem_of_getElem? (i := 177) rfl) rfl
theorem u_418 : Cond.fieldLink "PromiseDesk" 98 "PromiseDesk$Thenable" "secondValue" "I" ∈ Tw := Tw_2 (List.mem_of_getElem? (i := 178) rfl) rfl
theorem u_419 : Cond.fieldLink "PromiseDesk" 110 "PromiseDesk$Thenable" "kept" "LPromiseDesk$Resolvers;" ∈ Tw := Tw_2 (List.mem_of_getElem? (i := 179) rfl) rfl
theorem u_420 : Cond.laysFinal "PromiseDesk$Thenable" "PromiseDesk$Thenable" "what" "I" ∈ Tw := Tw_2 (List.mem_of_getElem? (i := 180) rfl) rfl
theorem u_421 : Cond.soleField "PromiseDesk$Thenable" "what" ∈ Tw := Tw_2 (List.mem_of_getElem? (i := 181) rfl) rfl
theorem u_422 : Cond.lays "PromiseDesk$Thenable" "PromiseDesk$Thenable" "firstAct" "I" ∈ Tw := Tw_2 (List.mem_of_getElem? (i := 182) rfl) rfl
theorem u_423 : Cond.soleField "PromiseDesk$Thenable" "firstAct" ∈ Tw := Tw_2 (List.mem_of_getElem? (i := 183) rfl) rfl
theorem u_424 : Cond.lays "PromiseDesk$Thenable" "PromiseDesk$Thenable" "firstValue" "I" ∈ Tw := Tw_2 (List.mem_of_getElem? (i := 184) rfl) rfl
theorem u_425 : Cond.soleField "PromiseDesk$Thenable" "firstValue" ∈ Tw := Tw_2 (List.mem_of_getElem? (i := 185) rfl) rfl
theorem u_426 : Cond.lays "PromiseDesk$Thenable" "PromiseDesk$Thenable" "secondAct" "I" ∈ Tw := Tw_2 (List.mem_of_getElem? (i := 186) rfl) rfl
theorem u_427 : Cond.soleField "PromiseDesk$Thenable" "secondAct" ∈ Tw := Tw_2 (List.mem_of_getElem? (i := 187) rfl) rfl
theorem u_428 : Cond.lays "PromiseDesk$Thenable" "PromiseDesk$Thenable" "secondValue" "I" ∈ Tw := Tw_2 (List.mem_of_getElem? (i := 188) rfl) rfl
theorem u_429 : Cond.soleField "PromiseDesk$Thenable" "secondValue" ∈ Tw := Tw_2 (List.mem_of_getElem? (i := 189) rfl) rfl
theorem u_430 : Cond.lays "PromiseDesk$Thenable" "PromiseDesk$Thenable" "kept" "LPromiseDesk$Resolvers;" ∈ Tw := Tw_2 (List.mem_of_getElem? (i := 190) rfl) rfl
theorem u_431 : Cond.soleField "PromiseDesk$Thenable" "kept" ∈ Tw := Tw_2 (List.mem_of_getElem? (i := 191) rfl) rfl
theorem u_432 : Cond.laysFinal "PromiseDesk$Thenable" "PromiseDesk$Thing" "value" "I" ∈ Tw := Tw_2 (List.mem_of_getElem? (i := 192) rfl) rfl
theorem u_433 : Cond.laysFinal "PromiseDesk$Thenable" "PromiseDesk$Thing" "kind" "I" ∈ Tw := Tw_2 (List.mem_of_getElem? (i := 193) rfl) rfl
theorem u_434 : Cond.laysFinal "PromiseDesk$Thenable" "PromiseDesk$Thing" "parts" "[I" ∈ Tw := Tw_2 (List.mem_of_getElem? (i := 194) rfl) rfl
theorem u_435 : Cond.superclass "PromiseDesk$Thenable" "PromiseDesk$Thing" ∈ Tw := Tw_2 (List.mem_of_getElem? (i := 195) rfl) rfl
theorem u_436 : Cond.methodLink "PromiseDeskLaw" 95 yL_settle ∈ Tw := Tw_2 (List.mem_of_getElem? (i := 196) rfl) rfl
theorem u_437 : Cond.static yL_settle ∈ Tw := Tw_2 (List.mem_of_getElem? (i := 197) rfl) rfl
theorem u_438 : Cond.codeWith yL_settle method_6_code 6 (Option.some FieldType.int) [(0, 19, 22, 19), (0, 19, 26, 13)] ∈ Tw := Tw_2 (List.mem_of_getElem? (i := 198) rfl) rfl
theorem u_439 : Cond.methodLink "PromiseDeskLaw" 25 yX11_settle ∈ Tw := Tw_2 (List.mem_of_getElem? (i := 199) rfl) rfl
theorem u_440 : Cond.instanceMethod yX11_settle ∈ Tw := Tw_2 (List.mem_of_getElem? (i := 200) rfl) rfl
theorem u_441 : Cond.selects "PromiseDesk" yX11_settle yX11_settle ∈ Tw := Tw_2 (List.mem_of_getElem? (i := 201) rfl) rfl
theorem u_442 : Cond.code yX11_settle prog_1_method_5_code 5 (Option.some FieldType.boolean) ∈ Tw := Tw_2 (List.mem_of_getElem? (i := 202) rfl) rfl
theorem u_443 : Cond.methodLink "PromiseDesk" 102 yX11_callOneOf ∈ Tw := Tw_2 (List.mem_of_getElem? (i := 203) rfl) rfl
theorem u_445 : Cond.instanceMethod yX11_callOneOf ∈ Tw := Tw_2 (List.mem_of_getElem? (i := 205) rfl) rfl
theorem u_446 : Cond.code yX11_callOneOf prog_1_method_39_code 5 (Option.some FieldType.boolean) ∈ Tw := Tw_2 (List.mem_of_getElem? (i := 206) rfl) rfl
theorem u_447 : Cond.methodLink "PromiseDesk" 131 yX11_reject ∈ Tw := Tw_2 (List.mem_of_getElem? (i := 207) rfl) rfl
theorem u_449 : Cond.instanceMethod yX11_reject ∈ Tw := Tw_2 (List.mem_of_getElem? (i := 209) rfl) rfl
theorem u_450 : Cond.code yX11_reject prog_1_method_42_code 3 (Option.none : Option FieldType) ∈ Tw := Tw_2 (List.mem_of_getElem? (i := 210) rfl) rfl
theorem u_451 : Cond.methodLink "PromiseDesk" 279 yX11_close ∈ Tw := Tw_2 (List.mem_of_getElem? (i := 211) rfl) rfl
theorem u_453 : Cond.instanceMethod yX11_close ∈ Tw := Tw_2 (List.mem_of_getElem? (i := 213) rfl) rfl
theorem u_454 : Cond.code yX11_close prog_1_method_43_code 6 (Option.none : Option FieldType) ∈ Tw := Tw_2 (List.mem_of_getElem? (i := 214) rfl) rfl
theorem u_455 : Cond.methodLink "PromiseDesk" 303 yX4_hear ∈ Tw := Tw_2 (List.mem_of_getElem? (i := 215) rfl) rfl
theorem u_456 : Cond.instanceMethod yX4_hear ∈ Tw := Tw_2 (List.mem_of_getElem? (i := 216) rfl) rfl
theorem u_457 : Cond.selects "PromiseDesk$Job" yX4_hear yX4_hear ∈ Tw := Tw_2 (List.mem_of_getElem? (i := 217) rfl) rfl
theorem u_458 : Cond.code yX4_hear prog_6_method_5_code 3 (Option.none : Option FieldType) ∈ Tw := Tw_2 (List.mem_of_getElem? (i := 218) rfl) rfl
theorem u_459 : Cond.methodLink "PromiseDesk" 294 yX11_enqueue ∈ Tw := Tw_2 (List.mem_of_getElem? (i := 219) rfl) rfl
theorem u_461 : Cond.instanceMethod yX11_enqueue ∈ Tw := Tw_2 (List.mem_of_getElem? (i := 221) rfl) rfl
theorem u_462 : Cond.code yX11_enqueue prog_1_method_37_code 2 (Option.none : Option FieldType) ∈ Tw := Tw_2 (List.mem_of_getElem? (i := 222) rfl) rfl
theorem u_463 : Cond.methodLink "PromiseDesk" 272 yX11_resolve ∈ Tw := Tw_2 (List.mem_of_getElem? (i := 223) rfl) rfl
theorem u_465 : Cond.instanceMethod yX11_resolve ∈ Tw := Tw_2 (List.mem_of_getElem? (i := 225) rfl) rfl
theorem u_466 : Cond.code yX11_resolve prog_1_method_40_code 6 (Option.none : Option FieldType) ∈ Tw := Tw_2 (List.mem_of_getElem? (i := 226) rfl) rfl
theorem u_467 : Cond.methodLink "PromiseDesk" 275 yX11_newThing ∈ Tw := Tw_2 (List.mem_of_getElem? (i := 227) rfl) rfl
theorem u_469 : Cond.instanceMethod yX11_newThing ∈ Tw := Tw_2 (List.mem_of_getElem? (i := 229) rfl) rfl
theorem u_470 : Cond.code yX11_newThing prog_1_method_33_code 4 (Option.some FieldType.int) ∈ Tw := Tw_2 (List.mem_of_getElem? (i := 230) rfl) rfl
theorem u_471 : Cond.instantiable "PromiseDesk$Thing" 3 ∈ Tw := Tw_2 (List.mem_of_getElem? (i := 231) rfl) rfl
theorem u_472 : Cond.methodLink "PromiseDesk" 246 yX10_init ∈ Tw := Tw_2 (List.mem_of_getElem? (i := 232) rfl) rfl
theorem u_473 : Cond.laysFinal "PromiseDesk$Thing" "PromiseDesk$Thing" "value" "I" ∈ Tw := Tw_2 (List.mem_of_getElem? (i := 233) rfl) rfl
theorem u_474 : Cond.laysFinal "PromiseDesk$Thing" "PromiseDesk$Thing" "kind" "I" ∈ Tw := Tw_2 (List.mem_of_getElem? (i := 234) rfl) rfl
theorem u_475 : Cond.laysFinal "PromiseDesk$Thing" "PromiseDesk$Thing" "parts" "[I" ∈ Tw := Tw_2 (List.mem_of_getElem? (i := 235) rfl) rfl
theorem u_476 : Cond.superclass "PromiseDesk$Thing" "java/lang/Object" ∈ Tw := Tw_2 (List.mem_of_getElem? (i := 236) rfl) rfl
theorem u_477 : Cond.methodLink "PromiseDesk" 286 yX11_hasThenFunction ∈ Tw := Tw_2 (List.mem_of_getElem? (i := 237) rfl) rfl
theorem u_479 : Cond.instanceMethod yX11_hasThenFunction ∈ Tw := Tw_2 (List.mem_of_getElem? (i := 239) rfl) rfl
theorem u_480 : Cond.code yX11_hasThenFunction prog_1_method_41_code 3 (Option.some FieldType.boolean) ∈ Tw := Tw_3 (List.mem_of_getElem? (i := 0) rfl) rfl
theorem u_481 : Cond.methodLink "PromiseDesk" 290 yX4_follow ∈ Tw := Tw_3 (List.mem_of_getElem? (i := 1) rfl) rfl
theorem u_482 : Cond.static yX4_follow ∈ Tw := Tw_3 (List.mem_of_getElem? (i := 2) rfl) rfl
theorem u_483 : Cond.code yX4_follow prog_6_method_4_code 2 (Option.some (FieldType.object "PromiseDesk$Job")) ∈ Tw := Tw_3 (List.mem_of_getElem? (i := 3) rfl) rfl
theorem u_484 : Cond.classLink "PromiseDesk$Job" 8 "PromiseDesk$Job" ∈ Tw := Tw_3 (List.mem_of_getElem? (i := 4) rfl) rfl
theorem u_485 : Cond.instantiable "PromiseDesk$Job" 8 ∈ Tw := Tw_3 (List.mem_of_getElem? (i := 5) rfl) rfl
theorem u_486 : Cond.classLink "PromiseDesk$Job" 31 "PromiseDesk$Resolvers" ∈ Tw := Tw_3 (List.mem_of_getElem? (i := 6) rfl) rfl
theorem u_487 : Cond.methodLink "PromiseDesk$Job" 33 yX7_init ∈ Tw := Tw_3 (List.mem_of_getElem? (i := 7) rfl) rfl
theorem u_488 : Cond.methodLink "PromiseDesk$Job" 28 yX4_init ∈ Tw := Tw_3 (List.mem_of_getElem? (i := 8) rfl) rfl
theorem u_489 : Cond.instanceMethod yX4_init ∈ Tw := Tw_3 (List.mem_of_getElem? (i := 9) rfl) rfl
theorem u_490 : Cond.code yX4_init prog_6_method_1_code 6 (Option.none : Option FieldType) ∈ Tw := Tw_3 (List.mem_of_getElem? (i := 10) rfl) rfl
theorem u_491 : Cond.methodLink "PromiseDesk$Job" 1 ⟨"java/lang/Object", "<init>", "()V"⟩ ∈ Tw := Tw_3 (List.mem_of_getElem? (i := 11) rfl) rfl
theorem u_492 : Cond.fieldLink "PromiseDesk$Job" 7 "PromiseDesk$Job" "yes" "LPromiseDesk$Function;" ∈ Tw := Tw_3 (List.mem_of_getElem? (i := 12) rfl) rfl
theorem u_493 : Cond.fieldLink "PromiseDesk" 348 "PromiseDesk$Job" "yes" "LPromiseDesk$Function;" ∈ Tw := Tw_3 (List.mem_of_getElem? (i := 13) rfl) rfl
theorem u_494 : Cond.fieldLink "PromiseDesk$Job" 13 "PromiseDesk$Job" "no" "LPromiseDesk$Function;" ∈ Tw := Tw_3 (List.mem_of_getElem? (i := 14) rfl) rfl
theorem u_495 : Cond.fieldLink "PromiseDesk" 344 "PromiseDesk$Job" "no" "LPromiseDesk$Function;" ∈ Tw := Tw_3 (List.mem_of_getElem? (i := 15) rfl) rfl
theorem u_496 : Cond.fieldLink "PromiseDesk$Job" 16 "PromiseDesk$Job" "capability" "LPromiseDesk$Resolvers;" ∈ Tw := Tw_3 (List.mem_of_getElem? (i := 16) rfl) rfl
theorem u_497 : Cond.fieldLink "PromiseDesk" 327 "PromiseDesk$Job" "capability" "LPromiseDesk$Resolvers;" ∈ Tw := Tw_3 (List.mem_of_getElem? (i := 17) rfl) rfl
theorem u_498 : Cond.fieldLink "PromiseDesk$Job" 20 "PromiseDesk$Job" "run" "LPromiseDesk$AsyncRun;" ∈ Tw := Tw_3 (List.mem_of_getElem? (i := 18) rfl) rfl
theorem u_499 : Cond.fieldLink "PromiseDesk" 315 "PromiseDesk$Job" "run" "LPromiseDesk$AsyncRun;" ∈ Tw := Tw_3 (List.mem_of_getElem? (i := 19) rfl) rfl
theorem u_500 : Cond.fieldLink "PromiseDesk$Job" 24 "PromiseDesk$Job" "followed" "LPromiseDesk$Thing;" ∈ Tw := Tw_3 (List.mem_of_getElem? (i := 20) rfl) rfl
theorem u_501 : Cond.fieldLink "PromiseDesk" 323 "PromiseDesk$Job" "followed" "LPromiseDesk$Thing;" ∈ Tw := Tw_3 (List.mem_of_getElem? (i := 21) rfl) rfl
theorem u_502 : Cond.fieldLink "PromiseDesk$Job" 36 "PromiseDesk$Job" "rejects" "Z" ∈ Tw := Tw_3 (List.mem_of_getElem? (i := 22) rfl) rfl
theorem u_503 : Cond.fieldLink "PromiseDesk" 341 "PromiseDesk$Job" "rejects" "Z" ∈ Tw := Tw_3 (List.mem_of_getElem? (i := 23) rfl) rfl
theorem u_504 : Cond.fieldLink "PromiseDesk$Job" 40 "PromiseDesk$Job" "argument" "I" ∈ Tw := Tw_3 (List.mem_of_getElem? (i := 24) rfl) rfl
theorem u_505 : Cond.fieldLink "PromiseDesk" 354 "PromiseDesk$Job" "argument" "I" ∈ Tw := Tw_3 (List.mem_of_getElem? (i := 25) rfl) rfl
theorem u_506 : Cond.fieldLink "PromiseDesk" 264 "PromiseDesk$Job" "next" "LPromiseDesk$Job;" ∈ Tw := Tw_3 (List.mem_of_getElem? (i := 26) rfl) rfl
theorem u_507 : Cond.laysFinal "PromiseDesk$Job" "PromiseDesk$Job" "yes" "LPromiseDesk$Function;" ∈ Tw := Tw_3 (List.mem_of_getElem? (i := 27) rfl) rfl
theorem u_508 : Cond.soleField "PromiseDesk$Job" "yes" ∈ Tw := Tw_3 (List.mem_of_getElem? (i := 28) rfl) rfl
theorem u_509 : Cond.laysFinal "PromiseDesk$Job" "PromiseDesk$Job" "no" "LPromiseDesk$Function;" ∈ Tw := Tw_3 (List.mem_of_getElem? (i := 29) rfl) rfl
theorem u_510 : Cond.soleField "PromiseDesk$Job" "no" ∈ Tw := Tw_3 (List.mem_of_getElem? (i := 30) rfl) rfl
theorem u_511 : Cond.laysFinal "PromiseDesk$Job" "PromiseDesk$Job" "capability" "LPromiseDesk$Resolvers;" ∈ Tw := Tw_3 (List.mem_of_getElem? (i := 31) rfl) rfl
theorem u_512 : Cond.soleField "PromiseDesk$Job" "capability" ∈ Tw := Tw_3 (List.mem_of_getElem? (i := 32) rfl) rfl
theorem u_513 : Cond.laysFinal "PromiseDesk$Job" "PromiseDesk$Job" "run" "LPromiseDesk$AsyncRun;" ∈ Tw := Tw_3 (List.mem_of_getElem? (i := 33) rfl) rfl
theorem u_514 : Cond.soleField "PromiseDesk$Job" "run" ∈ Tw := Tw_3 (List.mem_of_getElem? (i := 34) rfl) rfl
theorem u_515 : Cond.laysFinal "PromiseDesk$Job" "PromiseDesk$Job" "followed" "LPromiseDesk$Thing;" ∈ Tw := Tw_3 (List.mem_of_getElem? (i := 35) rfl) rfl
theorem u_516 : Cond.soleField "PromiseDesk$Job" "followed" ∈ Tw := Tw_3 (List.mem_of_getElem? (i := 36) rfl) rfl
theorem u_517 : Cond.lays "PromiseDesk$Job" "PromiseDesk$Job" "rejects" "Z" ∈ Tw := Tw_3 (List.mem_of_getElem? (i := 37) rfl) rfl
theorem u_518 : Cond.soleField "PromiseDesk$Job" "rejects" ∈ Tw := Tw_3 (List.mem_of_getElem? (i := 38) rfl) rfl
theorem u_519 : Cond.lays "PromiseDesk$Job" "PromiseDesk$Job" "argument" "I" ∈ Tw := Tw_3 (List.mem_of_getElem? (i := 39) rfl) rfl
theorem u_520 : Cond.soleField "PromiseDesk$Job" "argument" ∈ Tw := Tw_3 (List.mem_of_getElem? (i := 40) rfl) rfl
theorem u_521 : Cond.lays "PromiseDesk$Job" "PromiseDesk$Job" "next" "LPromiseDesk$Job;" ∈ Tw := Tw_3 (List.mem_of_getElem? (i := 41) rfl) rfl
theorem u_522 : Cond.soleField "PromiseDesk$Job" "next" ∈ Tw := Tw_3 (List.mem_of_getElem? (i := 42) rfl) rfl
theorem u_523 : Cond.superclass "PromiseDesk$Job" "java/lang/Object" ∈ Tw := Tw_3 (List.mem_of_getElem? (i := 43) rfl) rfl
theorem u_524 : Cond.methodLink "PromiseDeskLaw" 99 yL_later ∈ Tw := Tw_3 (List.mem_of_getElem? (i := 44) rfl) rfl
theorem u_525 : Cond.static yL_later ∈ Tw := Tw_3 (List.mem_of_getElem? (i := 45) rfl) rfl
theorem u_526 : Cond.codeWith yL_later method_7_code 6 (Option.some FieldType.int) [(0, 12, 15, 19), (0, 12, 19, 13)] ∈ Tw := Tw_3 (List.mem_of_getElem? (i := 46) rfl) rfl
theorem u_527 : Cond.methodLink "PromiseDeskLaw" 29 yX11_later ∈ Tw := Tw_3 (List.mem_of_getElem? (i := 47) rfl) rfl
theorem u_528 : Cond.instanceMethod yX11_later ∈ Tw := Tw_3 (List.mem_of_getElem? (i := 48) rfl) rfl
theorem u_529 : Cond.selects "PromiseDesk" yX11_later yX11_later ∈ Tw := Tw_3 (List.mem_of_getElem? (i := 49) rfl) rfl
theorem u_530 : Cond.code yX11_later prog_1_method_6_code 5 (Option.some FieldType.int) ∈ Tw := Tw_3 (List.mem_of_getElem? (i := 50) rfl) rfl
theorem u_531 : Cond.methodLink "PromiseDesk" 106 yX11_requireThenable ∈ Tw := Tw_3 (List.mem_of_getElem? (i := 51) rfl) rfl
theorem u_533 : Cond.instanceMethod yX11_requireThenable ∈ Tw := Tw_3 (List.mem_of_getElem? (i := 53) rfl) rfl
theorem u_534 : Cond.code yX11_requireThenable prog_1_method_25_code 4 (Option.some (FieldType.object "PromiseDesk$Thenable")) ∈ Tw := Tw_3 (List.mem_of_getElem? (i := 54) rfl) rfl
theorem u_536 : Cond.methodLink "PromiseDeskLaw" 102 yL_then ∈ Tw := Tw_3 (List.mem_of_getElem? (i := 56) rfl) rfl
theorem u_537 : Cond.static yL_then ∈ Tw := Tw_3 (List.mem_of_getElem? (i := 57) rfl) rfl
theorem u_538 : Cond.codeWith yL_then method_8_code 7 (Option.some FieldType.int) [(0, 14, 17, 19), (0, 14, 21, 13)] ∈ Tw := Tw_3 (List.mem_of_getElem? (i := 58) rfl) rfl
theorem u_539 : Cond.methodLink "PromiseDeskLaw" 33 yX11_then ∈ Tw := Tw_3 (List.mem_of_getElem? (i := 59) rfl) rfl
theorem u_540 : Cond.instanceMethod yX11_then ∈ Tw := Tw_3 (List.mem_of_getElem? (i := 60) rfl) rfl
theorem u_541 : Cond.selects "PromiseDesk" yX11_then yX11_then ∈ Tw := Tw_3 (List.mem_of_getElem? (i := 61) rfl) rfl
theorem u_542 : Cond.code yX11_then prog_1_method_7_code 8 (Option.some FieldType.int) ∈ Tw := Tw_3 (List.mem_of_getElem? (i := 62) rfl) rfl
theorem u_543 : Cond.methodLink "PromiseDesk" 115 yX11_requireHandler ∈ Tw := Tw_3 (List.mem_of_getElem? (i := 63) rfl) rfl
theorem u_545 : Cond.instanceMethod yX11_requireHandler ∈ Tw := Tw_3 (List.mem_of_getElem? (i := 65) rfl) rfl
theorem u_546 : Cond.code yX11_requireHandler prog_1_method_27_code 2 (Option.some (FieldType.object "PromiseDesk$Simple")) ∈ Tw := Tw_3 (List.mem_of_getElem? (i := 66) rfl) rfl
theorem u_547 : Cond.methodLink "PromiseDesk" 119 yX11_derive ∈ Tw := Tw_3 (List.mem_of_getElem? (i := 67) rfl) rfl
theorem u_549 : Cond.instanceMethod yX11_derive ∈ Tw := Tw_3 (List.mem_of_getElem? (i := 69) rfl) rfl
theorem u_550 : Cond.code yX11_derive prog_1_method_45_code 5 (Option.some FieldType.int) ∈ Tw := Tw_3 (List.mem_of_getElem? (i := 70) rfl) rfl
theorem u_551 : Cond.methodLink "PromiseDesk" 307 yX4_reaction ∈ Tw := Tw_3 (List.mem_of_getElem? (i := 71) rfl) rfl
theorem u_552 : Cond.static yX4_reaction ∈ Tw := Tw_3 (List.mem_of_getElem? (i := 72) rfl) rfl
theorem u_553 : Cond.code yX4_reaction prog_6_method_2_code 3 (Option.some (FieldType.object "PromiseDesk$Job")) ∈ Tw := Tw_3 (List.mem_of_getElem? (i := 73) rfl) rfl
theorem u_554 : Cond.methodLink "PromiseDesk" 311 yX11_attach ∈ Tw := Tw_3 (List.mem_of_getElem? (i := 74) rfl) rfl
theorem u_556 : Cond.instanceMethod yX11_attach ∈ Tw := Tw_3 (List.mem_of_getElem? (i := 76) rfl) rfl
theorem u_557 : Cond.code yX11_attach prog_1_method_46_code 3 (Option.none : Option FieldType) ∈ Tw := Tw_3 (List.mem_of_getElem? (i := 77) rfl) rfl
theorem u_558 : Cond.methodLink "PromiseDeskLaw" 106 yL_lastly ∈ Tw := Tw_3 (List.mem_of_getElem? (i := 78) rfl) rfl
theorem u_559 : Cond.static yL_lastly ∈ Tw := Tw_3 (List.mem_of_getElem? (i := 79) rfl) rfl
theorem u_560 : Cond.codeWith yL_lastly method_9_code 5 (Option.some FieldType.int) [(0, 10, 13, 19), (0, 10, 17, 13)] ∈ Tw := Tw_3 (List.mem_of_getElem? (i := 80) rfl) rfl
theorem u_561 : Cond.methodLink "PromiseDeskLaw" 37 yX11_lastly ∈ Tw := Tw_3 (List.mem_of_getElem? (i := 81) rfl) rfl
theorem u_562 : Cond.instanceMethod yX11_lastly ∈ Tw := Tw_3 (List.mem_of_getElem? (i := 82) rfl) rfl
theorem u_563 : Cond.selects "PromiseDesk" yX11_lastly yX11_lastly ∈ Tw := Tw_3 (List.mem_of_getElem? (i := 83) rfl) rfl
theorem u_564 : Cond.code yX11_lastly prog_1_method_8_code 5 (Option.some FieldType.int) ∈ Tw := Tw_3 (List.mem_of_getElem? (i := 84) rfl) rfl
theorem u_565 : Cond.classLink "PromiseDesk" 123 "PromiseDesk$Lastly" ∈ Tw := Tw_3 (List.mem_of_getElem? (i := 85) rfl) rfl
theorem u_566 : Cond.instantiable "PromiseDesk$Lastly" 2 ∈ Tw := Tw_3 (List.mem_of_getElem? (i := 86) rfl) rfl
theorem u_567 : Cond.methodLink "PromiseDesk" 125 yX5_init ∈ Tw := Tw_3 (List.mem_of_getElem? (i := 87) rfl) rfl
theorem u_568 : Cond.instanceMethod yX5_init ∈ Tw := Tw_3 (List.mem_of_getElem? (i := 88) rfl) rfl
theorem u_569 : Cond.code yX5_init prog_7_method_1_code 3 (Option.none : Option FieldType) ∈ Tw := Tw_3 (List.mem_of_getElem? (i := 89) rfl) rfl
theorem u_571 : Cond.fieldLink "PromiseDesk$Lastly" 9 "PromiseDesk$Lastly" "handler" "LPromiseDesk$Simple;" ∈ Tw := Tw_3 (List.mem_of_getElem? (i := 91) rfl) rfl
theorem u_572 : Cond.fieldLink "PromiseDesk$Lastly" 15 "PromiseDesk$Lastly" "actBehind" "I" ∈ Tw := Tw_3 (List.mem_of_getElem? (i := 92) rfl) rfl
theorem u_573 : Cond.laysFinal "PromiseDesk$Lastly" "PromiseDesk$Lastly" "handler" "LPromiseDesk$Simple;" ∈ Tw := Tw_3 (List.mem_of_getElem? (i := 93) rfl) rfl
theorem u_574 : Cond.soleField "PromiseDesk$Lastly" "handler" ∈ Tw := Tw_3 (List.mem_of_getElem? (i := 94) rfl) rfl
theorem u_575 : Cond.laysFinal "PromiseDesk$Lastly" "PromiseDesk$Lastly" "actBehind" "I" ∈ Tw := Tw_3 (List.mem_of_getElem? (i := 95) rfl) rfl
theorem u_576 : Cond.soleField "PromiseDesk$Lastly" "actBehind" ∈ Tw := Tw_3 (List.mem_of_getElem? (i := 96) rfl) rfl
theorem u_577 : Cond.superclass "PromiseDesk$Lastly" "PromiseDesk$Function" ∈ Tw := Tw_3 (List.mem_of_getElem? (i := 97) rfl) rfl
theorem u_578 : Cond.methodLink "PromiseDeskLaw" 109 yL_wrap ∈ Tw := Tw_3 (List.mem_of_getElem? (i := 98) rfl) rfl
theorem u_579 : Cond.static yL_wrap ∈ Tw := Tw_3 (List.mem_of_getElem? (i := 99) rfl) rfl
theorem u_580 : Cond.codeWith yL_wrap method_10_code 4 (Option.some FieldType.int) [(0, 9, 12, 19), (0, 9, 15, 13)] ∈ Tw := Tw_3 (List.mem_of_getElem? (i := 100) rfl) rfl
theorem u_581 : Cond.methodLink "PromiseDeskLaw" 40 yX11_wrap ∈ Tw := Tw_3 (List.mem_of_getElem? (i := 101) rfl) rfl
theorem u_582 : Cond.instanceMethod yX11_wrap ∈ Tw := Tw_3 (List.mem_of_getElem? (i := 102) rfl) rfl
theorem u_583 : Cond.selects "PromiseDesk" yX11_wrap yX11_wrap ∈ Tw := Tw_3 (List.mem_of_getElem? (i := 103) rfl) rfl
theorem u_584 : Cond.code yX11_wrap prog_1_method_9_code 2 (Option.some FieldType.int) ∈ Tw := Tw_3 (List.mem_of_getElem? (i := 104) rfl) rfl
theorem u_585 : Cond.methodLink "PromiseDesk" 128 yX11_promiseFor ∈ Tw := Tw_3 (List.mem_of_getElem? (i := 105) rfl) rfl
theorem u_587 : Cond.instanceMethod yX11_promiseFor ∈ Tw := Tw_3 (List.mem_of_getElem? (i := 107) rfl) rfl
theorem u_588 : Cond.code yX11_promiseFor prog_1_method_44_code 4 (Option.some (FieldType.object "PromiseDesk$Promise")) ∈ Tw := Tw_3 (List.mem_of_getElem? (i := 108) rfl) rfl
theorem u_589 : Cond.methodLink "PromiseDeskLaw" 113 yL_broken ∈ Tw := Tw_3 (List.mem_of_getElem? (i := 109) rfl) rfl
theorem u_590 : Cond.static yL_broken ∈ Tw := Tw_3 (List.mem_of_getElem? (i := 110) rfl) rfl
theorem u_591 : Cond.codeWith yL_broken method_11_code 4 (Option.some FieldType.int) [(0, 9, 12, 19), (0, 9, 15, 13)] ∈ Tw := Tw_3 (List.mem_of_getElem? (i := 111) rfl) rfl
theorem u_592 : Cond.methodLink "PromiseDeskLaw" 44 yX11_broken ∈ Tw := Tw_3 (List.mem_of_getElem? (i := 112) rfl) rfl
theorem u_593 : Cond.instanceMethod yX11_broken ∈ Tw := Tw_3 (List.mem_of_getElem? (i := 113) rfl) rfl
theorem u_594 : Cond.selects "PromiseDesk" yX11_broken yX11_broken ∈ Tw := Tw_3 (List.mem_of_getElem? (i := 114) rfl) rfl
theorem u_595 : Cond.code yX11_broken prog_1_method_10_code 3 (Option.some FieldType.int) ∈ Tw := Tw_3 (List.mem_of_getElem? (i := 115) rfl) rfl
theorem u_596 : Cond.methodLink "PromiseDeskLaw" 116 yL_item ∈ Tw := Tw_3 (List.mem_of_getElem? (i := 116) rfl) rfl
theorem u_597 : Cond.static yL_item ∈ Tw := Tw_3 (List.mem_of_getElem? (i := 117) rfl) rfl
theorem u_598 : Cond.codeWith yL_item method_12_code 4 (Option.some FieldType.int) [(0, 9, 12, 19), (0, 9, 15, 13)] ∈ Tw := Tw_3 (List.mem_of_getElem? (i := 118) rfl) rfl
theorem u_599 : Cond.methodLink "PromiseDeskLaw" 47 yX11_item ∈ Tw := Tw_3 (List.mem_of_getElem? (i := 119) rfl) rfl
theorem u_600 : Cond.instanceMethod yX11_item ∈ Tw := Tw_3 (List.mem_of_getElem? (i := 120) rfl) rfl
theorem u_601 : Cond.selects "PromiseDesk" yX11_item yX11_item ∈ Tw := Tw_3 (List.mem_of_getElem? (i := 121) rfl) rfl
theorem u_602 : Cond.code yX11_item prog_1_method_11_code 2 (Option.some FieldType.int) ∈ Tw := Tw_3 (List.mem_of_getElem? (i := 122) rfl) rfl
theorem u_604 : Cond.methodLink "PromiseDeskLaw" 119 yL_combine ∈ Tw := Tw_3 (List.mem_of_getElem? (i := 124) rfl) rfl
theorem u_605 : Cond.static yL_combine ∈ Tw := Tw_3 (List.mem_of_getElem? (i := 125) rfl) rfl
theorem u_606 : Cond.codeWith yL_combine method_13_code 4 (Option.some FieldType.int) [(0, 9, 12, 19), (0, 9, 15, 13)] ∈ Tw := Tw_3 (List.mem_of_getElem? (i := 126) rfl) rfl
theorem u_607 : Cond.methodLink "PromiseDeskLaw" 50 yX11_combine ∈ Tw := Tw_3 (List.mem_of_getElem? (i := 127) rfl) rfl
theorem u_608 : Cond.instanceMethod yX11_combine ∈ Tw := Tw_3 (List.mem_of_getElem? (i := 128) rfl) rfl
theorem u_609 : Cond.selects "PromiseDesk" yX11_combine yX11_combine ∈ Tw := Tw_3 (List.mem_of_getElem? (i := 129) rfl) rfl
theorem u_610 : Cond.code yX11_combine prog_1_method_12_code 7 (Option.some FieldType.int) ∈ Tw := Tw_3 (List.mem_of_getElem? (i := 130) rfl) rfl
theorem u_611 : Cond.methodLink "PromiseDesk" 140 yX11_takeList ∈ Tw := Tw_3 (List.mem_of_getElem? (i := 131) rfl) rfl
theorem u_613 : Cond.instanceMethod yX11_takeList ∈ Tw := Tw_3 (List.mem_of_getElem? (i := 133) rfl) rfl
theorem u_614 : Cond.code yX11_takeList prog_1_method_36_code 2 (Option.some (FieldType.array FieldType.int)) ∈ Tw := Tw_3 (List.mem_of_getElem? (i := 134) rfl) rfl
theorem u_615 : Cond.methodLink "PromiseDesk" 255 yJ7_copyOf_59c91 ∈ Tw := Tw_3 (List.mem_of_getElem? (i := 135) rfl) rfl
theorem u_616 : Cond.static yJ7_copyOf_59c91 ∈ Tw := Tw_3 (List.mem_of_getElem? (i := 136) rfl) rfl
theorem u_617 : Cond.code yJ7_copyOf_59c91 prog_29_method_123_code 3 (Option.some (FieldType.array FieldType.int)) ∈ Tw := Tw_3 (List.mem_of_getElem? (i := 137) rfl) rfl
theorem u_618 : Cond.methodLink "java/util/Arrays" 316 ⟨"[I", "clone", "()Ljava/lang/Object;"⟩ ∈ Tw := Tw_3 (List.mem_of_getElem? (i := 138) rfl) rfl
theorem u_619 : Cond.sameMethod "[I" "java/lang/Object" "clone" "()Ljava/lang/Object;" ∈ Tw := Tw_3 (List.mem_of_getElem? (i := 139) rfl) rfl
theorem u_620 : Cond.native ⟨"java/lang/Object", "clone", "()Ljava/lang/Object;"⟩ ∈ Tw := Tw_3 (List.mem_of_getElem? (i := 140) rfl) rfl
theorem u_621 : Cond.instanceMethod ⟨"java/lang/Object", "clone", "()Ljava/lang/Object;"⟩ ∈ Tw := Tw_3 (List.mem_of_getElem? (i := 141) rfl) rfl
theorem u_622 : Cond.selects "[I" ⟨"[I", "clone", "()Ljava/lang/Object;"⟩ ⟨"java/lang/Object", "clone", "()Ljava/lang/Object;"⟩ ∈ Tw := Tw_3 (List.mem_of_getElem? (i := 142) rfl) rfl
theorem u_624 : Cond.classLink "java/util/Arrays" 317 "[I" ∈ Tw := Tw_3 (List.mem_of_getElem? (i := 144) rfl) rfl
theorem u_625 : Cond.classLink "PromiseDesk" 144 "PromiseDesk$Combination" ∈ Tw := Tw_3 (List.mem_of_getElem? (i := 145) rfl) rfl
theorem u_626 : Cond.instantiable "PromiseDesk$Combination" 4 ∈ Tw := Tw_3 (List.mem_of_getElem? (i := 146) rfl) rfl
theorem u_627 : Cond.methodLink "PromiseDesk" 146 yX1_init ∈ Tw := Tw_3 (List.mem_of_getElem? (i := 147) rfl) rfl
theorem u_628 : Cond.instanceMethod yX1_init ∈ Tw := Tw_3 (List.mem_of_getElem? (i := 148) rfl) rfl
theorem u_629 : Cond.code yX1_init prog_3_method_1_code 4 (Option.none : Option FieldType) ∈ Tw := Tw_3 (List.mem_of_getElem? (i := 149) rfl) rfl
theorem u_630 : Cond.methodLink "PromiseDesk$Combination" 1 ⟨"java/lang/Object", "<init>", "()V"⟩ ∈ Tw := Tw_3 (List.mem_of_getElem? (i := 150) rfl) rfl
theorem u_631 : Cond.fieldLink "PromiseDesk$Combination" 7 "PromiseDesk$Combination" "sort" "I" ∈ Tw := Tw_3 (List.mem_of_getElem? (i := 151) rfl) rfl
theorem u_632 : Cond.fieldLink "PromiseDesk$Element" 26 "PromiseDesk$Combination" "sort" "I" ∈ Tw := Tw_3 (List.mem_of_getElem? (i := 152) rfl) rfl
theorem u_633 : Cond.fieldLink "PromiseDesk" 391 "PromiseDesk$Combination" "sort" "I" ∈ Tw := Tw_3 (List.mem_of_getElem? (i := 153) rfl) rfl
theorem u_634 : Cond.fieldLink "PromiseDesk$Combination" 13 "PromiseDesk$Combination" "values" "[I" ∈ Tw := Tw_3 (List.mem_of_getElem? (i := 154) rfl) rfl
theorem u_635 : Cond.fieldLink "PromiseDesk$Element" 35 "PromiseDesk$Combination" "values" "[I" ∈ Tw := Tw_3 (List.mem_of_getElem? (i := 155) rfl) rfl
theorem u_636 : Cond.fieldLink "PromiseDesk" 400 "PromiseDesk$Combination" "values" "[I" ∈ Tw := Tw_3 (List.mem_of_getElem? (i := 156) rfl) rfl
theorem u_637 : Cond.fieldLink "PromiseDesk$Combination" 17 "PromiseDesk$Combination" "capability" "LPromiseDesk$Resolvers;" ∈ Tw := Tw_3 (List.mem_of_getElem? (i := 157) rfl) rfl
theorem u_638 : Cond.fieldLink "PromiseDesk" 399 "PromiseDesk$Combination" "capability" "LPromiseDesk$Resolvers;" ∈ Tw := Tw_3 (List.mem_of_getElem? (i := 158) rfl) rfl
theorem u_639 : Cond.fieldLink "PromiseDesk$Combination" 21 "PromiseDesk$Combination" "remaining" "I" ∈ Tw := Tw_3 (List.mem_of_getElem? (i := 159) rfl) rfl
theorem u_640 : Cond.fieldLink "PromiseDesk$Element" 39 "PromiseDesk$Combination" "remaining" "I" ∈ Tw := Tw_3 (List.mem_of_getElem? (i := 160) rfl) rfl
theorem u_641 : Cond.laysFinal "PromiseDesk$Combination" "PromiseDesk$Combination" "sort" "I" ∈ Tw := Tw_3 (List.mem_of_getElem? (i := 161) rfl) rfl
theorem u_642 : Cond.soleField "PromiseDesk$Combination" "sort" ∈ Tw := Tw_3 (List.mem_of_getElem? (i := 162) rfl) rfl
theorem u_643 : Cond.laysFinal "PromiseDesk$Combination" "PromiseDesk$Combination" "values" "[I" ∈ Tw := Tw_3 (List.mem_of_getElem? (i := 163) rfl) rfl
theorem u_644 : Cond.soleField "PromiseDesk$Combination" "values" ∈ Tw := Tw_3 (List.mem_of_getElem? (i := 164) rfl) rfl
theorem u_645 : Cond.laysFinal "PromiseDesk$Combination" "PromiseDesk$Combination" "capability" "LPromiseDesk$Resolvers;" ∈ Tw := Tw_3 (List.mem_of_getElem? (i := 165) rfl) rfl
theorem u_646 : Cond.soleField "PromiseDesk$Combination" "capability" ∈ Tw := Tw_3 (List.mem_of_getElem? (i := 166) rfl) rfl
theorem u_647 : Cond.lays "PromiseDesk$Combination" "PromiseDesk$Combination" "remaining" "I" ∈ Tw := Tw_3 (List.mem_of_getElem? (i := 167) rfl) rfl
theorem u_648 : Cond.soleField "PromiseDesk$Combination" "remaining" ∈ Tw := Tw_3 (List.mem_of_getElem? (i := 168) rfl) rfl
theorem u_649 : Cond.superclass "PromiseDesk$Combination" "java/lang/Object" ∈ Tw := Tw_3 (List.mem_of_getElem? (i := 169) rfl) rfl
theorem u_650 : Cond.methodLink "PromiseDesk" 149 yX11_onFulfilled ∈ Tw := Tw_3 (List.mem_of_getElem? (i := 170) rfl) rfl
theorem u_652 : Cond.instanceMethod yX11_onFulfilled ∈ Tw := Tw_3 (List.mem_of_getElem? (i := 172) rfl) rfl
theorem u_653 : Cond.code yX11_onFulfilled prog_1_method_53_code 3 (Option.some (FieldType.object "PromiseDesk$Function")) ∈ Tw := Tw_3 (List.mem_of_getElem? (i := 173) rfl) rfl
theorem u_654 : Cond.classLink "PromiseDesk" 394 "PromiseDesk$Element" ∈ Tw := Tw_3 (List.mem_of_getElem? (i := 174) rfl) rfl
theorem u_655 : Cond.instantiable "PromiseDesk$Element" 3 ∈ Tw := Tw_3 (List.mem_of_getElem? (i := 175) rfl) rfl
theorem u_656 : Cond.methodLink "PromiseDesk" 396 yX2_init ∈ Tw := Tw_3 (List.mem_of_getElem? (i := 176) rfl) rfl
theorem u_657 : Cond.instanceMethod yX2_init ∈ Tw := Tw_3 (List.mem_of_getElem? (i := 177) rfl) rfl
theorem u_658 : Cond.code yX2_init prog_4_method_1_code 4 (Option.none : Option FieldType) ∈ Tw := Tw_3 (List.mem_of_getElem? (i := 178) rfl) rfl
theorem u_660 : Cond.fieldLink "PromiseDesk$Element" 9 "PromiseDesk$Element" "combination" "LPromiseDesk$Combination;" ∈ Tw := Tw_3 (List.mem_of_getElem? (i := 180) rfl) rfl
theorem u_661 : Cond.fieldLink "PromiseDesk$Element" 15 "PromiseDesk$Element" "index" "I" ∈ Tw := Tw_3 (List.mem_of_getElem? (i := 181) rfl) rfl
theorem u_662 : Cond.fieldLink "PromiseDesk$Element" 19 "PromiseDesk$Element" "rejects" "Z" ∈ Tw := Tw_3 (List.mem_of_getElem? (i := 182) rfl) rfl
theorem u_663 : Cond.laysFinal "PromiseDesk$Element" "PromiseDesk$Element" "combination" "LPromiseDesk$Combination;" ∈ Tw := Tw_3 (List.mem_of_getElem? (i := 183) rfl) rfl
theorem u_664 : Cond.soleField "PromiseDesk$Element" "combination" ∈ Tw := Tw_3 (List.mem_of_getElem? (i := 184) rfl) rfl
theorem u_665 : Cond.laysFinal "PromiseDesk$Element" "PromiseDesk$Element" "index" "I" ∈ Tw := Tw_3 (List.mem_of_getElem? (i := 185) rfl) rfl
theorem u_666 : Cond.soleField "PromiseDesk$Element" "index" ∈ Tw := Tw_3 (List.mem_of_getElem? (i := 186) rfl) rfl
theorem u_667 : Cond.laysFinal "PromiseDesk$Element" "PromiseDesk$Element" "rejects" "Z" ∈ Tw := Tw_3 (List.mem_of_getElem? (i := 187) rfl) rfl
theorem u_668 : Cond.soleField "PromiseDesk$Element" "rejects" ∈ Tw := Tw_3 (List.mem_of_getElem? (i := 188) rfl) rfl
theorem u_669 : Cond.superclass "PromiseDesk$Element" "PromiseDesk$Function" ∈ Tw := Tw_3 (List.mem_of_getElem? (i := 189) rfl) rfl
theorem u_670 : Cond.methodLink "PromiseDesk" 330 yX8_resolving ∈ Tw := Tw_3 (List.mem_of_getElem? (i := 190) rfl) rfl
theorem u_671 : Cond.static yX8_resolving ∈ Tw := Tw_3 (List.mem_of_getElem? (i := 191) rfl) rfl
theorem u_672 : Cond.code yX8_resolving prog_10_method_2_code 1 (Option.some (FieldType.object "PromiseDesk$Simple")) ∈ Tw := Tw_3 (List.mem_of_getElem? (i := 192) rfl) rfl
theorem u_673 : Cond.classLink "PromiseDesk$Simple" 10 "PromiseDesk$Simple" ∈ Tw := Tw_3 (List.mem_of_getElem? (i := 193) rfl) rfl
theorem u_674 : Cond.methodLink "PromiseDesk$Simple" 25 yX8_init ∈ Tw := Tw_3 (List.mem_of_getElem? (i := 194) rfl) rfl
theorem u_675 : Cond.methodLink "PromiseDesk" 153 yX11_onRejected ∈ Tw := Tw_3 (List.mem_of_getElem? (i := 195) rfl) rfl
theorem u_677 : Cond.instanceMethod yX11_onRejected ∈ Tw := Tw_3 (List.mem_of_getElem? (i := 197) rfl) rfl
theorem u_678 : Cond.code yX11_onRejected prog_1_method_54_code 3 (Option.some (FieldType.object "PromiseDesk$Function")) ∈ Tw := Tw_3 (List.mem_of_getElem? (i := 198) rfl) rfl
theorem u_679 : Cond.methodLink "PromiseDesk" 334 yX8_rejecting ∈ Tw := Tw_3 (List.mem_of_getElem? (i := 199) rfl) rfl
theorem u_680 : Cond.static yX8_rejecting ∈ Tw := Tw_3 (List.mem_of_getElem? (i := 200) rfl) rfl
theorem u_681 : Cond.code yX8_rejecting prog_10_method_3_code 1 (Option.some (FieldType.object "PromiseDesk$Simple")) ∈ Tw := Tw_3 (List.mem_of_getElem? (i := 201) rfl) rfl
theorem u_682 : Cond.methodLink "PromiseDesk" 156 yX11_complete ∈ Tw := Tw_3 (List.mem_of_getElem? (i := 202) rfl) rfl
theorem u_684 : Cond.instanceMethod yX11_complete ∈ Tw := Tw_3 (List.mem_of_getElem? (i := 204) rfl) rfl
theorem u_685 : Cond.code yX11_complete prog_1_method_55_code 3 (Option.none : Option FieldType) ∈ Tw := Tw_3 (List.mem_of_getElem? (i := 205) rfl) rfl
theorem u_686 : Cond.methodLink "PromiseDeskLaw" 122 yL_async ∈ Tw := Tw_3 (List.mem_of_getElem? (i := 206) rfl) rfl
theorem u_687 : Cond.static yL_async ∈ Tw := Tw_3 (List.mem_of_getElem? (i := 207) rfl) rfl
theorem u_688 : Cond.codeWith yL_async method_14_code 5 (Option.some FieldType.int) [(0, 10, 13, 19), (0, 10, 17, 13)] ∈ Tw := Tw_3 (List.mem_of_getElem? (i := 208) rfl) rfl
theorem u_689 : Cond.methodLink "PromiseDeskLaw" 53 yX11_async ∈ Tw := Tw_3 (List.mem_of_getElem? (i := 209) rfl) rfl
theorem u_690 : Cond.instanceMethod yX11_async ∈ Tw := Tw_3 (List.mem_of_getElem? (i := 210) rfl) rfl
theorem u_691 : Cond.selects "PromiseDesk" yX11_async yX11_async ∈ Tw := Tw_3 (List.mem_of_getElem? (i := 211) rfl) rfl
theorem u_692 : Cond.code yX11_async prog_1_method_13_code 5 (Option.some FieldType.int) ∈ Tw := Tw_3 (List.mem_of_getElem? (i := 212) rfl) rfl
theorem u_693 : Cond.classLink "PromiseDesk" 160 "PromiseDesk$AsyncRun" ∈ Tw := Tw_3 (List.mem_of_getElem? (i := 213) rfl) rfl
theorem u_694 : Cond.instantiable "PromiseDesk$AsyncRun" 5 ∈ Tw := Tw_3 (List.mem_of_getElem? (i := 214) rfl) rfl
theorem u_695 : Cond.methodLink "PromiseDesk" 162 yX0_init ∈ Tw := Tw_3 (List.mem_of_getElem? (i := 215) rfl) rfl
theorem u_696 : Cond.instanceMethod yX0_init ∈ Tw := Tw_3 (List.mem_of_getElem? (i := 216) rfl) rfl
theorem u_697 : Cond.code yX0_init prog_2_method_1_code 5 (Option.none : Option FieldType) ∈ Tw := Tw_3 (List.mem_of_getElem? (i := 217) rfl) rfl
theorem u_698 : Cond.methodLink "PromiseDesk$AsyncRun" 1 ⟨"java/lang/Object", "<init>", "()V"⟩ ∈ Tw := Tw_3 (List.mem_of_getElem? (i := 218) rfl) rfl
theorem u_699 : Cond.fieldLink "PromiseDesk$AsyncRun" 7 "PromiseDesk$AsyncRun" "awaited" "[I" ∈ Tw := Tw_3 (List.mem_of_getElem? (i := 219) rfl) rfl
theorem u_700 : Cond.fieldLink "PromiseDesk" 374 "PromiseDesk$AsyncRun" "awaited" "[I" ∈ Tw := Tw_3 (List.mem_of_getElem? (i := 220) rfl) rfl
theorem u_701 : Cond.fieldLink "PromiseDesk$AsyncRun" 13 "PromiseDesk$AsyncRun" "handler" "LPromiseDesk$Simple;" ∈ Tw := Tw_3 (List.mem_of_getElem? (i := 221) rfl) rfl
theorem u_702 : Cond.fieldLink "PromiseDesk" 366 "PromiseDesk$AsyncRun" "handler" "LPromiseDesk$Simple;" ∈ Tw := Tw_3 (List.mem_of_getElem? (i := 222) rfl) rfl
theorem u_703 : Cond.fieldLink "PromiseDesk$AsyncRun" 17 "PromiseDesk$AsyncRun" "end" "I" ∈ Tw := Tw_3 (List.mem_of_getElem? (i := 223) rfl) rfl
theorem u_704 : Cond.fieldLink "PromiseDesk" 377 "PromiseDesk$AsyncRun" "end" "I" ∈ Tw := Tw_3 (List.mem_of_getElem? (i := 224) rfl) rfl
theorem u_705 : Cond.fieldLink "PromiseDesk$AsyncRun" 21 "PromiseDesk$AsyncRun" "capability" "LPromiseDesk$Resolvers;" ∈ Tw := Tw_3 (List.mem_of_getElem? (i := 225) rfl) rfl
theorem u_706 : Cond.fieldLink "PromiseDesk" 371 "PromiseDesk$AsyncRun" "capability" "LPromiseDesk$Resolvers;" ∈ Tw := Tw_3 (List.mem_of_getElem? (i := 226) rfl) rfl
theorem u_707 : Cond.fieldLink "PromiseDesk" 372 "PromiseDesk$AsyncRun" "next" "I" ∈ Tw := Tw_3 (List.mem_of_getElem? (i := 227) rfl) rfl
theorem u_708 : Cond.laysFinal "PromiseDesk$AsyncRun" "PromiseDesk$AsyncRun" "awaited" "[I" ∈ Tw := Tw_3 (List.mem_of_getElem? (i := 228) rfl) rfl
theorem u_709 : Cond.soleField "PromiseDesk$AsyncRun" "awaited" ∈ Tw := Tw_3 (List.mem_of_getElem? (i := 229) rfl) rfl
theorem u_710 : Cond.laysFinal "PromiseDesk$AsyncRun" "PromiseDesk$AsyncRun" "handler" "LPromiseDesk$Simple;" ∈ Tw := Tw_3 (List.mem_of_getElem? (i := 230) rfl) rfl
theorem u_711 : Cond.soleField "PromiseDesk$AsyncRun" "handler" ∈ Tw := Tw_3 (List.mem_of_getElem? (i := 231) rfl) rfl
theorem u_712 : Cond.laysFinal "PromiseDesk$AsyncRun" "PromiseDesk$AsyncRun" "end" "I" ∈ Tw := Tw_3 (List.mem_of_getElem? (i := 232) rfl) rfl
theorem u_713 : Cond.soleField "PromiseDesk$AsyncRun" "end" ∈ Tw := Tw_3 (List.mem_of_getElem? (i := 233) rfl) rfl
theorem u_714 : Cond.laysFinal "PromiseDesk$AsyncRun" "PromiseDesk$AsyncRun" "capability" "LPromiseDesk$Resolvers;" ∈ Tw := Tw_3 (List.mem_of_getElem? (i := 234) rfl) rfl
theorem u_715 : Cond.soleField "PromiseDesk$AsyncRun" "capability" ∈ Tw := Tw_3 (List.mem_of_getElem? (i := 235) rfl) rfl
theorem u_716 : Cond.lays "PromiseDesk$AsyncRun" "PromiseDesk$AsyncRun" "next" "I" ∈ Tw := Tw_3 (List.mem_of_getElem? (i := 236) rfl) rfl
theorem u_717 : Cond.soleField "PromiseDesk$AsyncRun" "next" ∈ Tw := Tw_3 (List.mem_of_getElem? (i := 237) rfl) rfl
theorem u_718 : Cond.superclass "PromiseDesk$AsyncRun" "java/lang/Object" ∈ Tw := Tw_3 (List.mem_of_getElem? (i := 238) rfl) rfl
theorem u_719 : Cond.methodLink "PromiseDesk" 165 yX11_advance ∈ Tw := Tw_3 (List.mem_of_getElem? (i := 239) rfl) rfl
theorem u_721 : Cond.instanceMethod yX11_advance ∈ Tw := Tw_4 (List.mem_of_getElem? (i := 1) rfl) rfl
theorem u_722 : Cond.code yX11_advance prog_1_method_50_code 3 (Option.none : Option FieldType) ∈ Tw := Tw_4 (List.mem_of_getElem? (i := 2) rfl) rfl
theorem u_723 : Cond.methodLink "PromiseDesk" 380 yX4_resumption ∈ Tw := Tw_4 (List.mem_of_getElem? (i := 3) rfl) rfl
theorem u_724 : Cond.static yX4_resumption ∈ Tw := Tw_4 (List.mem_of_getElem? (i := 4) rfl) rfl
theorem u_725 : Cond.code yX4_resumption prog_6_method_3_code 1 (Option.some (FieldType.object "PromiseDesk$Job")) ∈ Tw := Tw_4 (List.mem_of_getElem? (i := 5) rfl) rfl
theorem u_726 : Cond.methodLink "PromiseDeskLaw" 125 yL_jobs ∈ Tw := Tw_4 (List.mem_of_getElem? (i := 6) rfl) rfl
theorem u_727 : Cond.static yL_jobs ∈ Tw := Tw_4 (List.mem_of_getElem? (i := 7) rfl) rfl
theorem u_728 : Cond.codeWith yL_jobs method_15_code 4 (Option.some FieldType.int) [(0, 9, 12, 13)] ∈ Tw := Tw_4 (List.mem_of_getElem? (i := 8) rfl) rfl
theorem u_729 : Cond.methodLink "PromiseDeskLaw" 56 yX11_jobs ∈ Tw := Tw_4 (List.mem_of_getElem? (i := 9) rfl) rfl
theorem u_730 : Cond.instanceMethod yX11_jobs ∈ Tw := Tw_4 (List.mem_of_getElem? (i := 10) rfl) rfl
theorem u_731 : Cond.selects "PromiseDesk" yX11_jobs yX11_jobs ∈ Tw := Tw_4 (List.mem_of_getElem? (i := 11) rfl) rfl
theorem u_732 : Cond.code yX11_jobs prog_1_method_14_code 4 (Option.some FieldType.int) ∈ Tw := Tw_4 (List.mem_of_getElem? (i := 12) rfl) rfl
theorem u_733 : Cond.methodLink "PromiseDesk" 173 yX11_requireRoomInLog ∈ Tw := Tw_4 (List.mem_of_getElem? (i := 13) rfl) rfl
theorem u_735 : Cond.instanceMethod yX11_requireRoomInLog ∈ Tw := Tw_4 (List.mem_of_getElem? (i := 15) rfl) rfl
theorem u_736 : Cond.code yX11_requireRoomInLog prog_1_method_30_code 1 (Option.none : Option FieldType) ∈ Tw := Tw_4 (List.mem_of_getElem? (i := 16) rfl) rfl
theorem u_738 : Cond.methodLink "PromiseDesk" 176 yX11_dequeue ∈ Tw := Tw_4 (List.mem_of_getElem? (i := 18) rfl) rfl
theorem u_740 : Cond.instanceMethod yX11_dequeue ∈ Tw := Tw_4 (List.mem_of_getElem? (i := 20) rfl) rfl
theorem u_741 : Cond.code yX11_dequeue prog_1_method_38_code 2 (Option.none : Option FieldType) ∈ Tw := Tw_4 (List.mem_of_getElem? (i := 21) rfl) rfl
theorem u_742 : Cond.methodLink "PromiseDesk" 180 yX11_doJob ∈ Tw := Tw_4 (List.mem_of_getElem? (i := 22) rfl) rfl
theorem u_744 : Cond.instanceMethod yX11_doJob ∈ Tw := Tw_4 (List.mem_of_getElem? (i := 24) rfl) rfl
theorem u_745 : Cond.code yX11_doJob prog_1_method_47_code 6 (Option.none : Option FieldType) ∈ Tw := Tw_4 (List.mem_of_getElem? (i := 25) rfl) rfl
theorem u_746 : Cond.methodLink "PromiseDesk" 319 yX11_hears ∈ Tw := Tw_4 (List.mem_of_getElem? (i := 26) rfl) rfl
theorem u_748 : Cond.instanceMethod yX11_hears ∈ Tw := Tw_4 (List.mem_of_getElem? (i := 28) rfl) rfl
theorem u_749 : Cond.code yX11_hears prog_1_method_49_code 4 (Option.some FieldType.boolean) ∈ Tw := Tw_4 (List.mem_of_getElem? (i := 29) rfl) rfl
theorem u_750 : Cond.methodLink "PromiseDesk" 370 yX8_callIn ∈ Tw := Tw_4 (List.mem_of_getElem? (i := 30) rfl) rfl
theorem u_751 : Cond.instanceMethod yX8_callIn ∈ Tw := Tw_4 (List.mem_of_getElem? (i := 31) rfl) rfl
theorem u_752 : Cond.selects "PromiseDesk$Simple" yX8_callIn yX8_callIn ∈ Tw := Tw_4 (List.mem_of_getElem? (i := 32) rfl) rfl
theorem u_753 : Cond.code yX8_callIn prog_10_method_4_code 3 (Option.some FieldType.int) ∈ Tw := Tw_4 (List.mem_of_getElem? (i := 33) rfl) rfl
theorem u_756 : Cond.instanceMethod yX11_note ∈ Tw := Tw_4 (List.mem_of_getElem? (i := 36) rfl) rfl
theorem u_757 : Cond.code yX11_note prog_1_method_35_code 3 (Option.none : Option FieldType) ∈ Tw := Tw_4 (List.mem_of_getElem? (i := 37) rfl) rfl
theorem u_760 : Cond.methodLink "PromiseDesk" 337 yX11_callThen ∈ Tw := Tw_4 (List.mem_of_getElem? (i := 40) rfl) rfl
theorem u_762 : Cond.instanceMethod yX11_callThen ∈ Tw := Tw_4 (List.mem_of_getElem? (i := 42) rfl) rfl
theorem u_763 : Cond.code yX11_callThen prog_1_method_51_code 3 (Option.none : Option FieldType) ∈ Tw := Tw_4 (List.mem_of_getElem? (i := 43) rfl) rfl
theorem u_764 : Cond.methodLink "PromiseDesk" 384 yX11_note ∈ Tw := Tw_4 (List.mem_of_getElem? (i := 44) rfl) rfl
theorem u_765 : Cond.methodLink "PromiseDesk" 387 yX11_doAct ∈ Tw := Tw_4 (List.mem_of_getElem? (i := 45) rfl) rfl
theorem u_767 : Cond.instanceMethod yX11_doAct ∈ Tw := Tw_4 (List.mem_of_getElem? (i := 47) rfl) rfl
theorem u_768 : Cond.code yX11_doAct prog_1_method_52_code 5 (Option.none : Option FieldType) ∈ Tw := Tw_4 (List.mem_of_getElem? (i := 48) rfl) rfl
theorem u_769 : Cond.methodLink "PromiseDesk" 357 ⟨"PromiseDesk$Function", "callIn", "(LPromiseDesk;I)I"⟩ ∈ Tw := Tw_4 (List.mem_of_getElem? (i := 49) rfl) rfl
theorem u_771 : Cond.sameMethod "PromiseDesk$Function" "PromiseDesk$Function" "callIn" "(LPromiseDesk;I)I" ∈ Tw := Tw_4 (List.mem_of_getElem? (i := 51) rfl) rfl
theorem u_772 : Cond.selects "PromiseDesk$Element" ⟨"PromiseDesk$Function", "callIn", "(LPromiseDesk;I)I"⟩ yX2_callIn ∈ Tw := Tw_4 (List.mem_of_getElem? (i := 52) rfl) rfl
theorem u_773 : Cond.instanceMethod yX2_callIn ∈ Tw := Tw_4 (List.mem_of_getElem? (i := 53) rfl) rfl
theorem u_774 : Cond.code yX2_callIn prog_4_method_2_code 4 (Option.some FieldType.int) ∈ Tw := Tw_4 (List.mem_of_getElem? (i := 54) rfl) rfl
theorem u_777 : Cond.selects "PromiseDesk$Lastly" ⟨"PromiseDesk$Function", "callIn", "(LPromiseDesk;I)I"⟩ yX5_callIn ∈ Tw := Tw_4 (List.mem_of_getElem? (i := 57) rfl) rfl
theorem u_778 : Cond.instanceMethod yX5_callIn ∈ Tw := Tw_4 (List.mem_of_getElem? (i := 58) rfl) rfl
theorem u_779 : Cond.code yX5_callIn prog_7_method_2_code 5 (Option.some FieldType.int) ∈ Tw := Tw_4 (List.mem_of_getElem? (i := 59) rfl) rfl
theorem u_780 : Cond.methodLink "PromiseDesk$Lastly" 19 yX8_callIn ∈ Tw := Tw_4 (List.mem_of_getElem? (i := 60) rfl) rfl
theorem u_782 : Cond.classLink "PromiseDesk$Lastly" 20 "PromiseDesk$Simple" ∈ Tw := Tw_4 (List.mem_of_getElem? (i := 62) rfl) rfl
theorem u_783 : Cond.methodLink "PromiseDesk$Lastly" 33 yX8_init ∈ Tw := Tw_4 (List.mem_of_getElem? (i := 63) rfl) rfl
theorem u_785 : Cond.selects "PromiseDesk$Simple" ⟨"PromiseDesk$Function", "callIn", "(LPromiseDesk;I)I"⟩ yX8_callIn ∈ Tw := Tw_4 (List.mem_of_getElem? (i := 65) rfl) rfl
theorem u_786 : Cond.methodLink "PromiseDesk" 363 yX11_finish ∈ Tw := Tw_4 (List.mem_of_getElem? (i := 66) rfl) rfl
theorem u_788 : Cond.instanceMethod yX11_finish ∈ Tw := Tw_4 (List.mem_of_getElem? (i := 68) rfl) rfl
theorem u_789 : Cond.code yX11_finish prog_1_method_48_code 3 (Option.none : Option FieldType) ∈ Tw := Tw_4 (List.mem_of_getElem? (i := 69) rfl) rfl
theorem u_790 : Cond.methodLink "PromiseDeskLaw" 128 yL_state ∈ Tw := Tw_4 (List.mem_of_getElem? (i := 70) rfl) rfl
theorem u_791 : Cond.static yL_state ∈ Tw := Tw_4 (List.mem_of_getElem? (i := 71) rfl) rfl
theorem u_792 : Cond.codeWith yL_state method_16_code 4 (Option.some FieldType.int) [(0, 9, 12, 19)] ∈ Tw := Tw_4 (List.mem_of_getElem? (i := 72) rfl) rfl
theorem u_793 : Cond.methodLink "PromiseDeskLaw" 59 yX11_state ∈ Tw := Tw_4 (List.mem_of_getElem? (i := 73) rfl) rfl
theorem u_794 : Cond.instanceMethod yX11_state ∈ Tw := Tw_4 (List.mem_of_getElem? (i := 74) rfl) rfl
theorem u_795 : Cond.selects "PromiseDesk" yX11_state yX11_state ∈ Tw := Tw_4 (List.mem_of_getElem? (i := 75) rfl) rfl
theorem u_796 : Cond.code yX11_state prog_1_method_15_code 3 (Option.some FieldType.int) ∈ Tw := Tw_4 (List.mem_of_getElem? (i := 76) rfl) rfl
theorem u_797 : Cond.methodLink "PromiseDeskLaw" 131 yL_result ∈ Tw := Tw_4 (List.mem_of_getElem? (i := 77) rfl) rfl
theorem u_798 : Cond.static yL_result ∈ Tw := Tw_4 (List.mem_of_getElem? (i := 78) rfl) rfl
theorem u_799 : Cond.codeWith yL_result method_17_code 4 (Option.some FieldType.int) [(0, 9, 12, 19)] ∈ Tw := Tw_4 (List.mem_of_getElem? (i := 79) rfl) rfl
theorem u_800 : Cond.methodLink "PromiseDeskLaw" 62 yX11_result ∈ Tw := Tw_4 (List.mem_of_getElem? (i := 80) rfl) rfl
theorem u_801 : Cond.instanceMethod yX11_result ∈ Tw := Tw_4 (List.mem_of_getElem? (i := 81) rfl) rfl
theorem u_802 : Cond.selects "PromiseDesk" yX11_result yX11_result ∈ Tw := Tw_4 (List.mem_of_getElem? (i := 82) rfl) rfl
theorem u_803 : Cond.code yX11_result prog_1_method_16_code 2 (Option.some FieldType.int) ∈ Tw := Tw_4 (List.mem_of_getElem? (i := 83) rfl) rfl
theorem u_804 : Cond.methodLink "PromiseDeskLaw" 134 yL_kind ∈ Tw := Tw_4 (List.mem_of_getElem? (i := 84) rfl) rfl
theorem u_805 : Cond.static yL_kind ∈ Tw := Tw_4 (List.mem_of_getElem? (i := 85) rfl) rfl
theorem u_806 : Cond.codeWith yL_kind method_18_code 4 (Option.some FieldType.int) [(0, 9, 12, 19)] ∈ Tw := Tw_4 (List.mem_of_getElem? (i := 86) rfl) rfl
theorem u_807 : Cond.methodLink "PromiseDeskLaw" 65 yX11_kind ∈ Tw := Tw_4 (List.mem_of_getElem? (i := 87) rfl) rfl
theorem u_808 : Cond.instanceMethod yX11_kind ∈ Tw := Tw_4 (List.mem_of_getElem? (i := 88) rfl) rfl
theorem u_809 : Cond.selects "PromiseDesk" yX11_kind yX11_kind ∈ Tw := Tw_4 (List.mem_of_getElem? (i := 89) rfl) rfl
theorem u_810 : Cond.code yX11_kind prog_1_method_17_code 2 (Option.some FieldType.int) ∈ Tw := Tw_4 (List.mem_of_getElem? (i := 90) rfl) rfl
theorem u_811 : Cond.methodLink "PromiseDesk" 193 yX11_requireThing ∈ Tw := Tw_4 (List.mem_of_getElem? (i := 91) rfl) rfl
theorem u_813 : Cond.instanceMethod yX11_requireThing ∈ Tw := Tw_4 (List.mem_of_getElem? (i := 93) rfl) rfl
theorem u_814 : Cond.code yX11_requireThing prog_1_method_23_code 3 (Option.some (FieldType.object "PromiseDesk$Thing")) ∈ Tw := Tw_4 (List.mem_of_getElem? (i := 94) rfl) rfl
theorem u_816 : Cond.methodLink "PromiseDeskLaw" 137 yL_part ∈ Tw := Tw_4 (List.mem_of_getElem? (i := 96) rfl) rfl
theorem u_817 : Cond.static yL_part ∈ Tw := Tw_4 (List.mem_of_getElem? (i := 97) rfl) rfl
theorem u_818 : Cond.codeWith yL_part method_19_code 5 (Option.some FieldType.int) [(0, 10, 13, 19)] ∈ Tw := Tw_4 (List.mem_of_getElem? (i := 98) rfl) rfl
theorem u_819 : Cond.methodLink "PromiseDeskLaw" 68 yX11_part ∈ Tw := Tw_4 (List.mem_of_getElem? (i := 99) rfl) rfl
theorem u_820 : Cond.instanceMethod yX11_part ∈ Tw := Tw_4 (List.mem_of_getElem? (i := 100) rfl) rfl
theorem u_821 : Cond.selects "PromiseDesk" yX11_part yX11_part ∈ Tw := Tw_4 (List.mem_of_getElem? (i := 101) rfl) rfl
theorem u_822 : Cond.code yX11_part prog_1_method_18_code 4 (Option.some FieldType.int) ∈ Tw := Tw_4 (List.mem_of_getElem? (i := 102) rfl) rfl
theorem u_823 : Cond.methodLink "PromiseDesk" 202 yX11_requireParts ∈ Tw := Tw_4 (List.mem_of_getElem? (i := 103) rfl) rfl
theorem u_825 : Cond.instanceMethod yX11_requireParts ∈ Tw := Tw_4 (List.mem_of_getElem? (i := 105) rfl) rfl
theorem u_826 : Cond.code yX11_requireParts prog_1_method_28_code 3 (Option.some (FieldType.array FieldType.int)) ∈ Tw := Tw_4 (List.mem_of_getElem? (i := 106) rfl) rfl
theorem u_828 : Cond.methodLink "PromiseDeskLaw" 145 yL_count ∈ Tw := Tw_4 (List.mem_of_getElem? (i := 108) rfl) rfl
theorem u_829 : Cond.static yL_count ∈ Tw := Tw_4 (List.mem_of_getElem? (i := 109) rfl) rfl
theorem u_830 : Cond.codeWith yL_count method_20_code 4 (Option.some FieldType.int) [(0, 9, 12, 19)] ∈ Tw := Tw_4 (List.mem_of_getElem? (i := 110) rfl) rfl
theorem u_831 : Cond.methodLink "PromiseDeskLaw" 71 yX11_count ∈ Tw := Tw_4 (List.mem_of_getElem? (i := 111) rfl) rfl
theorem u_832 : Cond.instanceMethod yX11_count ∈ Tw := Tw_4 (List.mem_of_getElem? (i := 112) rfl) rfl
theorem u_833 : Cond.selects "PromiseDesk" yX11_count yX11_count ∈ Tw := Tw_4 (List.mem_of_getElem? (i := 113) rfl) rfl
theorem u_834 : Cond.code yX11_count prog_1_method_20_code 2 (Option.some FieldType.int) ∈ Tw := Tw_4 (List.mem_of_getElem? (i := 114) rfl) rfl
theorem u_836 : Cond.classLink "PromiseDeskLaw" 75 "PromiseDeskModel" ∈ Tw := Tw_4 (List.mem_of_getElem? (i := 116) rfl) rfl
theorem u_837 : Cond.instantiable "PromiseDeskModel" 52 ∈ Tw := Tw_4 (List.mem_of_getElem? (i := 117) rfl) rfl
theorem u_838 : Cond.methodLink "PromiseDeskLaw" 77 yX12_init ∈ Tw := Tw_4 (List.mem_of_getElem? (i := 118) rfl) rfl
theorem u_839 : Cond.instanceMethod yX12_init ∈ Tw := Tw_4 (List.mem_of_getElem? (i := 119) rfl) rfl
theorem u_840 : Cond.code yX12_init prog_14_method_1_code 1 (Option.none : Option FieldType) ∈ Tw := Tw_4 (List.mem_of_getElem? (i := 120) rfl) rfl
theorem u_841 : Cond.methodLink "PromiseDeskModel" 1 ⟨"java/lang/Object", "<init>", "()V"⟩ ∈ Tw := Tw_4 (List.mem_of_getElem? (i := 121) rfl) rfl
theorem u_842 : Cond.fieldLink "PromiseDeskModel" 131 "PromiseDeskModel" "thrown" "I" ∈ Tw := Tw_4 (List.mem_of_getElem? (i := 122) rfl) rfl
theorem u_843 : Cond.fieldLink "PromiseDeskModel" 135 "PromiseDeskModel" "objects" "I" ∈ Tw := Tw_4 (List.mem_of_getElem? (i := 123) rfl) rfl
theorem u_844 : Cond.fieldLink "PromiseDeskModel" 7 "PromiseDeskModel" "kind" "[I" ∈ Tw := Tw_4 (List.mem_of_getElem? (i := 124) rfl) rfl
theorem u_845 : Cond.fieldLink "PromiseDeskModel" 13 "PromiseDeskModel" "state" "[I" ∈ Tw := Tw_4 (List.mem_of_getElem? (i := 125) rfl) rfl
theorem u_846 : Cond.fieldLink "PromiseDeskModel" 16 "PromiseDeskModel" "result" "[I" ∈ Tw := Tw_4 (List.mem_of_getElem? (i := 126) rfl) rfl
theorem u_847 : Cond.fieldLink "PromiseDeskModel" 19 "PromiseDeskModel" "reactions" "[I" ∈ Tw := Tw_4 (List.mem_of_getElem? (i := 127) rfl) rfl
theorem u_848 : Cond.fieldLink "PromiseDeskModel" 22 "PromiseDeskModel" "kept" "[I" ∈ Tw := Tw_4 (List.mem_of_getElem? (i := 128) rfl) rfl
theorem u_849 : Cond.fieldLink "PromiseDeskModel" 25 "PromiseDeskModel" "handled" "[Z" ∈ Tw := Tw_4 (List.mem_of_getElem? (i := 129) rfl) rfl
theorem u_850 : Cond.fieldLink "PromiseDeskModel" 29 "PromiseDeskModel" "dataA" "[I" ∈ Tw := Tw_4 (List.mem_of_getElem? (i := 130) rfl) rfl
theorem u_851 : Cond.fieldLink "PromiseDeskModel" 32 "PromiseDeskModel" "dataB" "[I" ∈ Tw := Tw_4 (List.mem_of_getElem? (i := 131) rfl) rfl
theorem u_852 : Cond.fieldLink "PromiseDeskModel" 35 "PromiseDeskModel" "dataC" "[I" ∈ Tw := Tw_4 (List.mem_of_getElem? (i := 132) rfl) rfl
theorem u_853 : Cond.fieldLink "PromiseDeskModel" 38 "PromiseDeskModel" "dataD" "[I" ∈ Tw := Tw_4 (List.mem_of_getElem? (i := 133) rfl) rfl
theorem u_854 : Cond.fieldLink "PromiseDeskModel" 41 "PromiseDeskModel" "dataE" "[I" ∈ Tw := Tw_4 (List.mem_of_getElem? (i := 134) rfl) rfl
theorem u_855 : Cond.fieldLink "PromiseDeskModel" 44 "PromiseDeskModel" "recordPromise" "[I" ∈ Tw := Tw_4 (List.mem_of_getElem? (i := 135) rfl) rfl
theorem u_856 : Cond.fieldLink "PromiseDeskModel" 47 "PromiseDeskModel" "recordDone" "[Z" ∈ Tw := Tw_4 (List.mem_of_getElem? (i := 136) rfl) rfl
theorem u_857 : Cond.fieldLink "PromiseDeskModel" 145 "PromiseDeskModel" "records" "I" ∈ Tw := Tw_4 (List.mem_of_getElem? (i := 137) rfl) rfl
theorem u_858 : Cond.fieldLink "PromiseDeskModel" 50 "PromiseDeskModel" "reactionNext" "[I" ∈ Tw := Tw_4 (List.mem_of_getElem? (i := 138) rfl) rfl
theorem u_859 : Cond.fieldLink "PromiseDeskModel" 53 "PromiseDeskModel" "reactionTo" "[I" ∈ Tw := Tw_4 (List.mem_of_getElem? (i := 139) rfl) rfl
theorem u_860 : Cond.fieldLink "PromiseDeskModel" 56 "PromiseDeskModel" "yesKind" "[I" ∈ Tw := Tw_4 (List.mem_of_getElem? (i := 140) rfl) rfl
theorem u_861 : Cond.fieldLink "PromiseDeskModel" 59 "PromiseDeskModel" "yesOf" "[I" ∈ Tw := Tw_4 (List.mem_of_getElem? (i := 141) rfl) rfl
theorem u_862 : Cond.fieldLink "PromiseDeskModel" 62 "PromiseDeskModel" "noKind" "[I" ∈ Tw := Tw_4 (List.mem_of_getElem? (i := 142) rfl) rfl
theorem u_863 : Cond.fieldLink "PromiseDeskModel" 65 "PromiseDeskModel" "noOf" "[I" ∈ Tw := Tw_4 (List.mem_of_getElem? (i := 143) rfl) rfl
theorem u_864 : Cond.fieldLink "PromiseDeskModel" 168 "PromiseDeskModel" "reactionMany" "I" ∈ Tw := Tw_4 (List.mem_of_getElem? (i := 144) rfl) rfl
theorem u_865 : Cond.fieldLink "PromiseDeskModel" 68 "PromiseDeskModel" "jobKind" "[I" ∈ Tw := Tw_4 (List.mem_of_getElem? (i := 145) rfl) rfl
theorem u_866 : Cond.fieldLink "PromiseDeskModel" 71 "PromiseDeskModel" "jobOf" "[I" ∈ Tw := Tw_4 (List.mem_of_getElem? (i := 146) rfl) rfl
theorem u_867 : Cond.fieldLink "PromiseDeskModel" 74 "PromiseDeskModel" "jobTo" "[I" ∈ Tw := Tw_4 (List.mem_of_getElem? (i := 147) rfl) rfl
theorem u_868 : Cond.fieldLink "PromiseDeskModel" 77 "PromiseDeskModel" "jobArgument" "[I" ∈ Tw := Tw_4 (List.mem_of_getElem? (i := 148) rfl) rfl
theorem u_869 : Cond.fieldLink "PromiseDeskModel" 80 "PromiseDeskModel" "jobRejects" "[Z" ∈ Tw := Tw_4 (List.mem_of_getElem? (i := 149) rfl) rfl
theorem u_870 : Cond.fieldLink "PromiseDeskModel" 83 "PromiseDeskModel" "jobThen" "[Z" ∈ Tw := Tw_4 (List.mem_of_getElem? (i := 150) rfl) rfl
theorem u_871 : Cond.fieldLink "PromiseDeskModel" 231 "PromiseDeskModel" "jobFirst" "I" ∈ Tw := Tw_4 (List.mem_of_getElem? (i := 151) rfl) rfl
theorem u_872 : Cond.fieldLink "PromiseDeskModel" 162 "PromiseDeskModel" "jobEnd" "I" ∈ Tw := Tw_4 (List.mem_of_getElem? (i := 152) rfl) rfl
theorem u_873 : Cond.fieldLink "PromiseDeskModel" 86 "PromiseDeskModel" "act" "[I" ∈ Tw := Tw_4 (List.mem_of_getElem? (i := 153) rfl) rfl
theorem u_874 : Cond.fieldLink "PromiseDeskModel" 89 "PromiseDeskModel" "actValue" "[I" ∈ Tw := Tw_4 (List.mem_of_getElem? (i := 154) rfl) rfl
theorem u_875 : Cond.fieldLink "PromiseDeskModel" 142 "PromiseDeskModel" "handlers" "I" ∈ Tw := Tw_4 (List.mem_of_getElem? (i := 155) rfl) rfl
theorem u_876 : Cond.fieldLink "PromiseDeskModel" 92 "PromiseDeskModel" "logWho" "[I" ∈ Tw := Tw_4 (List.mem_of_getElem? (i := 156) rfl) rfl
theorem u_877 : Cond.fieldLink "PromiseDeskModel" 95 "PromiseDeskModel" "logWhat" "[I" ∈ Tw := Tw_4 (List.mem_of_getElem? (i := 157) rfl) rfl
theorem u_878 : Cond.fieldLink "PromiseDeskModel" 187 "PromiseDeskModel" "logs" "I" ∈ Tw := Tw_4 (List.mem_of_getElem? (i := 158) rfl) rfl
theorem u_879 : Cond.fieldLink "PromiseDeskModel" 98 "PromiseDeskModel" "list" "[I" ∈ Tw := Tw_4 (List.mem_of_getElem? (i := 159) rfl) rfl
theorem u_880 : Cond.fieldLink "PromiseDeskModel" 251 "PromiseDeskModel" "listed" "I" ∈ Tw := Tw_4 (List.mem_of_getElem? (i := 160) rfl) rfl
theorem u_881 : Cond.fieldLink "PromiseDeskModel" 101 "PromiseDeskModel" "value" "[I" ∈ Tw := Tw_4 (List.mem_of_getElem? (i := 161) rfl) rfl
theorem u_882 : Cond.fieldLink "PromiseDeskModel" 104 "PromiseDeskModel" "elementOf" "[I" ∈ Tw := Tw_4 (List.mem_of_getElem? (i := 162) rfl) rfl
theorem u_883 : Cond.fieldLink "PromiseDeskModel" 107 "PromiseDeskModel" "elementDone" "[Z" ∈ Tw := Tw_4 (List.mem_of_getElem? (i := 163) rfl) rfl
theorem u_884 : Cond.fieldLink "PromiseDeskModel" 217 "PromiseDeskModel" "values" "I" ∈ Tw := Tw_4 (List.mem_of_getElem? (i := 164) rfl) rfl
theorem u_885 : Cond.fieldLink "PromiseDeskModel" 110 "PromiseDeskModel" "from" "[I" ∈ Tw := Tw_4 (List.mem_of_getElem? (i := 165) rfl) rfl
theorem u_886 : Cond.fieldLink "PromiseDeskModel" 113 "PromiseDeskModel" "many" "[I" ∈ Tw := Tw_4 (List.mem_of_getElem? (i := 166) rfl) rfl
theorem u_887 : Cond.fieldLink "PromiseDeskModel" 116 "PromiseDeskModel" "left" "[I" ∈ Tw := Tw_4 (List.mem_of_getElem? (i := 167) rfl) rfl
theorem u_888 : Cond.fieldLink "PromiseDeskModel" 119 "PromiseDeskModel" "to" "[I" ∈ Tw := Tw_4 (List.mem_of_getElem? (i := 168) rfl) rfl
theorem u_889 : Cond.fieldLink "PromiseDeskModel" 122 "PromiseDeskModel" "end" "[I" ∈ Tw := Tw_4 (List.mem_of_getElem? (i := 169) rfl) rfl
theorem u_890 : Cond.fieldLink "PromiseDeskModel" 125 "PromiseDeskModel" "calls" "[I" ∈ Tw := Tw_4 (List.mem_of_getElem? (i := 170) rfl) rfl
theorem u_891 : Cond.fieldLink "PromiseDeskModel" 128 "PromiseDeskModel" "at" "[I" ∈ Tw := Tw_4 (List.mem_of_getElem? (i := 171) rfl) rfl
theorem u_892 : Cond.fieldLink "PromiseDeskModel" 248 "PromiseDeskModel" "groups" "I" ∈ Tw := Tw_4 (List.mem_of_getElem? (i := 172) rfl) rfl
theorem u_893 : Cond.fieldLink "PromiseDeskModel" 193 "PromiseDeskModel" "threw" "Z" ∈ Tw := Tw_4 (List.mem_of_getElem? (i := 173) rfl) rfl
theorem u_894 : Cond.lays "PromiseDeskModel" "PromiseDeskModel" "thrown" "I" ∈ Tw := Tw_4 (List.mem_of_getElem? (i := 174) rfl) rfl
theorem u_895 : Cond.soleField "PromiseDeskModel" "thrown" ∈ Tw := Tw_4 (List.mem_of_getElem? (i := 175) rfl) rfl
theorem u_896 : Cond.lays "PromiseDeskModel" "PromiseDeskModel" "objects" "I" ∈ Tw := Tw_4 (List.mem_of_getElem? (i := 176) rfl) rfl
theorem u_897 : Cond.soleField "PromiseDeskModel" "objects" ∈ Tw := Tw_4 (List.mem_of_getElem? (i := 177) rfl) rfl
theorem u_898 : Cond.laysFinal "PromiseDeskModel" "PromiseDeskModel" "kind" "[I" ∈ Tw := Tw_4 (List.mem_of_getElem? (i := 178) rfl) rfl
theorem u_899 : Cond.soleField "PromiseDeskModel" "kind" ∈ Tw := Tw_4 (List.mem_of_getElem? (i := 179) rfl) rfl
theorem u_900 : Cond.laysFinal "PromiseDeskModel" "PromiseDeskModel" "state" "[I" ∈ Tw := Tw_4 (List.mem_of_getElem? (i := 180) rfl) rfl
theorem u_901 : Cond.soleField "PromiseDeskModel" "state" ∈ Tw := Tw_4 (List.mem_of_getElem? (i := 181) rfl) rfl
theorem u_902 : Cond.laysFinal "PromiseDeskModel" "PromiseDeskModel" "result" "[I" ∈ Tw := Tw_4 (List.mem_of_getElem? (i := 182) rfl) rfl
theorem u_903 : Cond.soleField "PromiseDeskModel" "result" ∈ Tw := Tw_4 (List.mem_of_getElem? (i := 183) rfl) rfl
theorem u_904 : Cond.laysFinal "PromiseDeskModel" "PromiseDeskModel" "reactions" "[I" ∈ Tw := Tw_4 (List.mem_of_getElem? (i := 184) rfl) rfl
theorem u_905 : Cond.soleField "PromiseDeskModel" "reactions" ∈ Tw := Tw_4 (List.mem_of_getElem? (i := 185) rfl) rfl
theorem u_906 : Cond.laysFinal "PromiseDeskModel" "PromiseDeskModel" "kept" "[I" ∈ Tw := Tw_4 (List.mem_of_getElem? (i := 186) rfl) rfl
theorem u_907 : Cond.soleField "PromiseDeskModel" "kept" ∈ Tw := Tw_4 (List.mem_of_getElem? (i := 187) rfl) rfl
theorem u_908 : Cond.laysFinal "PromiseDeskModel" "PromiseDeskModel" "handled" "[Z" ∈ Tw := Tw_4 (List.mem_of_getElem? (i := 188) rfl) rfl
theorem u_909 : Cond.soleField "PromiseDeskModel" "handled" ∈ Tw := Tw_4 (List.mem_of_getElem? (i := 189) rfl) rfl
theorem u_910 : Cond.laysFinal "PromiseDeskModel" "PromiseDeskModel" "dataA" "[I" ∈ Tw := Tw_4 (List.mem_of_getElem? (i := 190) rfl) rfl
theorem u_911 : Cond.soleField "PromiseDeskModel" "dataA" ∈ Tw := Tw_4 (List.mem_of_getElem? (i := 191) rfl) rfl
theorem u_912 : Cond.laysFinal "PromiseDeskModel" "PromiseDeskModel" "dataB" "[I" ∈ Tw := Tw_4 (List.mem_of_getElem? (i := 192) rfl) rfl
theorem u_913 : Cond.soleField "PromiseDeskModel" "dataB" ∈ Tw := Tw_4 (List.mem_of_getElem? (i := 193) rfl) rfl
theorem u_914 : Cond.laysFinal "PromiseDeskModel" "PromiseDeskModel" "dataC" "[I" ∈ Tw := Tw_4 (List.mem_of_getElem? (i := 194) rfl) rfl
theorem u_915 : Cond.soleField "PromiseDeskModel" "dataC" ∈ Tw := Tw_4 (List.mem_of_getElem? (i := 195) rfl) rfl
theorem u_916 : Cond.laysFinal "PromiseDeskModel" "PromiseDeskModel" "dataD" "[I" ∈ Tw := Tw_4 (List.mem_of_getElem? (i := 196) rfl) rfl
theorem u_917 : Cond.soleField "PromiseDeskModel" "dataD" ∈ Tw := Tw_4 (List.mem_of_getElem? (i := 197) rfl) rfl
theorem u_918 : Cond.laysFinal "PromiseDeskModel" "PromiseDeskModel" "dataE" "[I" ∈ Tw := Tw_4 (List.mem_of_getElem? (i := 198) rfl) rfl
theorem u_919 : Cond.soleField "PromiseDeskModel" "dataE" ∈ Tw := Tw_4 (List.mem_of_getElem? (i := 199) rfl) rfl
theorem u_920 : Cond.laysFinal "PromiseDeskModel" "PromiseDeskModel" "recordPromise" "[I" ∈ Tw := Tw_4 (List.mem_of_getElem? (i := 200) rfl) rfl
theorem u_921 : Cond.soleField "PromiseDeskModel" "recordPromise" ∈ Tw := Tw_4 (List.mem_of_getElem? (i := 201) rfl) rfl
theorem u_922 : Cond.laysFinal "PromiseDeskModel" "PromiseDeskModel" "recordDone" "[Z" ∈ Tw := Tw_4 (List.mem_of_getElem? (i := 202) rfl) rfl
theorem u_923 : Cond.soleField "PromiseDeskModel" "recordDone" ∈ Tw := Tw_4 (List.mem_of_getElem? (i := 203) rfl) rfl
theorem u_924 : Cond.lays "PromiseDeskModel" "PromiseDeskModel" "records" "I" ∈ Tw := Tw_4 (List.mem_of_getElem? (i := 204) rfl) rfl
theorem u_925 : Cond.soleField "PromiseDeskModel" "records" ∈ Tw := Tw_4 (List.mem_of_getElem? (i := 205) rfl) rfl
theorem u_926 : Cond.laysFinal "PromiseDeskModel" "PromiseDeskModel" "reactionNext" "[I" ∈ Tw := Tw_4 (List.mem_of_getElem? (i := 206) rfl) rfl
theorem u_927 : Cond.soleField "PromiseDeskModel" "reactionNext" ∈ Tw := Tw_4 (List.mem_of_getElem? (i := 207) rfl) rfl
theorem u_928 : Cond.laysFinal "PromiseDeskModel" "PromiseDeskModel" "reactionTo" "[I" ∈ Tw := Tw_4 (List.mem_of_getElem? (i := 208) rfl) rfl
theorem u_929 : Cond.soleField "PromiseDeskModel" "reactionTo" ∈ Tw := Tw_4 (List.mem_of_getElem? (i := 209) rfl) rfl
theorem u_930 : Cond.laysFinal "PromiseDeskModel" "PromiseDeskModel" "yesKind" "[I" ∈ Tw := Tw_4 (List.mem_of_getElem? (i := 210) rfl) rfl
theorem u_931 : Cond.soleField "PromiseDeskModel" "yesKind" ∈ Tw := Tw_4 (List.mem_of_getElem? (i := 211) rfl) rfl
theorem u_932 : Cond.laysFinal "PromiseDeskModel" "PromiseDeskModel" "yesOf" "[I" ∈ Tw := Tw_4 (List.mem_of_getElem? (i := 212) rfl) rfl
theorem u_933 : Cond.soleField "PromiseDeskModel" "yesOf" ∈ Tw := Tw_4 (List.mem_of_getElem? (i := 213) rfl) rfl
theorem u_934 : Cond.laysFinal "PromiseDeskModel" "PromiseDeskModel" "noKind" "[I" ∈ Tw := Tw_4 (List.mem_of_getElem? (i := 214) rfl) rfl
theorem u_935 : Cond.soleField "PromiseDeskModel" "noKind" ∈ Tw := Tw_4 (List.mem_of_getElem? (i := 215) rfl) rfl
theorem u_936 : Cond.laysFinal "PromiseDeskModel" "PromiseDeskModel" "noOf" "[I" ∈ Tw := Tw_4 (List.mem_of_getElem? (i := 216) rfl) rfl
theorem u_937 : Cond.soleField "PromiseDeskModel" "noOf" ∈ Tw := Tw_4 (List.mem_of_getElem? (i := 217) rfl) rfl
theorem u_938 : Cond.lays "PromiseDeskModel" "PromiseDeskModel" "reactionMany" "I" ∈ Tw := Tw_4 (List.mem_of_getElem? (i := 218) rfl) rfl
theorem u_939 : Cond.soleField "PromiseDeskModel" "reactionMany" ∈ Tw := Tw_4 (List.mem_of_getElem? (i := 219) rfl) rfl
theorem u_940 : Cond.laysFinal "PromiseDeskModel" "PromiseDeskModel" "jobKind" "[I" ∈ Tw := Tw_4 (List.mem_of_getElem? (i := 220) rfl) rfl
theorem u_941 : Cond.soleField "PromiseDeskModel" "jobKind" ∈ Tw := Tw_4 (List.mem_of_getElem? (i := 221) rfl) rfl
theorem u_942 : Cond.laysFinal "PromiseDeskModel" "PromiseDeskModel" "jobOf" "[I" ∈ Tw := Tw_4 (List.mem_of_getElem? (i := 222) rfl) rfl
theorem u_943 : Cond.soleField "PromiseDeskModel" "jobOf" ∈ Tw := Tw_4 (List.mem_of_getElem? (i := 223) rfl) rfl
theorem u_944 : Cond.laysFinal "PromiseDeskModel" "PromiseDeskModel" "jobTo" "[I" ∈ Tw := Tw_4 (List.mem_of_getElem? (i := 224) rfl) rfl
theorem u_945 : Cond.soleField "PromiseDeskModel" "jobTo" ∈ Tw := Tw_4 (List.mem_of_getElem? (i := 225) rfl) rfl
theorem u_946 : Cond.laysFinal "PromiseDeskModel" "PromiseDeskModel" "jobArgument" "[I" ∈ Tw := Tw_4 (List.mem_of_getElem? (i := 226) rfl) rfl
theorem u_947 : Cond.soleField "PromiseDeskModel" "jobArgument" ∈ Tw := Tw_4 (List.mem_of_getElem? (i := 227) rfl) rfl
theorem u_948 : Cond.laysFinal "PromiseDeskModel" "PromiseDeskModel" "jobRejects" "[Z" ∈ Tw := Tw_4 (List.mem_of_getElem? (i := 228) rfl) rfl
theorem u_949 : Cond.soleField "PromiseDeskModel" "jobRejects" ∈ Tw := Tw_4 (List.mem_of_getElem? (i := 229) rfl) rfl
theorem u_950 : Cond.laysFinal "PromiseDeskModel" "PromiseDeskModel" "jobThen" "[Z" ∈ Tw := Tw_4 (List.mem_of_getElem? (i := 230) rfl) rfl
theorem u_951 : Cond.soleField "PromiseDeskModel" "jobThen" ∈ Tw := Tw_4 (List.mem_of_getElem? (i := 231) rfl) rfl
theorem u_952 : Cond.lays "PromiseDeskModel" "PromiseDeskModel" "jobFirst" "I" ∈ Tw := Tw_4 (List.mem_of_getElem? (i := 232) rfl) rfl
theorem u_953 : Cond.soleField "PromiseDeskModel" "jobFirst" ∈ Tw := Tw_4 (List.mem_of_getElem? (i := 233) rfl) rfl
theorem u_954 : Cond.lays "PromiseDeskModel" "PromiseDeskModel" "jobEnd" "I" ∈ Tw := Tw_4 (List.mem_of_getElem? (i := 234) rfl) rfl
theorem u_955 : Cond.soleField "PromiseDeskModel" "jobEnd" ∈ Tw := Tw_4 (List.mem_of_getElem? (i := 235) rfl) rfl
theorem u_956 : Cond.laysFinal "PromiseDeskModel" "PromiseDeskModel" "act" "[I" ∈ Tw := Tw_4 (List.mem_of_getElem? (i := 236) rfl) rfl
theorem u_957 : Cond.soleField "PromiseDeskModel" "act" ∈ Tw := Tw_4 (List.mem_of_getElem? (i := 237) rfl) rfl
theorem u_958 : Cond.laysFinal "PromiseDeskModel" "PromiseDeskModel" "actValue" "[I" ∈ Tw := Tw_4 (List.mem_of_getElem? (i := 238) rfl) rfl
theorem u_959 : Cond.soleField "PromiseDeskModel" "actValue" ∈ Tw := Tw_4 (List.mem_of_getElem? (i := 239) rfl) rfl
theorem u_960 : Cond.lays "PromiseDeskModel" "PromiseDeskModel" "handlers" "I" ∈ Tw := Tw_5 (List.mem_of_getElem? (i := 0) rfl) rfl
theorem u_961 : Cond.soleField "PromiseDeskModel" "handlers" ∈ Tw := Tw_5 (List.mem_of_getElem? (i := 1) rfl) rfl
theorem u_962 : Cond.laysFinal "PromiseDeskModel" "PromiseDeskModel" "logWho" "[I" ∈ Tw := Tw_5 (List.mem_of_getElem? (i := 2) rfl) rfl
theorem u_963 : Cond.soleField "PromiseDeskModel" "logWho" ∈ Tw := Tw_5 (List.mem_of_getElem? (i := 3) rfl) rfl
theorem u_964 : Cond.laysFinal "PromiseDeskModel" "PromiseDeskModel" "logWhat" "[I" ∈ Tw := Tw_5 (List.mem_of_getElem? (i := 4) rfl) rfl
theorem u_965 : Cond.soleField "PromiseDeskModel" "logWhat" ∈ Tw := Tw_5 (List.mem_of_getElem? (i := 5) rfl) rfl
theorem u_966 : Cond.lays "PromiseDeskModel" "PromiseDeskModel" "logs" "I" ∈ Tw := Tw_5 (List.mem_of_getElem? (i := 6) rfl) rfl
theorem u_967 : Cond.soleField "PromiseDeskModel" "logs" ∈ Tw := Tw_5 (List.mem_of_getElem? (i := 7) rfl) rfl
theorem u_968 : Cond.laysFinal "PromiseDeskModel" "PromiseDeskModel" "list" "[I" ∈ Tw := Tw_5 (List.mem_of_getElem? (i := 8) rfl) rfl
theorem u_969 : Cond.soleField "PromiseDeskModel" "list" ∈ Tw := Tw_5 (List.mem_of_getElem? (i := 9) rfl) rfl
theorem u_970 : Cond.lays "PromiseDeskModel" "PromiseDeskModel" "listed" "I" ∈ Tw := Tw_5 (List.mem_of_getElem? (i := 10) rfl) rfl
theorem u_971 : Cond.soleField "PromiseDeskModel" "listed" ∈ Tw := Tw_5 (List.mem_of_getElem? (i := 11) rfl) rfl
theorem u_972 : Cond.laysFinal "PromiseDeskModel" "PromiseDeskModel" "value" "[I" ∈ Tw := Tw_5 (List.mem_of_getElem? (i := 12) rfl) rfl
theorem u_973 : Cond.soleField "PromiseDeskModel" "value" ∈ Tw := Tw_5 (List.mem_of_getElem? (i := 13) rfl) rfl
theorem u_974 : Cond.laysFinal "PromiseDeskModel" "PromiseDeskModel" "elementOf" "[I" ∈ Tw := Tw_5 (List.mem_of_getElem? (i := 14) rfl) rfl
theorem u_975 : Cond.soleField "PromiseDeskModel" "elementOf" ∈ Tw := Tw_5 (List.mem_of_getElem? (i := 15) rfl) rfl
theorem u_976 : Cond.laysFinal "PromiseDeskModel" "PromiseDeskModel" "elementDone" "[Z" ∈ Tw := Tw_5 (List.mem_of_getElem? (i := 16) rfl) rfl
theorem u_977 : Cond.soleField "PromiseDeskModel" "elementDone" ∈ Tw := Tw_5 (List.mem_of_getElem? (i := 17) rfl) rfl
theorem u_978 : Cond.lays "PromiseDeskModel" "PromiseDeskModel" "values" "I" ∈ Tw := Tw_5 (List.mem_of_getElem? (i := 18) rfl) rfl
theorem u_979 : Cond.soleField "PromiseDeskModel" "values" ∈ Tw := Tw_5 (List.mem_of_getElem? (i := 19) rfl) rfl
theorem u_980 : Cond.laysFinal "PromiseDeskModel" "PromiseDeskModel" "from" "[I" ∈ Tw := Tw_5 (List.mem_of_getElem? (i := 20) rfl) rfl
theorem u_981 : Cond.soleField "PromiseDeskModel" "from" ∈ Tw := Tw_5 (List.mem_of_getElem? (i := 21) rfl) rfl
theorem u_982 : Cond.laysFinal "PromiseDeskModel" "PromiseDeskModel" "many" "[I" ∈ Tw := Tw_5 (List.mem_of_getElem? (i := 22) rfl) rfl
theorem u_983 : Cond.soleField "PromiseDeskModel" "many" ∈ Tw := Tw_5 (List.mem_of_getElem? (i := 23) rfl) rfl
theorem u_984 : Cond.laysFinal "PromiseDeskModel" "PromiseDeskModel" "left" "[I" ∈ Tw := Tw_5 (List.mem_of_getElem? (i := 24) rfl) rfl
theorem u_985 : Cond.soleField "PromiseDeskModel" "left" ∈ Tw := Tw_5 (List.mem_of_getElem? (i := 25) rfl) rfl
theorem u_986 : Cond.laysFinal "PromiseDeskModel" "PromiseDeskModel" "to" "[I" ∈ Tw := Tw_5 (List.mem_of_getElem? (i := 26) rfl) rfl
theorem u_987 : Cond.soleField "PromiseDeskModel" "to" ∈ Tw := Tw_5 (List.mem_of_getElem? (i := 27) rfl) rfl
theorem u_988 : Cond.laysFinal "PromiseDeskModel" "PromiseDeskModel" "end" "[I" ∈ Tw := Tw_5 (List.mem_of_getElem? (i := 28) rfl) rfl
theorem u_989 : Cond.soleField "PromiseDeskModel" "end" ∈ Tw := Tw_5 (List.mem_of_getElem? (i := 29) rfl) rfl
theorem u_990 : Cond.laysFinal "PromiseDeskModel" "PromiseDeskModel" "calls" "[I" ∈ Tw := Tw_5 (List.mem_of_getElem? (i := 30) rfl) rfl
theorem u_991 : Cond.soleField "PromiseDeskModel" "calls" ∈ Tw := Tw_5 (List.mem_of_getElem? (i := 31) rfl) rfl
theorem u_992 : Cond.laysFinal "PromiseDeskModel" "PromiseDeskModel" "at" "[I" ∈ Tw := Tw_5 (List.mem_of_getElem? (i := 32) rfl) rfl
theorem u_993 : Cond.soleField "PromiseDeskModel" "at" ∈ Tw := Tw_5 (List.mem_of_getElem? (i := 33) rfl) rfl
theorem u_994 : Cond.lays "PromiseDeskModel" "PromiseDeskModel" "groups" "I" ∈ Tw := Tw_5 (List.mem_of_getElem? (i := 34) rfl) rfl
theorem u_995 : Cond.soleField "PromiseDeskModel" "groups" ∈ Tw := Tw_5 (List.mem_of_getElem? (i := 35) rfl) rfl
theorem u_996 : Cond.lays "PromiseDeskModel" "PromiseDeskModel" "threw" "Z" ∈ Tw := Tw_5 (List.mem_of_getElem? (i := 36) rfl) rfl
theorem u_997 : Cond.soleField "PromiseDeskModel" "threw" ∈ Tw := Tw_5 (List.mem_of_getElem? (i := 37) rfl) rfl
theorem u_998 : Cond.superclass "PromiseDeskModel" "java/lang/Object" ∈ Tw := Tw_5 (List.mem_of_getElem? (i := 38) rfl) rfl
theorem u_999 : Cond.arrayClass FieldType.boolean ∈ Tw := Tw_5 (List.mem_of_getElem? (i := 39) rfl) rfl
theorem u_1000 : Cond.methodLink "PromiseDeskLaw" 84 yX12_thrown ∈ Tw := Tw_5 (List.mem_of_getElem? (i := 40) rfl) rfl
theorem u_1001 : Cond.instanceMethod yX12_thrown ∈ Tw := Tw_5 (List.mem_of_getElem? (i := 41) rfl) rfl
theorem u_1002 : Cond.selects "PromiseDeskModel" yX12_thrown yX12_thrown ∈ Tw := Tw_5 (List.mem_of_getElem? (i := 42) rfl) rfl
theorem u_1003 : Cond.code yX12_thrown prog_14_method_2_code 1 (Option.some FieldType.int) ∈ Tw := Tw_5 (List.mem_of_getElem? (i := 43) rfl) rfl
theorem u_1004 : Cond.methodLink "PromiseDeskLaw" 83 yX12_promise ∈ Tw := Tw_5 (List.mem_of_getElem? (i := 44) rfl) rfl
theorem u_1005 : Cond.instanceMethod yX12_promise ∈ Tw := Tw_5 (List.mem_of_getElem? (i := 45) rfl) rfl
theorem u_1006 : Cond.selects "PromiseDeskModel" yX12_promise yX12_promise ∈ Tw := Tw_5 (List.mem_of_getElem? (i := 46) rfl) rfl
theorem u_1007 : Cond.code yX12_promise prog_14_method_33_code 3 (Option.some FieldType.int) ∈ Tw := Tw_5 (List.mem_of_getElem? (i := 47) rfl) rfl
theorem u_1008 : Cond.methodLink "PromiseDeskModel" 254 yX12_isFull ∈ Tw := Tw_5 (List.mem_of_getElem? (i := 48) rfl) rfl
theorem u_1010 : Cond.instanceMethod yX12_isFull ∈ Tw := Tw_5 (List.mem_of_getElem? (i := 50) rfl) rfl
theorem u_1011 : Cond.code yX12_isFull prog_14_method_9_code 2 (Option.some FieldType.boolean) ∈ Tw := Tw_5 (List.mem_of_getElem? (i := 51) rfl) rfl
theorem u_1012 : Cond.methodLink "PromiseDeskModel" 257 yX12_fails ∈ Tw := Tw_5 (List.mem_of_getElem? (i := 52) rfl) rfl
theorem u_1014 : Cond.instanceMethod yX12_fails ∈ Tw := Tw_5 (List.mem_of_getElem? (i := 54) rfl) rfl
theorem u_1015 : Cond.code yX12_fails prog_14_method_3_code 2 (Option.some FieldType.int) ∈ Tw := Tw_5 (List.mem_of_getElem? (i := 55) rfl) rfl
theorem u_1016 : Cond.methodLink "PromiseDeskModel" 171 yX12_capability ∈ Tw := Tw_5 (List.mem_of_getElem? (i := 56) rfl) rfl
theorem u_1018 : Cond.instanceMethod yX12_capability ∈ Tw := Tw_5 (List.mem_of_getElem? (i := 58) rfl) rfl
theorem u_1019 : Cond.code yX12_capability prog_14_method_12_code 1 (Option.some FieldType.int) ∈ Tw := Tw_5 (List.mem_of_getElem? (i := 59) rfl) rfl
theorem u_1020 : Cond.methodLink "PromiseDeskModel" 148 yX12_newObject ∈ Tw := Tw_5 (List.mem_of_getElem? (i := 60) rfl) rfl
theorem u_1022 : Cond.instanceMethod yX12_newObject ∈ Tw := Tw_5 (List.mem_of_getElem? (i := 62) rfl) rfl
theorem u_1023 : Cond.code yX12_newObject prog_14_method_10_code 3 (Option.some FieldType.int) ∈ Tw := Tw_5 (List.mem_of_getElem? (i := 63) rfl) rfl
theorem u_1024 : Cond.methodLink "PromiseDeskModel" 152 yX12_record ∈ Tw := Tw_5 (List.mem_of_getElem? (i := 64) rfl) rfl
theorem u_1026 : Cond.instanceMethod yX12_record ∈ Tw := Tw_5 (List.mem_of_getElem? (i := 66) rfl) rfl
theorem u_1027 : Cond.code yX12_record prog_14_method_11_code 3 (Option.some FieldType.int) ∈ Tw := Tw_5 (List.mem_of_getElem? (i := 67) rfl) rfl
theorem u_1028 : Cond.methodLink "PromiseDeskModel" 155 yX12_valueOf ∈ Tw := Tw_5 (List.mem_of_getElem? (i := 68) rfl) rfl
theorem u_1029 : Cond.static yX12_valueOf ∈ Tw := Tw_5 (List.mem_of_getElem? (i := 69) rfl) rfl
theorem u_1030 : Cond.code yX12_valueOf prog_14_method_4_code 1 (Option.some FieldType.int) ∈ Tw := Tw_5 (List.mem_of_getElem? (i := 70) rfl) rfl
theorem u_1031 : Cond.methodLink "PromiseDeskLaw" 90 yX12_handler ∈ Tw := Tw_5 (List.mem_of_getElem? (i := 71) rfl) rfl
theorem u_1032 : Cond.instanceMethod yX12_handler ∈ Tw := Tw_5 (List.mem_of_getElem? (i := 72) rfl) rfl
theorem u_1033 : Cond.selects "PromiseDeskModel" yX12_handler yX12_handler ∈ Tw := Tw_5 (List.mem_of_getElem? (i := 73) rfl) rfl
theorem u_1034 : Cond.code yX12_handler prog_14_method_35_code 3 (Option.some FieldType.int) ∈ Tw := Tw_5 (List.mem_of_getElem? (i := 74) rfl) rfl
theorem u_1035 : Cond.methodLink "PromiseDeskModel" 260 yX12_isValue ∈ Tw := Tw_5 (List.mem_of_getElem? (i := 75) rfl) rfl
theorem u_1037 : Cond.instanceMethod yX12_isValue ∈ Tw := Tw_5 (List.mem_of_getElem? (i := 77) rfl) rfl
theorem u_1038 : Cond.code yX12_isValue prog_14_method_6_code 2 (Option.some FieldType.boolean) ∈ Tw := Tw_5 (List.mem_of_getElem? (i := 78) rfl) rfl
theorem u_1039 : Cond.methodLink "PromiseDeskModel" 138 yX12_isObject ∈ Tw := Tw_5 (List.mem_of_getElem? (i := 79) rfl) rfl
theorem u_1041 : Cond.instanceMethod yX12_isObject ∈ Tw := Tw_5 (List.mem_of_getElem? (i := 81) rfl) rfl
theorem u_1042 : Cond.code yX12_isObject prog_14_method_5_code 2 (Option.some FieldType.boolean) ∈ Tw := Tw_5 (List.mem_of_getElem? (i := 82) rfl) rfl
theorem u_1043 : Cond.methodLink "PromiseDeskModel" 263 yX12_isKept ∈ Tw := Tw_5 (List.mem_of_getElem? (i := 83) rfl) rfl
theorem u_1045 : Cond.instanceMethod yX12_isKept ∈ Tw := Tw_5 (List.mem_of_getElem? (i := 85) rfl) rfl
theorem u_1046 : Cond.code yX12_isKept prog_14_method_34_code 2 (Option.some FieldType.boolean) ∈ Tw := Tw_5 (List.mem_of_getElem? (i := 86) rfl) rfl
theorem u_1047 : Cond.methodLink "PromiseDeskModel" 179 yX12_isKind ∈ Tw := Tw_5 (List.mem_of_getElem? (i := 87) rfl) rfl
theorem u_1049 : Cond.instanceMethod yX12_isKind ∈ Tw := Tw_5 (List.mem_of_getElem? (i := 89) rfl) rfl
theorem u_1050 : Cond.code yX12_isKind prog_14_method_7_code 3 (Option.some FieldType.boolean) ∈ Tw := Tw_5 (List.mem_of_getElem? (i := 90) rfl) rfl
theorem u_1051 : Cond.methodLink "PromiseDeskLaw" 94 yX12_thenable ∈ Tw := Tw_5 (List.mem_of_getElem? (i := 91) rfl) rfl
theorem u_1052 : Cond.instanceMethod yX12_thenable ∈ Tw := Tw_5 (List.mem_of_getElem? (i := 92) rfl) rfl
theorem u_1053 : Cond.selects "PromiseDeskModel" yX12_thenable yX12_thenable ∈ Tw := Tw_5 (List.mem_of_getElem? (i := 93) rfl) rfl
theorem u_1054 : Cond.code yX12_thenable prog_14_method_36_code 7 (Option.some FieldType.int) ∈ Tw := Tw_5 (List.mem_of_getElem? (i := 94) rfl) rfl
theorem u_1055 : Cond.methodLink "PromiseDeskLaw" 98 yX12_settle_ ∈ Tw := Tw_5 (List.mem_of_getElem? (i := 95) rfl) rfl
theorem u_1056 : Cond.instanceMethod yX12_settle_ ∈ Tw := Tw_5 (List.mem_of_getElem? (i := 96) rfl) rfl
theorem u_1057 : Cond.selects "PromiseDeskModel" yX12_settle_ yX12_settle_ ∈ Tw := Tw_5 (List.mem_of_getElem? (i := 97) rfl) rfl
theorem u_1058 : Cond.code yX12_settle_ prog_14_method_37_code 6 (Option.some FieldType.boolean) ∈ Tw := Tw_5 (List.mem_of_getElem? (i := 98) rfl) rfl
theorem u_1059 : Cond.methodLink "PromiseDeskModel" 197 yX12_reject ∈ Tw := Tw_5 (List.mem_of_getElem? (i := 99) rfl) rfl
theorem u_1061 : Cond.instanceMethod yX12_reject ∈ Tw := Tw_5 (List.mem_of_getElem? (i := 101) rfl) rfl
theorem u_1062 : Cond.code yX12_reject prog_14_method_14_code 3 (Option.none : Option FieldType) ∈ Tw := Tw_5 (List.mem_of_getElem? (i := 102) rfl) rfl
theorem u_1063 : Cond.methodLink "PromiseDeskModel" 158 yX12_settle ∈ Tw := Tw_5 (List.mem_of_getElem? (i := 103) rfl) rfl
theorem u_1065 : Cond.instanceMethod yX12_settle ∈ Tw := Tw_5 (List.mem_of_getElem? (i := 105) rfl) rfl
theorem u_1066 : Cond.code yX12_settle prog_14_method_15_code 5 (Option.none : Option FieldType) ∈ Tw := Tw_5 (List.mem_of_getElem? (i := 106) rfl) rfl
theorem u_1067 : Cond.methodLink "PromiseDeskModel" 165 yX12_react ∈ Tw := Tw_5 (List.mem_of_getElem? (i := 107) rfl) rfl
theorem u_1069 : Cond.instanceMethod yX12_react ∈ Tw := Tw_5 (List.mem_of_getElem? (i := 109) rfl) rfl
theorem u_1070 : Cond.code yX12_react prog_14_method_16_code 4 (Option.none : Option FieldType) ∈ Tw := Tw_5 (List.mem_of_getElem? (i := 110) rfl) rfl
theorem u_1071 : Cond.methodLink "PromiseDeskModel" 183 yX12_resolve ∈ Tw := Tw_5 (List.mem_of_getElem? (i := 111) rfl) rfl
theorem u_1073 : Cond.instanceMethod yX12_resolve ∈ Tw := Tw_5 (List.mem_of_getElem? (i := 113) rfl) rfl
theorem u_1074 : Cond.code yX12_resolve prog_14_method_13_code 5 (Option.none : Option FieldType) ∈ Tw := Tw_5 (List.mem_of_getElem? (i := 114) rfl) rfl
theorem u_1075 : Cond.methodLink "PromiseDeskLaw" 101 yX12_later ∈ Tw := Tw_5 (List.mem_of_getElem? (i := 115) rfl) rfl
theorem u_1076 : Cond.instanceMethod yX12_later ∈ Tw := Tw_5 (List.mem_of_getElem? (i := 116) rfl) rfl
theorem u_1077 : Cond.selects "PromiseDeskModel" yX12_later yX12_later ∈ Tw := Tw_5 (List.mem_of_getElem? (i := 117) rfl) rfl
theorem u_1078 : Cond.code yX12_later prog_14_method_38_code 6 (Option.some FieldType.int) ∈ Tw := Tw_5 (List.mem_of_getElem? (i := 118) rfl) rfl
theorem u_1079 : Cond.methodLink "PromiseDeskLaw" 105 yX12_then_ ∈ Tw := Tw_5 (List.mem_of_getElem? (i := 119) rfl) rfl
theorem u_1080 : Cond.instanceMethod yX12_then_ ∈ Tw := Tw_5 (List.mem_of_getElem? (i := 120) rfl) rfl
theorem u_1081 : Cond.selects "PromiseDeskModel" yX12_then_ yX12_then_ ∈ Tw := Tw_5 (List.mem_of_getElem? (i := 121) rfl) rfl
theorem u_1082 : Cond.code yX12_then_ prog_14_method_39_code 6 (Option.some FieldType.int) ∈ Tw := Tw_5 (List.mem_of_getElem? (i := 122) rfl) rfl
theorem u_1083 : Cond.methodLink "PromiseDeskModel" 266 yX12_isHandler ∈ Tw := Tw_5 (List.mem_of_getElem? (i := 123) rfl) rfl
theorem u_1085 : Cond.instanceMethod yX12_isHandler ∈ Tw := Tw_5 (List.mem_of_getElem? (i := 125) rfl) rfl
theorem u_1086 : Cond.code yX12_isHandler prog_14_method_8_code 2 (Option.some FieldType.boolean) ∈ Tw := Tw_5 (List.mem_of_getElem? (i := 126) rfl) rfl
theorem u_1087 : Cond.methodLink "PromiseDeskModel" 220 yX12_then ∈ Tw := Tw_5 (List.mem_of_getElem? (i := 127) rfl) rfl
theorem u_1089 : Cond.instanceMethod yX12_then ∈ Tw := Tw_5 (List.mem_of_getElem? (i := 129) rfl) rfl
theorem u_1090 : Cond.code yX12_then prog_14_method_18_code 7 (Option.some FieldType.int) ∈ Tw := Tw_5 (List.mem_of_getElem? (i := 130) rfl) rfl
theorem u_1091 : Cond.methodLink "PromiseDeskModel" 175 yX12_performThen ∈ Tw := Tw_5 (List.mem_of_getElem? (i := 131) rfl) rfl
theorem u_1093 : Cond.instanceMethod yX12_performThen ∈ Tw := Tw_5 (List.mem_of_getElem? (i := 133) rfl) rfl
theorem u_1094 : Cond.code yX12_performThen prog_14_method_17_code 9 (Option.none : Option FieldType) ∈ Tw := Tw_5 (List.mem_of_getElem? (i := 134) rfl) rfl
theorem u_1095 : Cond.methodLink "PromiseDeskLaw" 108 yX12_lastly ∈ Tw := Tw_5 (List.mem_of_getElem? (i := 135) rfl) rfl
theorem u_1096 : Cond.instanceMethod yX12_lastly ∈ Tw := Tw_5 (List.mem_of_getElem? (i := 136) rfl) rfl
theorem u_1097 : Cond.selects "PromiseDeskModel" yX12_lastly yX12_lastly ∈ Tw := Tw_5 (List.mem_of_getElem? (i := 137) rfl) rfl
theorem u_1098 : Cond.code yX12_lastly prog_14_method_40_code 3 (Option.some FieldType.int) ∈ Tw := Tw_5 (List.mem_of_getElem? (i := 138) rfl) rfl
theorem u_1099 : Cond.methodLink "PromiseDeskLaw" 112 yX12_wrap ∈ Tw := Tw_5 (List.mem_of_getElem? (i := 139) rfl) rfl
theorem u_1100 : Cond.instanceMethod yX12_wrap ∈ Tw := Tw_5 (List.mem_of_getElem? (i := 140) rfl) rfl
theorem u_1101 : Cond.selects "PromiseDeskModel" yX12_wrap yX12_wrap ∈ Tw := Tw_5 (List.mem_of_getElem? (i := 141) rfl) rfl
theorem u_1102 : Cond.code yX12_wrap prog_14_method_41_code 2 (Option.some FieldType.int) ∈ Tw := Tw_5 (List.mem_of_getElem? (i := 142) rfl) rfl
theorem u_1103 : Cond.methodLink "PromiseDeskModel" 214 yX12_promiseOf ∈ Tw := Tw_5 (List.mem_of_getElem? (i := 143) rfl) rfl
theorem u_1105 : Cond.instanceMethod yX12_promiseOf ∈ Tw := Tw_5 (List.mem_of_getElem? (i := 145) rfl) rfl
theorem u_1106 : Cond.code yX12_promiseOf prog_14_method_19_code 3 (Option.some FieldType.int) ∈ Tw := Tw_5 (List.mem_of_getElem? (i := 146) rfl) rfl
theorem u_1107 : Cond.methodLink "PromiseDeskLaw" 115 yX12_broken ∈ Tw := Tw_5 (List.mem_of_getElem? (i := 147) rfl) rfl
theorem u_1108 : Cond.instanceMethod yX12_broken ∈ Tw := Tw_5 (List.mem_of_getElem? (i := 148) rfl) rfl
theorem u_1109 : Cond.selects "PromiseDeskModel" yX12_broken yX12_broken ∈ Tw := Tw_5 (List.mem_of_getElem? (i := 149) rfl) rfl
theorem u_1110 : Cond.code yX12_broken prog_14_method_42_code 3 (Option.some FieldType.int) ∈ Tw := Tw_5 (List.mem_of_getElem? (i := 150) rfl) rfl
theorem u_1111 : Cond.methodLink "PromiseDeskLaw" 118 yX12_item ∈ Tw := Tw_5 (List.mem_of_getElem? (i := 151) rfl) rfl
theorem u_1112 : Cond.instanceMethod yX12_item ∈ Tw := Tw_5 (List.mem_of_getElem? (i := 152) rfl) rfl
theorem u_1113 : Cond.selects "PromiseDeskModel" yX12_item yX12_item ∈ Tw := Tw_5 (List.mem_of_getElem? (i := 153) rfl) rfl
theorem u_1114 : Cond.code yX12_item prog_14_method_43_code 2 (Option.some FieldType.int) ∈ Tw := Tw_5 (List.mem_of_getElem? (i := 154) rfl) rfl
theorem u_1115 : Cond.methodLink "PromiseDeskLaw" 121 yX12_combine ∈ Tw := Tw_5 (List.mem_of_getElem? (i := 155) rfl) rfl
theorem u_1116 : Cond.instanceMethod yX12_combine ∈ Tw := Tw_5 (List.mem_of_getElem? (i := 156) rfl) rfl
theorem u_1117 : Cond.selects "PromiseDeskModel" yX12_combine yX12_combine ∈ Tw := Tw_5 (List.mem_of_getElem? (i := 157) rfl) rfl
theorem u_1118 : Cond.code yX12_combine prog_14_method_44_code 7 (Option.some FieldType.int) ∈ Tw := Tw_5 (List.mem_of_getElem? (i := 158) rfl) rfl
theorem u_1119 : Cond.methodLink "PromiseDeskModel" 269 yX12_group ∈ Tw := Tw_5 (List.mem_of_getElem? (i := 159) rfl) rfl
theorem u_1121 : Cond.instanceMethod yX12_group ∈ Tw := Tw_5 (List.mem_of_getElem? (i := 161) rfl) rfl
theorem u_1122 : Cond.code yX12_group prog_14_method_32_code 3 (Option.some FieldType.int) ∈ Tw := Tw_5 (List.mem_of_getElem? (i := 162) rfl) rfl
theorem u_1123 : Cond.methodLink "PromiseDeskModel" 224 yX12_finish ∈ Tw := Tw_5 (List.mem_of_getElem? (i := 163) rfl) rfl
theorem u_1125 : Cond.instanceMethod yX12_finish ∈ Tw := Tw_5 (List.mem_of_getElem? (i := 165) rfl) rfl
theorem u_1126 : Cond.code yX12_finish prog_14_method_26_code 4 (Option.none : Option FieldType) ∈ Tw := Tw_5 (List.mem_of_getElem? (i := 166) rfl) rfl
theorem u_1127 : Cond.methodLink "PromiseDeskModel" 228 yX12_array ∈ Tw := Tw_5 (List.mem_of_getElem? (i := 167) rfl) rfl
theorem u_1129 : Cond.instanceMethod yX12_array ∈ Tw := Tw_5 (List.mem_of_getElem? (i := 169) rfl) rfl
theorem u_1130 : Cond.code yX12_array prog_14_method_24_code 4 (Option.some FieldType.int) ∈ Tw := Tw_5 (List.mem_of_getElem? (i := 170) rfl) rfl
theorem u_1131 : Cond.methodLink "PromiseDeskLaw" 124 yX12_async ∈ Tw := Tw_5 (List.mem_of_getElem? (i := 171) rfl) rfl
theorem u_1132 : Cond.instanceMethod yX12_async ∈ Tw := Tw_5 (List.mem_of_getElem? (i := 172) rfl) rfl
theorem u_1133 : Cond.selects "PromiseDeskModel" yX12_async yX12_async ∈ Tw := Tw_5 (List.mem_of_getElem? (i := 173) rfl) rfl
theorem u_1134 : Cond.code yX12_async prog_14_method_45_code 5 (Option.some FieldType.int) ∈ Tw := Tw_5 (List.mem_of_getElem? (i := 174) rfl) rfl
theorem u_1135 : Cond.methodLink "PromiseDeskModel" 244 yX12_goOn ∈ Tw := Tw_5 (List.mem_of_getElem? (i := 175) rfl) rfl
theorem u_1137 : Cond.instanceMethod yX12_goOn ∈ Tw := Tw_5 (List.mem_of_getElem? (i := 177) rfl) rfl
theorem u_1138 : Cond.code yX12_goOn prog_14_method_30_code 3 (Option.none : Option FieldType) ∈ Tw := Tw_5 (List.mem_of_getElem? (i := 178) rfl) rfl
theorem u_1139 : Cond.methodLink "PromiseDeskLaw" 127 yX12_jobs ∈ Tw := Tw_5 (List.mem_of_getElem? (i := 179) rfl) rfl
theorem u_1140 : Cond.instanceMethod yX12_jobs ∈ Tw := Tw_5 (List.mem_of_getElem? (i := 180) rfl) rfl
theorem u_1141 : Cond.selects "PromiseDeskModel" yX12_jobs yX12_jobs ∈ Tw := Tw_5 (List.mem_of_getElem? (i := 181) rfl) rfl
theorem u_1142 : Cond.code yX12_jobs prog_14_method_46_code 3 (Option.some FieldType.int) ∈ Tw := Tw_5 (List.mem_of_getElem? (i := 182) rfl) rfl
theorem u_1143 : Cond.methodLink "PromiseDeskModel" 272 yX12_job ∈ Tw := Tw_5 (List.mem_of_getElem? (i := 183) rfl) rfl
theorem u_1145 : Cond.instanceMethod yX12_job ∈ Tw := Tw_5 (List.mem_of_getElem? (i := 185) rfl) rfl
theorem u_1146 : Cond.code yX12_job prog_14_method_27_code 3 (Option.none : Option FieldType) ∈ Tw := Tw_5 (List.mem_of_getElem? (i := 186) rfl) rfl
theorem u_1147 : Cond.methodLink "PromiseDeskModel" 234 yX12_thenJob ∈ Tw := Tw_5 (List.mem_of_getElem? (i := 187) rfl) rfl
theorem u_1149 : Cond.instanceMethod yX12_thenJob ∈ Tw := Tw_5 (List.mem_of_getElem? (i := 189) rfl) rfl
theorem u_1150 : Cond.code yX12_thenJob prog_14_method_28_code 4 (Option.none : Option FieldType) ∈ Tw := Tw_5 (List.mem_of_getElem? (i := 190) rfl) rfl
theorem u_1151 : Cond.methodLink "PromiseDeskModel" 190 yX12_note ∈ Tw := Tw_5 (List.mem_of_getElem? (i := 191) rfl) rfl
theorem u_1153 : Cond.instanceMethod yX12_note ∈ Tw := Tw_5 (List.mem_of_getElem? (i := 193) rfl) rfl
theorem u_1154 : Cond.code yX12_note prog_14_method_20_code 3 (Option.none : Option FieldType) ∈ Tw := Tw_5 (List.mem_of_getElem? (i := 194) rfl) rfl
theorem u_1155 : Cond.methodLink "PromiseDeskModel" 240 yX12_does ∈ Tw := Tw_5 (List.mem_of_getElem? (i := 195) rfl) rfl
theorem u_1157 : Cond.instanceMethod yX12_does ∈ Tw := Tw_5 (List.mem_of_getElem? (i := 197) rfl) rfl
theorem u_1158 : Cond.code yX12_does prog_14_method_29_code 5 (Option.some FieldType.boolean) ∈ Tw := Tw_5 (List.mem_of_getElem? (i := 198) rfl) rfl
theorem u_1159 : Cond.methodLink "PromiseDeskModel" 237 yX12_call ∈ Tw := Tw_5 (List.mem_of_getElem? (i := 199) rfl) rfl
theorem u_1161 : Cond.instanceMethod yX12_call ∈ Tw := Tw_5 (List.mem_of_getElem? (i := 201) rfl) rfl
theorem u_1162 : Cond.code yX12_call prog_14_method_22_code 4 (Option.some FieldType.int) ∈ Tw := Tw_5 (List.mem_of_getElem? (i := 202) rfl) rfl
theorem u_1163 : Cond.methodLink "PromiseDeskModel" 200 yX12_handle ∈ Tw := Tw_5 (List.mem_of_getElem? (i := 203) rfl) rfl
theorem u_1165 : Cond.instanceMethod yX12_handle ∈ Tw := Tw_5 (List.mem_of_getElem? (i := 205) rfl) rfl
theorem u_1166 : Cond.code yX12_handle prog_14_method_21_code 4 (Option.some FieldType.int) ∈ Tw := Tw_5 (List.mem_of_getElem? (i := 206) rfl) rfl
theorem u_1167 : Cond.methodLink "PromiseDeskModel" 204 yX12_element ∈ Tw := Tw_5 (List.mem_of_getElem? (i := 207) rfl) rfl
theorem u_1169 : Cond.instanceMethod yX12_element ∈ Tw := Tw_5 (List.mem_of_getElem? (i := 209) rfl) rfl
theorem u_1170 : Cond.code yX12_element prog_14_method_25_code 6 (Option.none : Option FieldType) ∈ Tw := Tw_5 (List.mem_of_getElem? (i := 210) rfl) rfl
theorem u_1171 : Cond.methodLink "PromiseDeskModel" 207 yX12_last ∈ Tw := Tw_5 (List.mem_of_getElem? (i := 211) rfl) rfl
theorem u_1173 : Cond.instanceMethod yX12_last ∈ Tw := Tw_5 (List.mem_of_getElem? (i := 213) rfl) rfl
theorem u_1174 : Cond.code yX12_last prog_14_method_23_code 8 (Option.some FieldType.int) ∈ Tw := Tw_5 (List.mem_of_getElem? (i := 214) rfl) rfl
theorem u_1175 : Cond.methodLink "PromiseDeskModel" 211 yX12_resume ∈ Tw := Tw_5 (List.mem_of_getElem? (i := 215) rfl) rfl
theorem u_1177 : Cond.instanceMethod yX12_resume ∈ Tw := Tw_5 (List.mem_of_getElem? (i := 217) rfl) rfl
theorem u_1178 : Cond.code yX12_resume prog_14_method_31_code 4 (Option.none : Option FieldType) ∈ Tw := Tw_5 (List.mem_of_getElem? (i := 218) rfl) rfl
theorem u_1179 : Cond.methodLink "PromiseDeskLaw" 130 yX12_state ∈ Tw := Tw_5 (List.mem_of_getElem? (i := 219) rfl) rfl
theorem u_1180 : Cond.instanceMethod yX12_state ∈ Tw := Tw_5 (List.mem_of_getElem? (i := 220) rfl) rfl
theorem u_1181 : Cond.selects "PromiseDeskModel" yX12_state yX12_state ∈ Tw := Tw_5 (List.mem_of_getElem? (i := 221) rfl) rfl
theorem u_1182 : Cond.code yX12_state prog_14_method_47_code 2 (Option.some FieldType.int) ∈ Tw := Tw_5 (List.mem_of_getElem? (i := 222) rfl) rfl
theorem u_1183 : Cond.methodLink "PromiseDeskLaw" 133 yX12_result ∈ Tw := Tw_5 (List.mem_of_getElem? (i := 223) rfl) rfl
theorem u_1184 : Cond.instanceMethod yX12_result ∈ Tw := Tw_5 (List.mem_of_getElem? (i := 224) rfl) rfl
theorem u_1185 : Cond.selects "PromiseDeskModel" yX12_result yX12_result ∈ Tw := Tw_5 (List.mem_of_getElem? (i := 225) rfl) rfl
theorem u_1186 : Cond.code yX12_result prog_14_method_48_code 2 (Option.some FieldType.int) ∈ Tw := Tw_5 (List.mem_of_getElem? (i := 226) rfl) rfl
theorem u_1187 : Cond.methodLink "PromiseDeskLaw" 136 yX12_kind ∈ Tw := Tw_5 (List.mem_of_getElem? (i := 227) rfl) rfl
theorem u_1188 : Cond.instanceMethod yX12_kind ∈ Tw := Tw_5 (List.mem_of_getElem? (i := 228) rfl) rfl
theorem u_1189 : Cond.selects "PromiseDeskModel" yX12_kind yX12_kind ∈ Tw := Tw_5 (List.mem_of_getElem? (i := 229) rfl) rfl
theorem u_1190 : Cond.code yX12_kind prog_14_method_49_code 2 (Option.some FieldType.int) ∈ Tw := Tw_5 (List.mem_of_getElem? (i := 230) rfl) rfl
theorem u_1191 : Cond.methodLink "PromiseDeskLaw" 139 yX12_part ∈ Tw := Tw_5 (List.mem_of_getElem? (i := 231) rfl) rfl
theorem u_1192 : Cond.instanceMethod yX12_part ∈ Tw := Tw_5 (List.mem_of_getElem? (i := 232) rfl) rfl
theorem u_1193 : Cond.selects "PromiseDeskModel" yX12_part yX12_part ∈ Tw := Tw_5 (List.mem_of_getElem? (i := 233) rfl) rfl
theorem u_1194 : Cond.code yX12_part prog_14_method_50_code 4 (Option.some FieldType.int) ∈ Tw := Tw_5 (List.mem_of_getElem? (i := 234) rfl) rfl
theorem u_1195 : Cond.methodLink "PromiseDeskLaw" 144 yX12_log ∈ Tw := Tw_5 (List.mem_of_getElem? (i := 235) rfl) rfl
theorem u_1196 : Cond.instanceMethod yX12_log ∈ Tw := Tw_5 (List.mem_of_getElem? (i := 236) rfl) rfl
theorem u_1197 : Cond.selects "PromiseDeskModel" yX12_log yX12_log ∈ Tw := Tw_5 (List.mem_of_getElem? (i := 237) rfl) rfl
theorem u_1198 : Cond.code yX12_log prog_14_method_51_code 3 (Option.some FieldType.int) ∈ Tw := Tw_5 (List.mem_of_getElem? (i := 238) rfl) rfl
theorem u_1199 : Cond.constant "PromiseDeskModel" 275 (-1000000) ∈ Tw := Tw_5 (List.mem_of_getElem? (i := 239) rfl) rfl
theorem u_1200 : Cond.methodLink "PromiseDeskLaw" 147 yX12_count ∈ Tw := Tw_6 (List.mem_of_getElem? (i := 0) rfl) rfl
theorem u_1201 : Cond.instanceMethod yX12_count ∈ Tw := Tw_6 (List.mem_of_getElem? (i := 1) rfl) rfl
theorem u_1202 : Cond.selects "PromiseDeskModel" yX12_count yX12_count ∈ Tw := Tw_6 (List.mem_of_getElem? (i := 2) rfl) rfl
theorem u_1203 : Cond.code yX12_count prog_14_method_52_code 2 (Option.some FieldType.int) ∈ Tw := Tw_6 (List.mem_of_getElem? (i := 3) rfl) rfl
theorem u_1204 : Cond.arrayClass FieldType.long ∈ Tw := Tw_6 (List.mem_of_getElem? (i := 4) rfl) rfl
theorem u_1205 : Cond.sameMethod "java/lang/Throwable" "java/lang/Throwable" "fillInStackTrace" "(I)Ljava/lang/Throwable;" ∈ Tw := Tw_6 (List.mem_of_getElem? (i := 5) rfl) rfl
theorem u_1212 : Cond.sameMethod "[Ljava/lang/Object;" "java/lang/Object" "getClass" "()Ljava/lang/Class;" ∈ Tw := Tw_6 (List.mem_of_getElem? (i := 12) rfl) rfl
theorem u_1213 : Cond.selects "[Ljava/lang/Object;" ⟨"java/lang/Object", "getClass", "()Ljava/lang/Class;"⟩ ⟨"java/lang/Object", "getClass", "()Ljava/lang/Class;"⟩ ∈ Tw := Tw_6 (List.mem_of_getElem? (i := 13) rfl) rfl
theorem us_0 : Cond.selects RX11 yX11_requireRoom yX11_requireRoom ∈ Tw := Tw_sel (List.mem_of_getElem? (i := 0) rfl) rfl
theorem us_1 : Cond.selects "java/lang/Throwable" ⟨"java/lang/Throwable", "fillInStackTrace", "(I)Ljava/lang/Throwable;"⟩ ⟨"java/lang/Throwable", "fillInStackTrace", "(I)Ljava/lang/Throwable;"⟩ ∈ Tw := Tw_sel (List.mem_of_getElem? (i := 1) rfl) rfl
theorem us_2 : Cond.selects RX11 yX11_newPromise yX11_newPromise ∈ Tw := Tw_sel (List.mem_of_getElem? (i := 2) rfl) rfl
theorem us_3 : Cond.selects RX11 yX11_nextValue yX11_nextValue ∈ Tw := Tw_sel (List.mem_of_getElem? (i := 3) rfl) rfl
theorem us_4 : Cond.selects RJx4a65c yJx4a65c_add_72be8 yJx4a65c_add_72be8 ∈ Tw := Tw_sel (List.mem_of_getElem? (i := 4) rfl) rfl
theorem us_5 : Cond.selects RJx4a65c yJx4a65c_grow_d5877 yJx4a65c_grow_d5877 ∈ Tw := Tw_sel (List.mem_of_getElem? (i := 5) rfl) rfl
theorem us_6 : Cond.selects RJx4a65c yJx4a65c_grow_92f84 yJx4a65c_grow_92f84 ∈ Tw := Tw_sel (List.mem_of_getElem? (i := 6) rfl) rfl
theorem us_7 : Cond.selects RX11 yX11_requireRange yX11_requireRange ∈ Tw := Tw_sel (List.mem_of_getElem? (i := 7) rfl) rfl
theorem us_8 : Cond.selects RX11 yX11_requireValue yX11_requireValue ∈ Tw := Tw_sel (List.mem_of_getElem? (i := 8) rfl) rfl
theorem us_9 : Cond.selects RX11 yX11_thingOf yX11_thingOf ∈ Tw := Tw_sel (List.mem_of_getElem? (i := 9) rfl) rfl
theorem us_10 : Cond.selects RX11 yX11_requireKept yX11_requireKept ∈ Tw := Tw_sel (List.mem_of_getElem? (i := 10) rfl) rfl
theorem us_11 : Cond.selects RX11 yX11_requirePromise yX11_requirePromise ∈ Tw := Tw_sel (List.mem_of_getElem? (i := 11) rfl) rfl
theorem us_12 : Cond.selects RX11 yX11_callOneOf yX11_callOneOf ∈ Tw := Tw_sel (List.mem_of_getElem? (i := 12) rfl) rfl
theorem us_13 : Cond.selects RX11 yX11_reject yX11_reject ∈ Tw := Tw_sel (List.mem_of_getElem? (i := 13) rfl) rfl
theorem us_14 : Cond.selects RX11 yX11_close yX11_close ∈ Tw := Tw_sel (List.mem_of_getElem? (i := 14) rfl) rfl
theorem us_15 : Cond.selects RX11 yX11_enqueue yX11_enqueue ∈ Tw := Tw_sel (List.mem_of_getElem? (i := 15) rfl) rfl
theorem us_16 : Cond.selects RX11 yX11_resolve yX11_resolve ∈ Tw := Tw_sel (List.mem_of_getElem? (i := 16) rfl) rfl
theorem us_17 : Cond.selects RX11 yX11_newThing yX11_newThing ∈ Tw := Tw_sel (List.mem_of_getElem? (i := 17) rfl) rfl
theorem us_18 : Cond.selects RX11 yX11_hasThenFunction yX11_hasThenFunction ∈ Tw := Tw_sel (List.mem_of_getElem? (i := 18) rfl) rfl
theorem us_19 : Cond.selects RX11 yX11_requireThenable yX11_requireThenable ∈ Tw := Tw_sel (List.mem_of_getElem? (i := 19) rfl) rfl
theorem us_20 : Cond.selects RX11 yX11_requireHandler yX11_requireHandler ∈ Tw := Tw_sel (List.mem_of_getElem? (i := 20) rfl) rfl
theorem us_21 : Cond.selects RX11 yX11_derive yX11_derive ∈ Tw := Tw_sel (List.mem_of_getElem? (i := 21) rfl) rfl
theorem us_22 : Cond.selects RX11 yX11_attach yX11_attach ∈ Tw := Tw_sel (List.mem_of_getElem? (i := 22) rfl) rfl
theorem us_23 : Cond.selects RX11 yX11_promiseFor yX11_promiseFor ∈ Tw := Tw_sel (List.mem_of_getElem? (i := 23) rfl) rfl
theorem us_24 : Cond.selects RX11 yX11_takeList yX11_takeList ∈ Tw := Tw_sel (List.mem_of_getElem? (i := 24) rfl) rfl
theorem us_25 : Cond.selects RX11 yX11_onFulfilled yX11_onFulfilled ∈ Tw := Tw_sel (List.mem_of_getElem? (i := 25) rfl) rfl
theorem us_26 : Cond.selects RX11 yX11_onRejected yX11_onRejected ∈ Tw := Tw_sel (List.mem_of_getElem? (i := 26) rfl) rfl
theorem us_27 : Cond.selects RX11 yX11_complete yX11_complete ∈ Tw := Tw_sel (List.mem_of_getElem? (i := 27) rfl) rfl
theorem us_28 : Cond.selects RX11 yX11_advance yX11_advance ∈ Tw := Tw_sel (List.mem_of_getElem? (i := 28) rfl) rfl
theorem us_29 : Cond.selects RX11 yX11_requireRoomInLog yX11_requireRoomInLog ∈ Tw := Tw_sel (List.mem_of_getElem? (i := 29) rfl) rfl
theorem us_30 : Cond.selects RX11 yX11_dequeue yX11_dequeue ∈ Tw := Tw_sel (List.mem_of_getElem? (i := 30) rfl) rfl
theorem us_31 : Cond.selects RX11 yX11_doJob yX11_doJob ∈ Tw := Tw_sel (List.mem_of_getElem? (i := 31) rfl) rfl
theorem us_32 : Cond.selects RX11 yX11_hears yX11_hears ∈ Tw := Tw_sel (List.mem_of_getElem? (i := 32) rfl) rfl
theorem us_33 : Cond.selects RX11 yX11_note yX11_note ∈ Tw := Tw_sel (List.mem_of_getElem? (i := 33) rfl) rfl
theorem us_34 : Cond.selects RX11 yX11_callThen yX11_callThen ∈ Tw := Tw_sel (List.mem_of_getElem? (i := 34) rfl) rfl
theorem us_35 : Cond.selects RX11 yX11_doAct yX11_doAct ∈ Tw := Tw_sel (List.mem_of_getElem? (i := 35) rfl) rfl
theorem us_36 : Cond.selects RX11 yX11_finish yX11_finish ∈ Tw := Tw_sel (List.mem_of_getElem? (i := 36) rfl) rfl
theorem us_37 : Cond.selects RX11 yX11_requireThing yX11_requireThing ∈ Tw := Tw_sel (List.mem_of_getElem? (i := 37) rfl) rfl
theorem us_38 : Cond.selects RX11 yX11_requireParts yX11_requireParts ∈ Tw := Tw_sel (List.mem_of_getElem? (i := 38) rfl) rfl
theorem us_39 : Cond.selects RX12 yX12_isFull yX12_isFull ∈ Tw := Tw_sel (List.mem_of_getElem? (i := 39) rfl) rfl
theorem us_40 : Cond.selects RX12 yX12_fails yX12_fails ∈ Tw := Tw_sel (List.mem_of_getElem? (i := 40) rfl) rfl
theorem us_41 : Cond.selects RX12 yX12_capability yX12_capability ∈ Tw := Tw_sel (List.mem_of_getElem? (i := 41) rfl) rfl
theorem us_42 : Cond.selects RX12 yX12_newObject yX12_newObject ∈ Tw := Tw_sel (List.mem_of_getElem? (i := 42) rfl) rfl
theorem us_43 : Cond.selects RX12 yX12_record yX12_record ∈ Tw := Tw_sel (List.mem_of_getElem? (i := 43) rfl) rfl
theorem us_44 : Cond.selects RX12 yX12_isValue yX12_isValue ∈ Tw := Tw_sel (List.mem_of_getElem? (i := 44) rfl) rfl
theorem us_45 : Cond.selects RX12 yX12_isObject yX12_isObject ∈ Tw := Tw_sel (List.mem_of_getElem? (i := 45) rfl) rfl
theorem us_46 : Cond.selects RX12 yX12_isKept yX12_isKept ∈ Tw := Tw_sel (List.mem_of_getElem? (i := 46) rfl) rfl
theorem us_47 : Cond.selects RX12 yX12_isKind yX12_isKind ∈ Tw := Tw_sel (List.mem_of_getElem? (i := 47) rfl) rfl
theorem us_48 : Cond.selects RX12 yX12_reject yX12_reject ∈ Tw := Tw_sel (List.mem_of_getElem? (i := 48) rfl) rfl
theorem us_49 : Cond.selects RX12 yX12_settle yX12_settle ∈ Tw := Tw_sel (List.mem_of_getElem? (i := 49) rfl) rfl
theorem us_50 : Cond.selects RX12 yX12_react yX12_react ∈ Tw := Tw_sel (List.mem_of_getElem? (i := 50) rfl) rfl
theorem us_51 : Cond.selects RX12 yX12_resolve yX12_resolve ∈ Tw := Tw_sel (List.mem_of_getElem? (i := 51) rfl) rfl
theorem us_52 : Cond.selects RX12 yX12_isHandler yX12_isHandler ∈ Tw := Tw_sel (List.mem_of_getElem? (i := 52) rfl) rfl
theorem us_53 : Cond.selects RX12 yX12_then yX12_then ∈ Tw := Tw_sel (List.mem_of_getElem? (i := 53) rfl) rfl
theorem us_54 : Cond.selects RX12 yX12_performThen yX12_performThen ∈ Tw := Tw_sel (List.mem_of_getElem? (i := 54) rfl) rfl
theorem us_55 : Cond.selects RX12 yX12_promiseOf yX12_promiseOf ∈ Tw := Tw_sel (List.mem_of_getElem? (i := 55) rfl) rfl
theorem us_56 : Cond.selects RX12 yX12_group yX12_group ∈ Tw := Tw_sel (List.mem_of_getElem? (i := 56) rfl) rfl
theorem us_57 : Cond.selects RX12 yX12_finish yX12_finish ∈ Tw := Tw_sel (List.mem_of_getElem? (i := 57) rfl) rfl
theorem us_58 : Cond.selects RX12 yX12_array yX12_array ∈ Tw := Tw_sel (List.mem_of_getElem? (i := 58) rfl) rfl
theorem us_59 : Cond.selects RX12 yX12_goOn yX12_goOn ∈ Tw := Tw_sel (List.mem_of_getElem? (i := 59) rfl) rfl
theorem us_60 : Cond.selects RX12 yX12_job yX12_job ∈ Tw := Tw_sel (List.mem_of_getElem? (i := 60) rfl) rfl
theorem us_61 : Cond.selects RX12 yX12_thenJob yX12_thenJob ∈ Tw := Tw_sel (List.mem_of_getElem? (i := 61) rfl) rfl
theorem us_62 : Cond.selects RX12 yX12_note yX12_note ∈ Tw := Tw_sel (List.mem_of_getElem? (i := 62) rfl) rfl
theorem us_63 : Cond.selects RX12 yX12_does yX12_does ∈ Tw := Tw_sel (List.mem_of_getElem? (i := 63) rfl) rfl
theorem us_64 : Cond.selects RX12 yX12_call yX12_call ∈ Tw := Tw_sel (List.mem_of_getElem? (i := 64) rfl) rfl
theorem us_65 : Cond.selects RX12 yX12_handle yX12_handle ∈ Tw := Tw_sel (List.mem_of_getElem? (i := 65) rfl) rfl
theorem us_66 : Cond.selects RX12 yX12_element yX12_element ∈ Tw := Tw_sel (List.mem_of_getElem? (i := 66) rfl) rfl
theorem us_67 : Cond.selects RX12 yX12_last yX12_last ∈ Tw := Tw_sel (List.mem_of_getElem? (i := 67) rfl) rfl
theorem us_68 : Cond.selects RX12 yX12_resume yX12_resume ∈ Tw := Tw_sel (List.mem_of_getElem? (i := 68) rfl) rfl
end
section
theorem dX12_init_0 : decode cX12_init 0 = .ok (.aload_n 0, 1) := by decide +kernel
theorem dX12_init_1 : decode cX12_init 1 = .ok (.invokespecial 1, 3) := by decide +kernel
theorem dX12_init_4 : decode cX12_init 4 = .ok (.aload_n 0, 1) := by decide +kernel
theorem dX12_init_5 : decode cX12_init 5 = .ok (.sipush 3000, 3) := by decide +kernel
theorem dX12_init_8 : decode cX12_init 8 = .ok (.newarray .int, 2) := by decide +kernel
theorem dX12_init_10 : decode cX12_init 10 = .ok (.putfield 7, 3) := by decide +kernel
theorem dX12_init_13 : decode cX12_init 13 = .ok (.aload_n 0, 1) := by decide +kernel
theorem dX12_init_14 : decode cX12_init 14 = .ok (.sipush 3000, 3) := by decide +kernel
theorem dX12_init_17 : decode cX12_init 17 = .ok (.newarray .int, 2) := by decide +kernel
theorem dX12_init_19 : decode cX12_init 19 = .ok (.putfield 13, 3) := by decide +kernel
theorem dX12_init_22 : decode cX12_init 22 = .ok (.aload_n 0, 1) := by decide +kernel
theorem dX12_init_23 : decode cX12_init 23 = .ok (.sipush 3000, 3) := by decide +kernel
theorem dX12_init_26 : decode cX12_init 26 = .ok (.newarray .int, 2) := by decide +kernel
theorem dX12_init_28 : decode cX12_init 28 = .ok (.putfield 16, 3) := by decide +kernel
theorem dX12_init_31 : decode cX12_init 31 = .ok (.aload_n 0, 1) := by decide +kernel
theorem dX12_init_32 : decode cX12_init 32 = .ok (.sipush 3000, 3) := by decide +kernel
theorem dX12_init_35 : decode cX12_init 35 = .ok (.newarray .int, 2) := by decide +kernel
theorem dX12_init_37 : decode cX12_init 37 = .ok (.putfield 19, 3) := by decide +kernel
theorem dX12_init_40 : decode cX12_init 40 = .ok (.aload_n 0, 1) := by decide +kernel
theorem dX12_init_41 : decode cX12_init 41 = .ok (.sipush 3000, 3) := by decide +kernel
theorem dX12_init_44 : decode cX12_init 44 = .ok (.newarray .int, 2) := by decide +kernel
theorem dX12_init_46 : decode cX12_init 46 = .ok (.putfield 22, 3) := by decide +kernel
theorem dX12_init_49 : decode cX12_init 49 = .ok (.aload_n 0, 1) := by decide +kernel
theorem dX12_init_50 : decode cX12_init 50 = .ok (.sipush 3000, 3) := by decide +kernel
theorem dX12_init_53 : decode cX12_init 53 = .ok (.newarray .boolean, 2) := by decide +kernel
theorem dX12_init_55 : decode cX12_init 55 = .ok (.putfield 25, 3) := by decide +kernel
theorem dX12_init_58 : decode cX12_init 58 = .ok (.aload_n 0, 1) := by decide +kernel
theorem dX12_init_59 : decode cX12_init 59 = .ok (.sipush 3000, 3) := by decide +kernel
theorem dX12_init_62 : decode cX12_init 62 = .ok (.newarray .int, 2) := by decide +kernel
theorem dX12_init_64 : decode cX12_init 64 = .ok (.putfield 29, 3) := by decide +kernel
theorem dX12_init_67 : decode cX12_init 67 = .ok (.aload_n 0, 1) := by decide +kernel
theorem dX12_init_68 : decode cX12_init 68 = .ok (.sipush 3000, 3) := by decide +kernel
theorem dX12_init_71 : decode cX12_init 71 = .ok (.newarray .int, 2) := by decide +kernel
theorem dX12_init_73 : decode cX12_init 73 = .ok (.putfield 32, 3) := by decide +kernel
theorem dX12_init_76 : decode cX12_init 76 = .ok (.aload_n 0, 1) := by decide +kernel
theorem dX12_init_77 : decode cX12_init 77 = .ok (.sipush 3000, 3) := by decide +kernel
theorem dX12_init_80 : decode cX12_init 80 = .ok (.newarray .int, 2) := by decide +kernel
theorem dX12_init_82 : decode cX12_init 82 = .ok (.putfield 35, 3) := by decide +kernel
theorem dX12_init_85 : decode cX12_init 85 = .ok (.aload_n 0, 1) := by decide +kernel
theorem dX12_init_86 : decode cX12_init 86 = .ok (.sipush 3000, 3) := by decide +kernel
theorem dX12_init_89 : decode cX12_init 89 = .ok (.newarray .int, 2) := by decide +kernel
theorem dX12_init_91 : decode cX12_init 91 = .ok (.putfield 38, 3) := by decide +kernel
theorem dX12_init_94 : decode cX12_init 94 = .ok (.aload_n 0, 1) := by decide +kernel
theorem dX12_init_95 : decode cX12_init 95 = .ok (.sipush 3000, 3) := by decide +kernel
theorem dX12_init_98 : decode cX12_init 98 = .ok (.newarray .int, 2) := by decide +kernel
theorem dX12_init_100 : decode cX12_init 100 = .ok (.putfield 41, 3) := by decide +kernel
theorem dX12_init_103 : decode cX12_init 103 = .ok (.aload_n 0, 1) := by decide +kernel
theorem dX12_init_104 : decode cX12_init 104 = .ok (.sipush 12000, 3) := by decide +kernel
theorem dX12_init_107 : decode cX12_init 107 = .ok (.newarray .int, 2) := by decide +kernel
theorem dX12_init_109 : decode cX12_init 109 = .ok (.putfield 44, 3) := by decide +kernel
theorem dX12_init_112 : decode cX12_init 112 = .ok (.aload_n 0, 1) := by decide +kernel
theorem dX12_init_113 : decode cX12_init 113 = .ok (.sipush 12000, 3) := by decide +kernel
theorem dX12_init_116 : decode cX12_init 116 = .ok (.newarray .boolean, 2) := by decide +kernel
theorem dX12_init_118 : decode cX12_init 118 = .ok (.putfield 47, 3) := by decide +kernel
theorem dX12_init_121 : decode cX12_init 121 = .ok (.aload_n 0, 1) := by decide +kernel
theorem dX12_init_122 : decode cX12_init 122 = .ok (.sipush 12000, 3) := by decide +kernel
theorem dX12_init_125 : decode cX12_init 125 = .ok (.newarray .int, 2) := by decide +kernel
theorem dX12_init_127 : decode cX12_init 127 = .ok (.putfield 50, 3) := by decide +kernel
theorem dX12_init_130 : decode cX12_init 130 = .ok (.aload_n 0, 1) := by decide +kernel
theorem dX12_init_131 : decode cX12_init 131 = .ok (.sipush 12000, 3) := by decide +kernel
theorem dX12_init_134 : decode cX12_init 134 = .ok (.newarray .int, 2) := by decide +kernel
theorem dX12_init_136 : decode cX12_init 136 = .ok (.putfield 53, 3) := by decide +kernel
theorem dX12_init_139 : decode cX12_init 139 = .ok (.aload_n 0, 1) := by decide +kernel
theorem dX12_init_140 : decode cX12_init 140 = .ok (.sipush 12000, 3) := by decide +kernel
theorem dX12_init_143 : decode cX12_init 143 = .ok (.newarray .int, 2) := by decide +kernel
theorem dX12_init_145 : decode cX12_init 145 = .ok (.putfield 56, 3) := by decide +kernel
theorem dX12_init_148 : decode cX12_init 148 = .ok (.aload_n 0, 1) := by decide +kernel
theorem dX12_init_149 : decode cX12_init 149 = .ok (.sipush 12000, 3) := by decide +kernel
theorem dX12_init_152 : decode cX12_init 152 = .ok (.newarray .int, 2) := by decide +kernel
theorem dX12_init_154 : decode cX12_init 154 = .ok (.putfield 59, 3) := by decide +kernel
theorem dX12_init_157 : decode cX12_init 157 = .ok (.aload_n 0, 1) := by decide +kernel
theorem dX12_init_158 : decode cX12_init 158 = .ok (.sipush 12000, 3) := by decide +kernel
theorem dX12_init_161 : decode cX12_init 161 = .ok (.newarray .int, 2) := by decide +kernel
theorem dX12_init_163 : decode cX12_init 163 = .ok (.putfield 62, 3) := by decide +kernel
theorem dX12_init_166 : decode cX12_init 166 = .ok (.aload_n 0, 1) := by decide +kernel
theorem dX12_init_167 : decode cX12_init 167 = .ok (.sipush 12000, 3) := by decide +kernel
theorem dX12_init_170 : decode cX12_init 170 = .ok (.newarray .int, 2) := by decide +kernel
theorem dX12_init_172 : decode cX12_init 172 = .ok (.putfield 65, 3) := by decide +kernel
theorem dX12_init_175 : decode cX12_init 175 = .ok (.aload_n 0, 1) := by decide +kernel
theorem dX12_init_176 : decode cX12_init 176 = .ok (.sipush 24000, 3) := by decide +kernel
theorem dX12_init_179 : decode cX12_init 179 = .ok (.newarray .int, 2) := by decide +kernel
theorem dX12_init_181 : decode cX12_init 181 = .ok (.putfield 68, 3) := by decide +kernel
theorem dX12_init_184 : decode cX12_init 184 = .ok (.aload_n 0, 1) := by decide +kernel
theorem dX12_init_185 : decode cX12_init 185 = .ok (.sipush 24000, 3) := by decide +kernel
theorem dX12_init_188 : decode cX12_init 188 = .ok (.newarray .int, 2) := by decide +kernel
theorem dX12_init_190 : decode cX12_init 190 = .ok (.putfield 71, 3) := by decide +kernel
theorem dX12_init_193 : decode cX12_init 193 = .ok (.aload_n 0, 1) := by decide +kernel
theorem dX12_init_194 : decode cX12_init 194 = .ok (.sipush 24000, 3) := by decide +kernel
theorem dX12_init_197 : decode cX12_init 197 = .ok (.newarray .int, 2) := by decide +kernel
theorem dX12_init_199 : decode cX12_init 199 = .ok (.putfield 74, 3) := by decide +kernel
theorem dX12_init_202 : decode cX12_init 202 = .ok (.aload_n 0, 1) := by decide +kernel
theorem dX12_init_203 : decode cX12_init 203 = .ok (.sipush 24000, 3) := by decide +kernel
theorem dX12_init_206 : decode cX12_init 206 = .ok (.newarray .int, 2) := by decide +kernel
theorem dX12_init_208 : decode cX12_init 208 = .ok (.putfield 77, 3) := by decide +kernel
theorem dX12_init_211 : decode cX12_init 211 = .ok (.aload_n 0, 1) := by decide +kernel
theorem dX12_init_212 : decode cX12_init 212 = .ok (.sipush 24000, 3) := by decide +kernel
theorem dX12_init_215 : decode cX12_init 215 = .ok (.newarray .boolean, 2) := by decide +kernel
theorem dX12_init_217 : decode cX12_init 217 = .ok (.putfield 80, 3) := by decide +kernel
theorem dX12_init_220 : decode cX12_init 220 = .ok (.aload_n 0, 1) := by decide +kernel
theorem dX12_init_221 : decode cX12_init 221 = .ok (.sipush 24000, 3) := by decide +kernel
theorem dX12_init_224 : decode cX12_init 224 = .ok (.newarray .boolean, 2) := by decide +kernel
theorem dX12_init_226 : decode cX12_init 226 = .ok (.putfield 83, 3) := by decide +kernel
theorem dX12_init_229 : decode cX12_init 229 = .ok (.aload_n 0, 1) := by decide +kernel
theorem dX12_init_230 : decode cX12_init 230 = .ok (.sipush 1000, 3) := by decide +kernel
theorem dX12_init_233 : decode cX12_init 233 = .ok (.newarray .int, 2) := by decide +kernel
theorem dX12_init_235 : decode cX12_init 235 = .ok (.putfield 86, 3) := by decide +kernel
theorem dX12_init_238 : decode cX12_init 238 = .ok (.aload_n 0, 1) := by decide +kernel
theorem dX12_init_239 : decode cX12_init 239 = .ok (.sipush 1000, 3) := by decide +kernel
theorem dX12_init_242 : decode cX12_init 242 = .ok (.newarray .int, 2) := by decide +kernel
theorem dX12_init_244 : decode cX12_init 244 = .ok (.putfield 89, 3) := by decide +kernel
theorem dX12_init_247 : decode cX12_init 247 = .ok (.aload_n 0, 1) := by decide +kernel
theorem dX12_init_248 : decode cX12_init 248 = .ok (.sipush 4200, 3) := by decide +kernel
theorem dX12_init_251 : decode cX12_init 251 = .ok (.newarray .int, 2) := by decide +kernel
theorem dX12_init_253 : decode cX12_init 253 = .ok (.putfield 92, 3) := by decide +kernel
theorem dX12_init_256 : decode cX12_init 256 = .ok (.aload_n 0, 1) := by decide +kernel
theorem dX12_init_257 : decode cX12_init 257 = .ok (.sipush 4200, 3) := by decide +kernel
theorem dX12_init_260 : decode cX12_init 260 = .ok (.newarray .int, 2) := by decide +kernel
theorem dX12_init_262 : decode cX12_init 262 = .ok (.putfield 95, 3) := by decide +kernel
theorem dX12_init_265 : decode cX12_init 265 = .ok (.aload_n 0, 1) := by decide +kernel
theorem dX12_init_266 : decode cX12_init 266 = .ok (.sipush 200, 3) := by decide +kernel
theorem dX12_init_269 : decode cX12_init 269 = .ok (.newarray .int, 2) := by decide +kernel
theorem dX12_init_271 : decode cX12_init 271 = .ok (.putfield 98, 3) := by decide +kernel
theorem dX12_init_274 : decode cX12_init 274 = .ok (.aload_n 0, 1) := by decide +kernel
theorem dX12_init_275 : decode cX12_init 275 = .ok (.sipush 20000, 3) := by decide +kernel
theorem dX12_init_278 : decode cX12_init 278 = .ok (.newarray .int, 2) := by decide +kernel
theorem dX12_init_280 : decode cX12_init 280 = .ok (.putfield 101, 3) := by decide +kernel
theorem dX12_init_283 : decode cX12_init 283 = .ok (.aload_n 0, 1) := by decide +kernel
theorem dX12_init_284 : decode cX12_init 284 = .ok (.sipush 20000, 3) := by decide +kernel
theorem dX12_init_287 : decode cX12_init 287 = .ok (.newarray .int, 2) := by decide +kernel
theorem dX12_init_289 : decode cX12_init 289 = .ok (.putfield 104, 3) := by decide +kernel
theorem dX12_init_292 : decode cX12_init 292 = .ok (.aload_n 0, 1) := by decide +kernel
theorem dX12_init_293 : decode cX12_init 293 = .ok (.sipush 20000, 3) := by decide +kernel
theorem dX12_init_296 : decode cX12_init 296 = .ok (.newarray .boolean, 2) := by decide +kernel
theorem dX12_init_298 : decode cX12_init 298 = .ok (.putfield 107, 3) := by decide +kernel
theorem dX12_init_301 : decode cX12_init 301 = .ok (.aload_n 0, 1) := by decide +kernel
theorem dX12_init_302 : decode cX12_init 302 = .ok (.sipush 3000, 3) := by decide +kernel
theorem dX12_init_305 : decode cX12_init 305 = .ok (.newarray .int, 2) := by decide +kernel
theorem dX12_init_307 : decode cX12_init 307 = .ok (.putfield 110, 3) := by decide +kernel
theorem dX12_init_310 : decode cX12_init 310 = .ok (.aload_n 0, 1) := by decide +kernel
theorem dX12_init_311 : decode cX12_init 311 = .ok (.sipush 3000, 3) := by decide +kernel
theorem dX12_init_314 : decode cX12_init 314 = .ok (.newarray .int, 2) := by decide +kernel
theorem dX12_init_316 : decode cX12_init 316 = .ok (.putfield 113, 3) := by decide +kernel
theorem dX12_init_319 : decode cX12_init 319 = .ok (.aload_n 0, 1) := by decide +kernel
theorem dX12_init_320 : decode cX12_init 320 = .ok (.sipush 3000, 3) := by decide +kernel
theorem dX12_init_323 : decode cX12_init 323 = .ok (.newarray .int, 2) := by decide +kernel
theorem dX12_init_325 : decode cX12_init 325 = .ok (.putfield 116, 3) := by decide +kernel
theorem dX12_init_328 : decode cX12_init 328 = .ok (.aload_n 0, 1) := by decide +kernel
theorem dX12_init_329 : decode cX12_init 329 = .ok (.sipush 3000, 3) := by decide +kernel
theorem dX12_init_332 : decode cX12_init 332 = .ok (.newarray .int, 2) := by decide +kernel
theorem dX12_init_334 : decode cX12_init 334 = .ok (.putfield 119, 3) := by decide +kernel
theorem dX12_init_337 : decode cX12_init 337 = .ok (.aload_n 0, 1) := by decide +kernel
theorem dX12_init_338 : decode cX12_init 338 = .ok (.sipush 3000, 3) := by decide +kernel
theorem dX12_init_341 : decode cX12_init 341 = .ok (.newarray .int, 2) := by decide +kernel
theorem dX12_init_343 : decode cX12_init 343 = .ok (.putfield 122, 3) := by decide +kernel
theorem dX12_init_346 : decode cX12_init 346 = .ok (.aload_n 0, 1) := by decide +kernel
theorem dX12_init_347 : decode cX12_init 347 = .ok (.sipush 3000, 3) := by decide +kernel
theorem dX12_init_350 : decode cX12_init 350 = .ok (.newarray .int, 2) := by decide +kernel
theorem dX12_init_352 : decode cX12_init 352 = .ok (.putfield 125, 3) := by decide +kernel
theorem dX12_init_355 : decode cX12_init 355 = .ok (.aload_n 0, 1) := by decide +kernel
theorem dX12_init_356 : decode cX12_init 356 = .ok (.sipush 3000, 3) := by decide +kernel
theorem dX12_init_359 : decode cX12_init 359 = .ok (.newarray .int, 2) := by decide +kernel
theorem dX12_init_361 : decode cX12_init 361 = .ok (.putfield 128, 3) := by decide +kernel
theorem dX12_init_364 : decode cX12_init 364 = .ok (.return_, 1) := by decide +kernel
theorem dX12_thrown_0 : decode cX12_thrown 0 = .ok (.aload_n 0, 1) := by decide +kernel
theorem dX12_thrown_1 : decode cX12_thrown 1 = .ok (.getfield 131, 3) := by decide +kernel
theorem dX12_thrown_4 : decode cX12_thrown 4 = .ok (.ireturn, 1) := by decide +kernel
theorem dX12_fails_0 : decode cX12_fails 0 = .ok (.aload_n 0, 1) := by decide +kernel
theorem dX12_fails_1 : decode cX12_fails 1 = .ok (.iload_n 1, 1) := by decide +kernel
theorem dX12_fails_2 : decode cX12_fails 2 = .ok (.putfield 131, 3) := by decide +kernel
theorem dX12_fails_5 : decode cX12_fails 5 = .ok (.iconst 0, 1) := by decide +kernel
theorem dX12_fails_6 : decode cX12_fails 6 = .ok (.ireturn, 1) := by decide +kernel
theorem dX12_valueOf_0 : decode cX12_valueOf 0 = .ok (.bipush (-2), 2) := by decide +kernel
theorem dX12_valueOf_2 : decode cX12_valueOf 2 = .ok (.iload_n 0, 1) := by decide +kernel
theorem dX12_valueOf_3 : decode cX12_valueOf 3 = .ok (.isub, 1) := by decide +kernel
theorem dX12_valueOf_4 : decode cX12_valueOf 4 = .ok (.ireturn, 1) := by decide +kernel
theorem dX12_isObject_0 : decode cX12_isObject 0 = .ok (.iload_n 1, 1) := by decide +kernel
theorem dX12_isObject_1 : decode cX12_isObject 1 = .ok (.bipush (-2), 2) := by decide +kernel
theorem dX12_isObject_3 : decode cX12_isObject 3 = .ok (.if_icmp .gt 25, 3) := by decide +kernel
theorem dX12_isObject_6 : decode cX12_isObject 6 = .ok (.bipush (-2), 2) := by decide +kernel
theorem dX12_isObject_8 : decode cX12_isObject 8 = .ok (.iload_n 1, 1) := by decide +kernel
theorem dX12_isObject_9 : decode cX12_isObject 9 = .ok (.isub, 1) := by decide +kernel
theorem dX12_isObject_10 : decode cX12_isObject 10 = .ok (.aload_n 0, 1) := by decide +kernel
theorem dX12_isObject_11 : decode cX12_isObject 11 = .ok (.getfield 135, 3) := by decide +kernel
theorem dX12_isObject_14 : decode cX12_isObject 14 = .ok (.if_icmp .ge 14, 3) := by decide +kernel
theorem dX12_isObject_17 : decode cX12_isObject 17 = .ok (.bipush (-2), 2) := by decide +kernel
theorem dX12_isObject_19 : decode cX12_isObject 19 = .ok (.iload_n 1, 1) := by decide +kernel
theorem dX12_isObject_20 : decode cX12_isObject 20 = .ok (.isub, 1) := by decide +kernel
theorem dX12_isObject_21 : decode cX12_isObject 21 = .ok (.ifCond .lt 7, 3) := by decide +kernel
theorem dX12_isObject_24 : decode cX12_isObject 24 = .ok (.iconst 1, 1) := by decide +kernel
theorem dX12_isObject_25 : decode cX12_isObject 25 = .ok (.goto 4, 3) := by decide +kernel
theorem dX12_isObject_28 : decode cX12_isObject 28 = .ok (.iconst 0, 1) := by decide +kernel
theorem dX12_isObject_29 : decode cX12_isObject 29 = .ok (.ireturn, 1) := by decide +kernel
theorem dX12_isValue_0 : decode cX12_isValue 0 = .ok (.iload_n 1, 1) := by decide +kernel
theorem dX12_isValue_1 : decode cX12_isValue 1 = .ok (.iconst (-1), 1) := by decide +kernel
theorem dX12_isValue_2 : decode cX12_isValue 2 = .ok (.if_icmp .lt 10, 3) := by decide +kernel
theorem dX12_isValue_5 : decode cX12_isValue 5 = .ok (.iload_n 1, 1) := by decide +kernel
theorem dX12_isValue_6 : decode cX12_isValue 6 = .ok (.sipush 1000, 3) := by decide +kernel
theorem dX12_isValue_9 : decode cX12_isValue 9 = .ok (.if_icmp .lt 11, 3) := by decide +kernel
theorem dX12_isValue_12 : decode cX12_isValue 12 = .ok (.aload_n 0, 1) := by decide +kernel
theorem dX12_isValue_13 : decode cX12_isValue 13 = .ok (.iload_n 1, 1) := by decide +kernel
theorem dX12_isValue_14 : decode cX12_isValue 14 = .ok (.invokevirtual 138, 3) := by decide +kernel
theorem dX12_isValue_17 : decode cX12_isValue 17 = .ok (.ifCond .eq 7, 3) := by decide +kernel
theorem dX12_isValue_20 : decode cX12_isValue 20 = .ok (.iconst 1, 1) := by decide +kernel
theorem dX12_isValue_21 : decode cX12_isValue 21 = .ok (.goto 4, 3) := by decide +kernel
theorem dX12_isValue_24 : decode cX12_isValue 24 = .ok (.iconst 0, 1) := by decide +kernel
theorem dX12_isValue_25 : decode cX12_isValue 25 = .ok (.ireturn, 1) := by decide +kernel
theorem dX12_isKind_0 : decode cX12_isKind 0 = .ok (.aload_n 0, 1) := by decide +kernel
theorem dX12_isKind_1 : decode cX12_isKind 1 = .ok (.iload_n 1, 1) := by decide +kernel
theorem dX12_isKind_2 : decode cX12_isKind 2 = .ok (.invokevirtual 138, 3) := by decide +kernel
theorem dX12_isKind_5 : decode cX12_isKind 5 = .ok (.ifCond .eq 20, 3) := by decide +kernel
theorem dX12_isKind_8 : decode cX12_isKind 8 = .ok (.aload_n 0, 1) := by decide +kernel
theorem dX12_isKind_9 : decode cX12_isKind 9 = .ok (.getfield 7, 3) := by decide +kernel
theorem dX12_isKind_12 : decode cX12_isKind 12 = .ok (.bipush (-2), 2) := by decide +kernel
theorem dX12_isKind_14 : decode cX12_isKind 14 = .ok (.iload_n 1, 1) := by decide +kernel
theorem dX12_isKind_15 : decode cX12_isKind 15 = .ok (.isub, 1) := by decide +kernel
theorem dX12_isKind_16 : decode cX12_isKind 16 = .ok (.iaload, 1) := by decide +kernel
theorem dX12_isKind_17 : decode cX12_isKind 17 = .ok (.iload_n 2, 1) := by decide +kernel
theorem dX12_isKind_18 : decode cX12_isKind 18 = .ok (.if_icmp .ne 7, 3) := by decide +kernel
theorem dX12_isKind_21 : decode cX12_isKind 21 = .ok (.iconst 1, 1) := by decide +kernel
theorem dX12_isKind_22 : decode cX12_isKind 22 = .ok (.goto 4, 3) := by decide +kernel
theorem dX12_isKind_25 : decode cX12_isKind 25 = .ok (.iconst 0, 1) := by decide +kernel
theorem dX12_isKind_26 : decode cX12_isKind 26 = .ok (.ireturn, 1) := by decide +kernel
theorem dX12_isHandler_0 : decode cX12_isHandler 0 = .ok (.iload_n 1, 1) := by decide +kernel
theorem dX12_isHandler_1 : decode cX12_isHandler 1 = .ok (.ifCond .lt 15, 3) := by decide +kernel
theorem dX12_isHandler_4 : decode cX12_isHandler 4 = .ok (.iload_n 1, 1) := by decide +kernel
theorem dX12_isHandler_5 : decode cX12_isHandler 5 = .ok (.aload_n 0, 1) := by decide +kernel
theorem dX12_isHandler_6 : decode cX12_isHandler 6 = .ok (.getfield 142, 3) := by decide +kernel
theorem dX12_isHandler_9 : decode cX12_isHandler 9 = .ok (.if_icmp .ge 7, 3) := by decide +kernel
theorem dX12_isHandler_12 : decode cX12_isHandler 12 = .ok (.iconst 1, 1) := by decide +kernel
theorem dX12_isHandler_13 : decode cX12_isHandler 13 = .ok (.goto 4, 3) := by decide +kernel
theorem dX12_isHandler_16 : decode cX12_isHandler 16 = .ok (.iconst 0, 1) := by decide +kernel
theorem dX12_isHandler_17 : decode cX12_isHandler 17 = .ok (.ireturn, 1) := by decide +kernel
theorem dX12_isFull_0 : decode cX12_isFull 0 = .ok (.sipush 3000, 3) := by decide +kernel
theorem dX12_isFull_3 : decode cX12_isFull 3 = .ok (.aload_n 0, 1) := by decide +kernel
theorem dX12_isFull_4 : decode cX12_isFull 4 = .ok (.getfield 135, 3) := by decide +kernel
theorem dX12_isFull_7 : decode cX12_isFull 7 = .ok (.isub, 1) := by decide +kernel
theorem dX12_isFull_8 : decode cX12_isFull 8 = .ok (.iload_n 1, 1) := by decide +kernel
theorem dX12_isFull_9 : decode cX12_isFull 9 = .ok (.if_icmp .ge 7, 3) := by decide +kernel
theorem dX12_isFull_12 : decode cX12_isFull 12 = .ok (.iconst 1, 1) := by decide +kernel
theorem dX12_isFull_13 : decode cX12_isFull 13 = .ok (.goto 4, 3) := by decide +kernel
theorem dX12_isFull_16 : decode cX12_isFull 16 = .ok (.iconst 0, 1) := by decide +kernel
theorem dX12_isFull_17 : decode cX12_isFull 17 = .ok (.ireturn, 1) := by decide +kernel
theorem dX12_newObject_0 : decode cX12_newObject 0 = .ok (.aload_n 0, 1) := by decide +kernel
theorem dX12_newObject_1 : decode cX12_newObject 1 = .ok (.getfield 135, 3) := by decide +kernel
theorem dX12_newObject_4 : decode cX12_newObject 4 = .ok (.istore_n 2, 1) := by decide +kernel
theorem dX12_newObject_5 : decode cX12_newObject 5 = .ok (.aload_n 0, 1) := by decide +kernel
theorem dX12_newObject_6 : decode cX12_newObject 6 = .ok (.dup, 1) := by decide +kernel
theorem dX12_newObject_7 : decode cX12_newObject 7 = .ok (.getfield 135, 3) := by decide +kernel
theorem dX12_newObject_10 : decode cX12_newObject 10 = .ok (.iconst 1, 1) := by decide +kernel
theorem dX12_newObject_11 : decode cX12_newObject 11 = .ok (.iadd, 1) := by decide +kernel
theorem dX12_newObject_12 : decode cX12_newObject 12 = .ok (.putfield 135, 3) := by decide +kernel
theorem dX12_newObject_15 : decode cX12_newObject 15 = .ok (.aload_n 0, 1) := by decide +kernel
theorem dX12_newObject_16 : decode cX12_newObject 16 = .ok (.getfield 7, 3) := by decide +kernel
theorem dX12_newObject_19 : decode cX12_newObject 19 = .ok (.iload_n 2, 1) := by decide +kernel
theorem dX12_newObject_20 : decode cX12_newObject 20 = .ok (.iload_n 1, 1) := by decide +kernel
theorem dX12_newObject_21 : decode cX12_newObject 21 = .ok (.iastore, 1) := by decide +kernel
theorem dX12_newObject_22 : decode cX12_newObject 22 = .ok (.aload_n 0, 1) := by decide +kernel
theorem dX12_newObject_23 : decode cX12_newObject 23 = .ok (.getfield 13, 3) := by decide +kernel
theorem dX12_newObject_26 : decode cX12_newObject 26 = .ok (.iload_n 2, 1) := by decide +kernel
theorem dX12_newObject_27 : decode cX12_newObject 27 = .ok (.iconst 0, 1) := by decide +kernel
theorem dX12_newObject_28 : decode cX12_newObject 28 = .ok (.iastore, 1) := by decide +kernel
theorem dX12_newObject_29 : decode cX12_newObject 29 = .ok (.aload_n 0, 1) := by decide +kernel
theorem dX12_newObject_30 : decode cX12_newObject 30 = .ok (.getfield 16, 3) := by decide +kernel
theorem dX12_newObject_33 : decode cX12_newObject 33 = .ok (.iload_n 2, 1) := by decide +kernel
theorem dX12_newObject_34 : decode cX12_newObject 34 = .ok (.iconst (-1), 1) := by decide +kernel
theorem dX12_newObject_35 : decode cX12_newObject 35 = .ok (.iastore, 1) := by decide +kernel
theorem dX12_newObject_36 : decode cX12_newObject 36 = .ok (.aload_n 0, 1) := by decide +kernel
theorem dX12_newObject_37 : decode cX12_newObject 37 = .ok (.getfield 19, 3) := by decide +kernel
theorem dX12_newObject_40 : decode cX12_newObject 40 = .ok (.iload_n 2, 1) := by decide +kernel
theorem dX12_newObject_41 : decode cX12_newObject 41 = .ok (.iconst (-1), 1) := by decide +kernel
theorem dX12_newObject_42 : decode cX12_newObject 42 = .ok (.iastore, 1) := by decide +kernel
theorem dX12_newObject_43 : decode cX12_newObject 43 = .ok (.aload_n 0, 1) := by decide +kernel
theorem dX12_newObject_44 : decode cX12_newObject 44 = .ok (.getfield 22, 3) := by decide +kernel
theorem dX12_newObject_47 : decode cX12_newObject 47 = .ok (.iload_n 2, 1) := by decide +kernel
theorem dX12_newObject_48 : decode cX12_newObject 48 = .ok (.iconst (-1), 1) := by decide +kernel
theorem dX12_newObject_49 : decode cX12_newObject 49 = .ok (.iastore, 1) := by decide +kernel
theorem dX12_newObject_50 : decode cX12_newObject 50 = .ok (.iload_n 2, 1) := by decide +kernel
theorem dX12_newObject_51 : decode cX12_newObject 51 = .ok (.ireturn, 1) := by decide +kernel
theorem dX12_record_0 : decode cX12_record 0 = .ok (.aload_n 0, 1) := by decide +kernel
theorem dX12_record_1 : decode cX12_record 1 = .ok (.getfield 145, 3) := by decide +kernel
theorem dX12_record_4 : decode cX12_record 4 = .ok (.istore_n 2, 1) := by decide +kernel
theorem dX12_record_5 : decode cX12_record 5 = .ok (.aload_n 0, 1) := by decide +kernel
theorem dX12_record_6 : decode cX12_record 6 = .ok (.dup, 1) := by decide +kernel
theorem dX12_record_7 : decode cX12_record 7 = .ok (.getfield 145, 3) := by decide +kernel
theorem dX12_record_10 : decode cX12_record 10 = .ok (.iconst 1, 1) := by decide +kernel
theorem dX12_record_11 : decode cX12_record 11 = .ok (.iadd, 1) := by decide +kernel
theorem dX12_record_12 : decode cX12_record 12 = .ok (.putfield 145, 3) := by decide +kernel
theorem dX12_record_15 : decode cX12_record 15 = .ok (.aload_n 0, 1) := by decide +kernel
theorem dX12_record_16 : decode cX12_record 16 = .ok (.getfield 44, 3) := by decide +kernel
theorem dX12_record_19 : decode cX12_record 19 = .ok (.iload_n 2, 1) := by decide +kernel
theorem dX12_record_20 : decode cX12_record 20 = .ok (.iload_n 1, 1) := by decide +kernel
theorem dX12_record_21 : decode cX12_record 21 = .ok (.iastore, 1) := by decide +kernel
theorem dX12_record_22 : decode cX12_record 22 = .ok (.aload_n 0, 1) := by decide +kernel
theorem dX12_record_23 : decode cX12_record 23 = .ok (.getfield 47, 3) := by decide +kernel
theorem dX12_record_26 : decode cX12_record 26 = .ok (.iload_n 2, 1) := by decide +kernel
theorem dX12_record_27 : decode cX12_record 27 = .ok (.iconst 0, 1) := by decide +kernel
theorem dX12_record_28 : decode cX12_record 28 = .ok (.bastore, 1) := by decide +kernel
theorem dX12_record_29 : decode cX12_record 29 = .ok (.iload_n 2, 1) := by decide +kernel
theorem dX12_record_30 : decode cX12_record 30 = .ok (.ireturn, 1) := by decide +kernel
theorem dX12_capability_0 : decode cX12_capability 0 = .ok (.aload_n 0, 1) := by decide +kernel
theorem dX12_capability_1 : decode cX12_capability 1 = .ok (.aload_n 0, 1) := by decide +kernel
theorem dX12_capability_2 : decode cX12_capability 2 = .ok (.iconst 0, 1) := by decide +kernel
theorem dX12_capability_3 : decode cX12_capability 3 = .ok (.invokevirtual 148, 3) := by decide +kernel
theorem dX12_capability_6 : decode cX12_capability 6 = .ok (.invokevirtual 152, 3) := by decide +kernel
theorem dX12_capability_9 : decode cX12_capability 9 = .ok (.ireturn, 1) := by decide +kernel
theorem dX12_resolve_0 : decode cX12_resolve 0 = .ok (.aload_n 0, 1) := by decide +kernel
theorem dX12_resolve_1 : decode cX12_resolve 1 = .ok (.getfield 47, 3) := by decide +kernel
theorem dX12_resolve_4 : decode cX12_resolve 4 = .ok (.iload_n 1, 1) := by decide +kernel
theorem dX12_resolve_5 : decode cX12_resolve 5 = .ok (.baload, 1) := by decide +kernel
theorem dX12_resolve_6 : decode cX12_resolve 6 = .ok (.ifCond .eq 4, 3) := by decide +kernel
theorem dX12_resolve_9 : decode cX12_resolve 9 = .ok (.return_, 1) := by decide +kernel
theorem dX12_resolve_10 : decode cX12_resolve 10 = .ok (.aload_n 0, 1) := by decide +kernel
theorem dX12_resolve_11 : decode cX12_resolve 11 = .ok (.getfield 47, 3) := by decide +kernel
theorem dX12_resolve_14 : decode cX12_resolve 14 = .ok (.iload_n 1, 1) := by decide +kernel
theorem dX12_resolve_15 : decode cX12_resolve 15 = .ok (.iconst 1, 1) := by decide +kernel
theorem dX12_resolve_16 : decode cX12_resolve 16 = .ok (.bastore, 1) := by decide +kernel
theorem dX12_resolve_17 : decode cX12_resolve 17 = .ok (.aload_n 0, 1) := by decide +kernel
theorem dX12_resolve_18 : decode cX12_resolve 18 = .ok (.getfield 44, 3) := by decide +kernel
theorem dX12_resolve_21 : decode cX12_resolve 21 = .ok (.iload_n 1, 1) := by decide +kernel
theorem dX12_resolve_22 : decode cX12_resolve 22 = .ok (.iaload, 1) := by decide +kernel
theorem dX12_resolve_23 : decode cX12_resolve 23 = .ok (.istore_n 3, 1) := by decide +kernel
theorem dX12_resolve_24 : decode cX12_resolve 24 = .ok (.iload_n 2, 1) := by decide +kernel
theorem dX12_resolve_25 : decode cX12_resolve 25 = .ok (.iload_n 3, 1) := by decide +kernel
theorem dX12_resolve_26 : decode cX12_resolve 26 = .ok (.invokestatic 155, 3) := by decide +kernel
theorem dX12_resolve_29 : decode cX12_resolve 29 = .ok (.if_icmp .ne 18, 3) := by decide +kernel
theorem dX12_resolve_32 : decode cX12_resolve 32 = .ok (.aload_n 0, 1) := by decide +kernel
theorem dX12_resolve_33 : decode cX12_resolve 33 = .ok (.iload_n 3, 1) := by decide +kernel
theorem dX12_resolve_34 : decode cX12_resolve 34 = .ok (.iconst 2, 1) := by decide +kernel
theorem dX12_resolve_35 : decode cX12_resolve 35 = .ok (.aload_n 0, 1) := by decide +kernel
theorem dX12_resolve_36 : decode cX12_resolve 36 = .ok (.iconst 2, 1) := by decide +kernel
theorem dX12_resolve_37 : decode cX12_resolve 37 = .ok (.invokevirtual 148, 3) := by decide +kernel
theorem dX12_resolve_40 : decode cX12_resolve 40 = .ok (.invokestatic 155, 3) := by decide +kernel
theorem dX12_resolve_43 : decode cX12_resolve 43 = .ok (.invokevirtual 158, 3) := by decide +kernel
theorem dX12_resolve_46 : decode cX12_resolve 46 = .ok (.return_, 1) := by decide +kernel
theorem dX12_resolve_47 : decode cX12_resolve 47 = .ok (.aload_n 0, 1) := by decide +kernel
theorem dX12_resolve_48 : decode cX12_resolve 48 = .ok (.iload_n 2, 1) := by decide +kernel
theorem dX12_resolve_49 : decode cX12_resolve 49 = .ok (.invokevirtual 138, 3) := by decide +kernel
theorem dX12_resolve_52 : decode cX12_resolve 52 = .ok (.ifCond .ne 11, 3) := by decide +kernel
theorem dX12_resolve_55 : decode cX12_resolve 55 = .ok (.aload_n 0, 1) := by decide +kernel
theorem dX12_resolve_56 : decode cX12_resolve 56 = .ok (.iload_n 3, 1) := by decide +kernel
theorem dX12_resolve_57 : decode cX12_resolve 57 = .ok (.iconst 1, 1) := by decide +kernel
theorem dX12_resolve_58 : decode cX12_resolve 58 = .ok (.iload_n 2, 1) := by decide +kernel
theorem dX12_resolve_59 : decode cX12_resolve 59 = .ok (.invokevirtual 158, 3) := by decide +kernel
theorem dX12_resolve_62 : decode cX12_resolve 62 = .ok (.return_, 1) := by decide +kernel
theorem dX12_resolve_63 : decode cX12_resolve 63 = .ok (.bipush (-2), 2) := by decide +kernel
theorem dX12_resolve_65 : decode cX12_resolve 65 = .ok (.iload_n 2, 1) := by decide +kernel
theorem dX12_resolve_66 : decode cX12_resolve 66 = .ok (.isub, 1) := by decide +kernel
theorem dX12_resolve_67 : decode cX12_resolve 67 = .ok (.istore 4, 2) := by decide +kernel
theorem dX12_resolve_69 : decode cX12_resolve 69 = .ok (.aload_n 0, 1) := by decide +kernel
theorem dX12_resolve_70 : decode cX12_resolve 70 = .ok (.getfield 7, 3) := by decide +kernel
theorem dX12_resolve_73 : decode cX12_resolve 73 = .ok (.iload 4, 2) := by decide +kernel
theorem dX12_resolve_75 : decode cX12_resolve 75 = .ok (.iaload, 1) := by decide +kernel
theorem dX12_resolve_76 : decode cX12_resolve 76 = .ok (.iconst 1, 1) := by decide +kernel
theorem dX12_resolve_77 : decode cX12_resolve 77 = .ok (.if_icmp .ne 30, 3) := by decide +kernel
theorem dX12_resolve_80 : decode cX12_resolve 80 = .ok (.aload_n 0, 1) := by decide +kernel
theorem dX12_resolve_81 : decode cX12_resolve 81 = .ok (.getfield 29, 3) := by decide +kernel
theorem dX12_resolve_84 : decode cX12_resolve 84 = .ok (.iload 4, 2) := by decide +kernel
theorem dX12_resolve_86 : decode cX12_resolve 86 = .ok (.iaload, 1) := by decide +kernel
theorem dX12_resolve_87 : decode cX12_resolve 87 = .ok (.iconst 1, 1) := by decide +kernel
theorem dX12_resolve_88 : decode cX12_resolve 88 = .ok (.if_icmp .ne 19, 3) := by decide +kernel
theorem dX12_resolve_91 : decode cX12_resolve 91 = .ok (.aload_n 0, 1) := by decide +kernel
theorem dX12_resolve_92 : decode cX12_resolve 92 = .ok (.iload_n 3, 1) := by decide +kernel
theorem dX12_resolve_93 : decode cX12_resolve 93 = .ok (.iconst 2, 1) := by decide +kernel
theorem dX12_resolve_94 : decode cX12_resolve 94 = .ok (.aload_n 0, 1) := by decide +kernel
theorem dX12_resolve_95 : decode cX12_resolve 95 = .ok (.getfield 35, 3) := by decide +kernel
theorem dX12_resolve_98 : decode cX12_resolve 98 = .ok (.iload 4, 2) := by decide +kernel
theorem dX12_resolve_100 : decode cX12_resolve 100 = .ok (.iaload, 1) := by decide +kernel
theorem dX12_resolve_101 : decode cX12_resolve 101 = .ok (.invokevirtual 158, 3) := by decide +kernel
theorem dX12_resolve_104 : decode cX12_resolve 104 = .ok (.goto 85, 3) := by decide +kernel
theorem dX12_resolve_107 : decode cX12_resolve 107 = .ok (.aload_n 0, 1) := by decide +kernel
theorem dX12_resolve_108 : decode cX12_resolve 108 = .ok (.getfield 7, 3) := by decide +kernel
theorem dX12_resolve_111 : decode cX12_resolve 111 = .ok (.iload 4, 2) := by decide +kernel
theorem dX12_resolve_113 : decode cX12_resolve 113 = .ok (.iaload, 1) := by decide +kernel
theorem dX12_resolve_114 : decode cX12_resolve 114 = .ok (.ifCond .eq 24, 3) := by decide +kernel
theorem dX12_resolve_117 : decode cX12_resolve 117 = .ok (.aload_n 0, 1) := by decide +kernel
theorem dX12_resolve_118 : decode cX12_resolve 118 = .ok (.getfield 7, 3) := by decide +kernel
theorem dX12_resolve_121 : decode cX12_resolve 121 = .ok (.iload 4, 2) := by decide +kernel
theorem dX12_resolve_123 : decode cX12_resolve 123 = .ok (.iaload, 1) := by decide +kernel
theorem dX12_resolve_124 : decode cX12_resolve 124 = .ok (.iconst 1, 1) := by decide +kernel
theorem dX12_resolve_125 : decode cX12_resolve 125 = .ok (.if_icmp .ne 57, 3) := by decide +kernel
theorem dX12_resolve_128 : decode cX12_resolve 128 = .ok (.aload_n 0, 1) := by decide +kernel
theorem dX12_resolve_129 : decode cX12_resolve 129 = .ok (.getfield 29, 3) := by decide +kernel
theorem dX12_resolve_132 : decode cX12_resolve 132 = .ok (.iload 4, 2) := by decide +kernel
theorem dX12_resolve_134 : decode cX12_resolve 134 = .ok (.iaload, 1) := by decide +kernel
theorem dX12_resolve_135 : decode cX12_resolve 135 = .ok (.ifCond .ne 47, 3) := by decide +kernel
theorem dX12_resolve_138 : decode cX12_resolve 138 = .ok (.aload_n 0, 1) := by decide +kernel
theorem dX12_resolve_139 : decode cX12_resolve 139 = .ok (.getfield 83, 3) := by decide +kernel
theorem dX12_resolve_142 : decode cX12_resolve 142 = .ok (.aload_n 0, 1) := by decide +kernel
theorem dX12_resolve_143 : decode cX12_resolve 143 = .ok (.getfield 162, 3) := by decide +kernel
theorem dX12_resolve_146 : decode cX12_resolve 146 = .ok (.iconst 1, 1) := by decide +kernel
theorem dX12_resolve_147 : decode cX12_resolve 147 = .ok (.bastore, 1) := by decide +kernel
theorem dX12_resolve_148 : decode cX12_resolve 148 = .ok (.aload_n 0, 1) := by decide +kernel
theorem dX12_resolve_149 : decode cX12_resolve 149 = .ok (.getfield 71, 3) := by decide +kernel
theorem dX12_resolve_152 : decode cX12_resolve 152 = .ok (.aload_n 0, 1) := by decide +kernel
theorem dX12_resolve_153 : decode cX12_resolve 153 = .ok (.getfield 162, 3) := by decide +kernel
theorem dX12_resolve_156 : decode cX12_resolve 156 = .ok (.iload 4, 2) := by decide +kernel
theorem dX12_resolve_158 : decode cX12_resolve 158 = .ok (.iastore, 1) := by decide +kernel
theorem dX12_resolve_159 : decode cX12_resolve 159 = .ok (.aload_n 0, 1) := by decide +kernel
theorem dX12_resolve_160 : decode cX12_resolve 160 = .ok (.getfield 74, 3) := by decide +kernel
theorem dX12_resolve_163 : decode cX12_resolve 163 = .ok (.aload_n 0, 1) := by decide +kernel
theorem dX12_resolve_164 : decode cX12_resolve 164 = .ok (.getfield 162, 3) := by decide +kernel
theorem dX12_resolve_167 : decode cX12_resolve 167 = .ok (.iload_n 3, 1) := by decide +kernel
theorem dX12_resolve_168 : decode cX12_resolve 168 = .ok (.iastore, 1) := by decide +kernel
theorem dX12_resolve_169 : decode cX12_resolve 169 = .ok (.aload_n 0, 1) := by decide +kernel
theorem dX12_resolve_170 : decode cX12_resolve 170 = .ok (.dup, 1) := by decide +kernel
theorem dX12_resolve_171 : decode cX12_resolve 171 = .ok (.getfield 162, 3) := by decide +kernel
theorem dX12_resolve_174 : decode cX12_resolve 174 = .ok (.iconst 1, 1) := by decide +kernel
theorem dX12_resolve_175 : decode cX12_resolve 175 = .ok (.iadd, 1) := by decide +kernel
theorem dX12_resolve_176 : decode cX12_resolve 176 = .ok (.putfield 162, 3) := by decide +kernel
theorem dX12_resolve_179 : decode cX12_resolve 179 = .ok (.goto 10, 3) := by decide +kernel
theorem dX12_resolve_182 : decode cX12_resolve 182 = .ok (.aload_n 0, 1) := by decide +kernel
theorem dX12_resolve_183 : decode cX12_resolve 183 = .ok (.iload_n 3, 1) := by decide +kernel
theorem dX12_resolve_184 : decode cX12_resolve 184 = .ok (.iconst 1, 1) := by decide +kernel
theorem dX12_resolve_185 : decode cX12_resolve 185 = .ok (.iload_n 2, 1) := by decide +kernel
theorem dX12_resolve_186 : decode cX12_resolve 186 = .ok (.invokevirtual 158, 3) := by decide +kernel
theorem dX12_resolve_189 : decode cX12_resolve 189 = .ok (.return_, 1) := by decide +kernel
theorem dX12_reject_0 : decode cX12_reject 0 = .ok (.aload_n 0, 1) := by decide +kernel
theorem dX12_reject_1 : decode cX12_reject 1 = .ok (.getfield 47, 3) := by decide +kernel
theorem dX12_reject_4 : decode cX12_reject 4 = .ok (.iload_n 1, 1) := by decide +kernel
theorem dX12_reject_5 : decode cX12_reject 5 = .ok (.baload, 1) := by decide +kernel
theorem dX12_reject_6 : decode cX12_reject 6 = .ok (.ifCond .eq 4, 3) := by decide +kernel
theorem dX12_reject_9 : decode cX12_reject 9 = .ok (.return_, 1) := by decide +kernel
theorem dX12_reject_10 : decode cX12_reject 10 = .ok (.aload_n 0, 1) := by decide +kernel
theorem dX12_reject_11 : decode cX12_reject 11 = .ok (.getfield 47, 3) := by decide +kernel
theorem dX12_reject_14 : decode cX12_reject 14 = .ok (.iload_n 1, 1) := by decide +kernel
theorem dX12_reject_15 : decode cX12_reject 15 = .ok (.iconst 1, 1) := by decide +kernel
theorem dX12_reject_16 : decode cX12_reject 16 = .ok (.bastore, 1) := by decide +kernel
theorem dX12_reject_17 : decode cX12_reject 17 = .ok (.aload_n 0, 1) := by decide +kernel
theorem dX12_reject_18 : decode cX12_reject 18 = .ok (.aload_n 0, 1) := by decide +kernel
theorem dX12_reject_19 : decode cX12_reject 19 = .ok (.getfield 44, 3) := by decide +kernel
theorem dX12_reject_22 : decode cX12_reject 22 = .ok (.iload_n 1, 1) := by decide +kernel
theorem dX12_reject_23 : decode cX12_reject 23 = .ok (.iaload, 1) := by decide +kernel
theorem dX12_reject_24 : decode cX12_reject 24 = .ok (.iconst 2, 1) := by decide +kernel
theorem dX12_reject_25 : decode cX12_reject 25 = .ok (.iload_n 2, 1) := by decide +kernel
theorem dX12_reject_26 : decode cX12_reject 26 = .ok (.invokevirtual 158, 3) := by decide +kernel
theorem dX12_reject_29 : decode cX12_reject 29 = .ok (.return_, 1) := by decide +kernel
theorem dX12_settle_0 : decode cX12_settle 0 = .ok (.aload_n 0, 1) := by decide +kernel
theorem dX12_settle_1 : decode cX12_settle 1 = .ok (.getfield 13, 3) := by decide +kernel
theorem dX12_settle_4 : decode cX12_settle 4 = .ok (.iload_n 1, 1) := by decide +kernel
theorem dX12_settle_5 : decode cX12_settle 5 = .ok (.iload_n 2, 1) := by decide +kernel
theorem dX12_settle_6 : decode cX12_settle 6 = .ok (.iastore, 1) := by decide +kernel
theorem dX12_settle_7 : decode cX12_settle 7 = .ok (.aload_n 0, 1) := by decide +kernel
theorem dX12_settle_8 : decode cX12_settle 8 = .ok (.getfield 16, 3) := by decide +kernel
theorem dX12_settle_11 : decode cX12_settle 11 = .ok (.iload_n 1, 1) := by decide +kernel
theorem dX12_settle_12 : decode cX12_settle 12 = .ok (.iload_n 3, 1) := by decide +kernel
theorem dX12_settle_13 : decode cX12_settle 13 = .ok (.iastore, 1) := by decide +kernel
theorem dX12_settle_14 : decode cX12_settle 14 = .ok (.aload_n 0, 1) := by decide +kernel
theorem dX12_settle_15 : decode cX12_settle 15 = .ok (.getfield 19, 3) := by decide +kernel
theorem dX12_settle_18 : decode cX12_settle 18 = .ok (.iload_n 1, 1) := by decide +kernel
theorem dX12_settle_19 : decode cX12_settle 19 = .ok (.iaload, 1) := by decide +kernel
theorem dX12_settle_20 : decode cX12_settle 20 = .ok (.istore 4, 2) := by decide +kernel
theorem dX12_settle_22 : decode cX12_settle 22 = .ok (.iload 4, 2) := by decide +kernel
theorem dX12_settle_24 : decode cX12_settle 24 = .ok (.ifCond .lt 23, 3) := by decide +kernel
theorem dX12_settle_27 : decode cX12_settle 27 = .ok (.aload_n 0, 1) := by decide +kernel
theorem dX12_settle_28 : decode cX12_settle 28 = .ok (.iload 4, 2) := by decide +kernel
theorem dX12_settle_30 : decode cX12_settle 30 = .ok (.iload_n 2, 1) := by decide +kernel
theorem dX12_settle_31 : decode cX12_settle 31 = .ok (.iload_n 3, 1) := by decide +kernel
theorem dX12_settle_32 : decode cX12_settle 32 = .ok (.invokevirtual 165, 3) := by decide +kernel
theorem dX12_settle_35 : decode cX12_settle 35 = .ok (.aload_n 0, 1) := by decide +kernel
theorem dX12_settle_36 : decode cX12_settle 36 = .ok (.getfield 50, 3) := by decide +kernel
theorem dX12_settle_39 : decode cX12_settle 39 = .ok (.iload 4, 2) := by decide +kernel
theorem dX12_settle_41 : decode cX12_settle 41 = .ok (.iaload, 1) := by decide +kernel
theorem dX12_settle_42 : decode cX12_settle 42 = .ok (.istore 4, 2) := by decide +kernel
theorem dX12_settle_44 : decode cX12_settle 44 = .ok (.goto (-22), 3) := by decide +kernel
theorem dX12_settle_47 : decode cX12_settle 47 = .ok (.aload_n 0, 1) := by decide +kernel
theorem dX12_settle_48 : decode cX12_settle 48 = .ok (.getfield 19, 3) := by decide +kernel
theorem dX12_settle_51 : decode cX12_settle 51 = .ok (.iload_n 1, 1) := by decide +kernel
theorem dX12_settle_52 : decode cX12_settle 52 = .ok (.iconst (-1), 1) := by decide +kernel
theorem dX12_settle_53 : decode cX12_settle 53 = .ok (.iastore, 1) := by decide +kernel
theorem dX12_settle_54 : decode cX12_settle 54 = .ok (.return_, 1) := by decide +kernel
theorem dX12_react_0 : decode cX12_react 0 = .ok (.aload_n 0, 1) := by decide +kernel
theorem dX12_react_1 : decode cX12_react 1 = .ok (.getfield 83, 3) := by decide +kernel
theorem dX12_react_4 : decode cX12_react 4 = .ok (.aload_n 0, 1) := by decide +kernel
theorem dX12_react_5 : decode cX12_react 5 = .ok (.getfield 162, 3) := by decide +kernel
theorem dX12_react_8 : decode cX12_react 8 = .ok (.iconst 0, 1) := by decide +kernel
theorem dX12_react_9 : decode cX12_react 9 = .ok (.bastore, 1) := by decide +kernel
theorem dX12_react_10 : decode cX12_react 10 = .ok (.aload_n 0, 1) := by decide +kernel
theorem dX12_react_11 : decode cX12_react 11 = .ok (.getfield 80, 3) := by decide +kernel
theorem dX12_react_14 : decode cX12_react 14 = .ok (.aload_n 0, 1) := by decide +kernel
theorem dX12_react_15 : decode cX12_react 15 = .ok (.getfield 162, 3) := by decide +kernel
theorem dX12_react_18 : decode cX12_react 18 = .ok (.iload_n 2, 1) := by decide +kernel
theorem dX12_react_19 : decode cX12_react 19 = .ok (.iconst 2, 1) := by decide +kernel
theorem dX12_react_20 : decode cX12_react 20 = .ok (.if_icmp .ne 7, 3) := by decide +kernel
theorem dX12_react_23 : decode cX12_react 23 = .ok (.iconst 1, 1) := by decide +kernel
theorem dX12_react_24 : decode cX12_react 24 = .ok (.goto 4, 3) := by decide +kernel
theorem dX12_react_27 : decode cX12_react 27 = .ok (.iconst 0, 1) := by decide +kernel
theorem dX12_react_28 : decode cX12_react 28 = .ok (.bastore, 1) := by decide +kernel
theorem dX12_react_29 : decode cX12_react 29 = .ok (.aload_n 0, 1) := by decide +kernel
theorem dX12_react_30 : decode cX12_react 30 = .ok (.getfield 68, 3) := by decide +kernel
theorem dX12_react_33 : decode cX12_react 33 = .ok (.aload_n 0, 1) := by decide +kernel
theorem dX12_react_34 : decode cX12_react 34 = .ok (.getfield 162, 3) := by decide +kernel
theorem dX12_react_37 : decode cX12_react 37 = .ok (.iload_n 2, 1) := by decide +kernel
theorem dX12_react_38 : decode cX12_react 38 = .ok (.iconst 2, 1) := by decide +kernel
theorem dX12_react_39 : decode cX12_react 39 = .ok (.if_icmp .ne 12, 3) := by decide +kernel
theorem dX12_react_42 : decode cX12_react 42 = .ok (.aload_n 0, 1) := by decide +kernel
theorem dX12_react_43 : decode cX12_react 43 = .ok (.getfield 62, 3) := by decide +kernel
theorem dX12_react_46 : decode cX12_react 46 = .ok (.iload_n 1, 1) := by decide +kernel
theorem dX12_react_47 : decode cX12_react 47 = .ok (.iaload, 1) := by decide +kernel
theorem dX12_react_48 : decode cX12_react 48 = .ok (.goto 9, 3) := by decide +kernel
theorem dX12_react_51 : decode cX12_react 51 = .ok (.aload_n 0, 1) := by decide +kernel
theorem dX12_react_52 : decode cX12_react 52 = .ok (.getfield 56, 3) := by decide +kernel
theorem dX12_react_55 : decode cX12_react 55 = .ok (.iload_n 1, 1) := by decide +kernel
theorem dX12_react_56 : decode cX12_react 56 = .ok (.iaload, 1) := by decide +kernel
theorem dX12_react_57 : decode cX12_react 57 = .ok (.iastore, 1) := by decide +kernel
theorem dX12_react_58 : decode cX12_react 58 = .ok (.aload_n 0, 1) := by decide +kernel
theorem dX12_react_59 : decode cX12_react 59 = .ok (.getfield 71, 3) := by decide +kernel
theorem dX12_react_62 : decode cX12_react 62 = .ok (.aload_n 0, 1) := by decide +kernel
theorem dX12_react_63 : decode cX12_react 63 = .ok (.getfield 162, 3) := by decide +kernel
theorem dX12_react_66 : decode cX12_react 66 = .ok (.iload_n 2, 1) := by decide +kernel
theorem dX12_react_67 : decode cX12_react 67 = .ok (.iconst 2, 1) := by decide +kernel
theorem dX12_react_68 : decode cX12_react 68 = .ok (.if_icmp .ne 12, 3) := by decide +kernel
theorem dX12_react_71 : decode cX12_react 71 = .ok (.aload_n 0, 1) := by decide +kernel
theorem dX12_react_72 : decode cX12_react 72 = .ok (.getfield 65, 3) := by decide +kernel
theorem dX12_react_75 : decode cX12_react 75 = .ok (.iload_n 1, 1) := by decide +kernel
theorem dX12_react_76 : decode cX12_react 76 = .ok (.iaload, 1) := by decide +kernel
theorem dX12_react_77 : decode cX12_react 77 = .ok (.goto 9, 3) := by decide +kernel
theorem dX12_react_80 : decode cX12_react 80 = .ok (.aload_n 0, 1) := by decide +kernel
theorem dX12_react_81 : decode cX12_react 81 = .ok (.getfield 59, 3) := by decide +kernel
theorem dX12_react_84 : decode cX12_react 84 = .ok (.iload_n 1, 1) := by decide +kernel
theorem dX12_react_85 : decode cX12_react 85 = .ok (.iaload, 1) := by decide +kernel
theorem dX12_react_86 : decode cX12_react 86 = .ok (.iastore, 1) := by decide +kernel
theorem dX12_react_87 : decode cX12_react 87 = .ok (.aload_n 0, 1) := by decide +kernel
theorem dX12_react_88 : decode cX12_react 88 = .ok (.getfield 74, 3) := by decide +kernel
theorem dX12_react_91 : decode cX12_react 91 = .ok (.aload_n 0, 1) := by decide +kernel
theorem dX12_react_92 : decode cX12_react 92 = .ok (.getfield 162, 3) := by decide +kernel
theorem dX12_react_95 : decode cX12_react 95 = .ok (.aload_n 0, 1) := by decide +kernel
theorem dX12_react_96 : decode cX12_react 96 = .ok (.getfield 53, 3) := by decide +kernel
theorem dX12_react_99 : decode cX12_react 99 = .ok (.iload_n 1, 1) := by decide +kernel
theorem dX12_react_100 : decode cX12_react 100 = .ok (.iaload, 1) := by decide +kernel
theorem dX12_react_101 : decode cX12_react 101 = .ok (.iastore, 1) := by decide +kernel
theorem dX12_react_102 : decode cX12_react 102 = .ok (.aload_n 0, 1) := by decide +kernel
theorem dX12_react_103 : decode cX12_react 103 = .ok (.getfield 77, 3) := by decide +kernel
theorem dX12_react_106 : decode cX12_react 106 = .ok (.aload_n 0, 1) := by decide +kernel
theorem dX12_react_107 : decode cX12_react 107 = .ok (.getfield 162, 3) := by decide +kernel
theorem dX12_react_110 : decode cX12_react 110 = .ok (.iload_n 3, 1) := by decide +kernel
theorem dX12_react_111 : decode cX12_react 111 = .ok (.iastore, 1) := by decide +kernel
theorem dX12_react_112 : decode cX12_react 112 = .ok (.aload_n 0, 1) := by decide +kernel
theorem dX12_react_113 : decode cX12_react 113 = .ok (.dup, 1) := by decide +kernel
theorem dX12_react_114 : decode cX12_react 114 = .ok (.getfield 162, 3) := by decide +kernel
theorem dX12_react_117 : decode cX12_react 117 = .ok (.iconst 1, 1) := by decide +kernel
theorem dX12_react_118 : decode cX12_react 118 = .ok (.iadd, 1) := by decide +kernel
theorem dX12_react_119 : decode cX12_react 119 = .ok (.putfield 162, 3) := by decide +kernel
theorem dX12_react_122 : decode cX12_react 122 = .ok (.return_, 1) := by decide +kernel
theorem dX12_performThen_0 : decode cX12_performThen 0 = .ok (.aload_n 0, 1) := by decide +kernel
theorem dX12_performThen_1 : decode cX12_performThen 1 = .ok (.getfield 168, 3) := by decide +kernel
theorem dX12_performThen_4 : decode cX12_performThen 4 = .ok (.istore 7, 2) := by decide +kernel
theorem dX12_performThen_6 : decode cX12_performThen 6 = .ok (.aload_n 0, 1) := by decide +kernel
theorem dX12_performThen_7 : decode cX12_performThen 7 = .ok (.dup, 1) := by decide +kernel
theorem dX12_performThen_8 : decode cX12_performThen 8 = .ok (.getfield 168, 3) := by decide +kernel
theorem dX12_performThen_11 : decode cX12_performThen 11 = .ok (.iconst 1, 1) := by decide +kernel
theorem dX12_performThen_12 : decode cX12_performThen 12 = .ok (.iadd, 1) := by decide +kernel
theorem dX12_performThen_13 : decode cX12_performThen 13 = .ok (.putfield 168, 3) := by decide +kernel
theorem dX12_performThen_16 : decode cX12_performThen 16 = .ok (.aload_n 0, 1) := by decide +kernel
theorem dX12_performThen_17 : decode cX12_performThen 17 = .ok (.getfield 50, 3) := by decide +kernel
theorem dX12_performThen_20 : decode cX12_performThen 20 = .ok (.iload 7, 2) := by decide +kernel
theorem dX12_performThen_22 : decode cX12_performThen 22 = .ok (.iconst (-1), 1) := by decide +kernel
theorem dX12_performThen_23 : decode cX12_performThen 23 = .ok (.iastore, 1) := by decide +kernel
theorem dX12_performThen_24 : decode cX12_performThen 24 = .ok (.aload_n 0, 1) := by decide +kernel
theorem dX12_performThen_25 : decode cX12_performThen 25 = .ok (.getfield 53, 3) := by decide +kernel
theorem dX12_performThen_28 : decode cX12_performThen 28 = .ok (.iload 7, 2) := by decide +kernel
theorem dX12_performThen_30 : decode cX12_performThen 30 = .ok (.iload 6, 2) := by decide +kernel
theorem dX12_performThen_32 : decode cX12_performThen 32 = .ok (.iastore, 1) := by decide +kernel
theorem dX12_performThen_33 : decode cX12_performThen 33 = .ok (.aload_n 0, 1) := by decide +kernel
theorem dX12_performThen_34 : decode cX12_performThen 34 = .ok (.getfield 56, 3) := by decide +kernel
theorem dX12_performThen_37 : decode cX12_performThen 37 = .ok (.iload 7, 2) := by decide +kernel
theorem dX12_performThen_39 : decode cX12_performThen 39 = .ok (.iload_n 2, 1) := by decide +kernel
theorem dX12_performThen_40 : decode cX12_performThen 40 = .ok (.iastore, 1) := by decide +kernel
theorem dX12_performThen_41 : decode cX12_performThen 41 = .ok (.aload_n 0, 1) := by decide +kernel
theorem dX12_performThen_42 : decode cX12_performThen 42 = .ok (.getfield 59, 3) := by decide +kernel
theorem dX12_performThen_45 : decode cX12_performThen 45 = .ok (.iload 7, 2) := by decide +kernel
theorem dX12_performThen_47 : decode cX12_performThen 47 = .ok (.iload_n 3, 1) := by decide +kernel
theorem dX12_performThen_48 : decode cX12_performThen 48 = .ok (.iastore, 1) := by decide +kernel
theorem dX12_performThen_49 : decode cX12_performThen 49 = .ok (.aload_n 0, 1) := by decide +kernel
theorem dX12_performThen_50 : decode cX12_performThen 50 = .ok (.getfield 62, 3) := by decide +kernel
theorem dX12_performThen_53 : decode cX12_performThen 53 = .ok (.iload 7, 2) := by decide +kernel
theorem dX12_performThen_55 : decode cX12_performThen 55 = .ok (.iload 4, 2) := by decide +kernel
theorem dX12_performThen_57 : decode cX12_performThen 57 = .ok (.iastore, 1) := by decide +kernel
theorem dX12_performThen_58 : decode cX12_performThen 58 = .ok (.aload_n 0, 1) := by decide +kernel
theorem dX12_performThen_59 : decode cX12_performThen 59 = .ok (.getfield 65, 3) := by decide +kernel
theorem dX12_performThen_62 : decode cX12_performThen 62 = .ok (.iload 7, 2) := by decide +kernel
theorem dX12_performThen_64 : decode cX12_performThen 64 = .ok (.iload 5, 2) := by decide +kernel
theorem dX12_performThen_66 : decode cX12_performThen 66 = .ok (.iastore, 1) := by decide +kernel
theorem dX12_performThen_67 : decode cX12_performThen 67 = .ok (.aload_n 0, 1) := by decide +kernel
theorem dX12_performThen_68 : decode cX12_performThen 68 = .ok (.getfield 13, 3) := by decide +kernel
theorem dX12_performThen_71 : decode cX12_performThen 71 = .ok (.iload_n 1, 1) := by decide +kernel
theorem dX12_performThen_72 : decode cX12_performThen 72 = .ok (.iaload, 1) := by decide +kernel
theorem dX12_performThen_73 : decode cX12_performThen 73 = .ok (.ifCond .eq 24, 3) := by decide +kernel
theorem dX12_performThen_76 : decode cX12_performThen 76 = .ok (.aload_n 0, 1) := by decide +kernel
theorem dX12_performThen_77 : decode cX12_performThen 77 = .ok (.iload 7, 2) := by decide +kernel
theorem dX12_performThen_79 : decode cX12_performThen 79 = .ok (.aload_n 0, 1) := by decide +kernel
theorem dX12_performThen_80 : decode cX12_performThen 80 = .ok (.getfield 13, 3) := by decide +kernel
theorem dX12_performThen_83 : decode cX12_performThen 83 = .ok (.iload_n 1, 1) := by decide +kernel
theorem dX12_performThen_84 : decode cX12_performThen 84 = .ok (.iaload, 1) := by decide +kernel
theorem dX12_performThen_85 : decode cX12_performThen 85 = .ok (.aload_n 0, 1) := by decide +kernel
theorem dX12_performThen_86 : decode cX12_performThen 86 = .ok (.getfield 16, 3) := by decide +kernel
theorem dX12_performThen_89 : decode cX12_performThen 89 = .ok (.iload_n 1, 1) := by decide +kernel
theorem dX12_performThen_90 : decode cX12_performThen 90 = .ok (.iaload, 1) := by decide +kernel
theorem dX12_performThen_91 : decode cX12_performThen 91 = .ok (.invokevirtual 165, 3) := by decide +kernel
theorem dX12_performThen_94 : decode cX12_performThen 94 = .ok (.goto 62, 3) := by decide +kernel
theorem dX12_performThen_97 : decode cX12_performThen 97 = .ok (.aload_n 0, 1) := by decide +kernel
theorem dX12_performThen_98 : decode cX12_performThen 98 = .ok (.getfield 19, 3) := by decide +kernel
theorem dX12_performThen_101 : decode cX12_performThen 101 = .ok (.iload_n 1, 1) := by decide +kernel
theorem dX12_performThen_102 : decode cX12_performThen 102 = .ok (.iaload, 1) := by decide +kernel
theorem dX12_performThen_103 : decode cX12_performThen 103 = .ok (.ifCond .ge 14, 3) := by decide +kernel
theorem dX12_performThen_106 : decode cX12_performThen 106 = .ok (.aload_n 0, 1) := by decide +kernel
theorem dX12_performThen_107 : decode cX12_performThen 107 = .ok (.getfield 19, 3) := by decide +kernel
theorem dX12_performThen_110 : decode cX12_performThen 110 = .ok (.iload_n 1, 1) := by decide +kernel
theorem dX12_performThen_111 : decode cX12_performThen 111 = .ok (.iload 7, 2) := by decide +kernel
theorem dX12_performThen_113 : decode cX12_performThen 113 = .ok (.iastore, 1) := by decide +kernel
theorem dX12_performThen_114 : decode cX12_performThen 114 = .ok (.goto 42, 3) := by decide +kernel
theorem dX12_performThen_117 : decode cX12_performThen 117 = .ok (.aload_n 0, 1) := by decide +kernel
theorem dX12_performThen_118 : decode cX12_performThen 118 = .ok (.getfield 19, 3) := by decide +kernel
theorem dX12_performThen_121 : decode cX12_performThen 121 = .ok (.iload_n 1, 1) := by decide +kernel
theorem dX12_performThen_122 : decode cX12_performThen 122 = .ok (.iaload, 1) := by decide +kernel
theorem dX12_performThen_123 : decode cX12_performThen 123 = .ok (.istore 8, 2) := by decide +kernel
theorem dX12_performThen_125 : decode cX12_performThen 125 = .ok (.aload_n 0, 1) := by decide +kernel
theorem dX12_performThen_126 : decode cX12_performThen 126 = .ok (.getfield 50, 3) := by decide +kernel
theorem dX12_performThen_129 : decode cX12_performThen 129 = .ok (.iload 8, 2) := by decide +kernel
theorem dX12_performThen_131 : decode cX12_performThen 131 = .ok (.iaload, 1) := by decide +kernel
theorem dX12_performThen_132 : decode cX12_performThen 132 = .ok (.ifCond .lt 15, 3) := by decide +kernel
theorem dX12_performThen_135 : decode cX12_performThen 135 = .ok (.aload_n 0, 1) := by decide +kernel
theorem dX12_performThen_136 : decode cX12_performThen 136 = .ok (.getfield 50, 3) := by decide +kernel
theorem dX12_performThen_139 : decode cX12_performThen 139 = .ok (.iload 8, 2) := by decide +kernel
theorem dX12_performThen_141 : decode cX12_performThen 141 = .ok (.iaload, 1) := by decide +kernel
theorem dX12_performThen_142 : decode cX12_performThen 142 = .ok (.istore 8, 2) := by decide +kernel
theorem dX12_performThen_144 : decode cX12_performThen 144 = .ok (.goto (-19), 3) := by decide +kernel
theorem dX12_performThen_147 : decode cX12_performThen 147 = .ok (.aload_n 0, 1) := by decide +kernel
theorem dX12_performThen_148 : decode cX12_performThen 148 = .ok (.getfield 50, 3) := by decide +kernel
theorem dX12_performThen_151 : decode cX12_performThen 151 = .ok (.iload 8, 2) := by decide +kernel
theorem dX12_performThen_153 : decode cX12_performThen 153 = .ok (.iload 7, 2) := by decide +kernel
theorem dX12_performThen_155 : decode cX12_performThen 155 = .ok (.iastore, 1) := by decide +kernel
theorem dX12_performThen_156 : decode cX12_performThen 156 = .ok (.aload_n 0, 1) := by decide +kernel
theorem dX12_performThen_157 : decode cX12_performThen 157 = .ok (.getfield 25, 3) := by decide +kernel
theorem dX12_performThen_160 : decode cX12_performThen 160 = .ok (.iload_n 1, 1) := by decide +kernel
theorem dX12_performThen_161 : decode cX12_performThen 161 = .ok (.iconst 1, 1) := by decide +kernel
theorem dX12_performThen_162 : decode cX12_performThen 162 = .ok (.bastore, 1) := by decide +kernel
theorem dX12_performThen_163 : decode cX12_performThen 163 = .ok (.return_, 1) := by decide +kernel
theorem dX12_then_0 : decode cX12_then 0 = .ok (.aload_n 0, 1) := by decide +kernel
theorem dX12_then_1 : decode cX12_then 1 = .ok (.invokevirtual 171, 3) := by decide +kernel
theorem dX12_then_4 : decode cX12_then 4 = .ok (.istore 6, 2) := by decide +kernel
theorem dX12_then_6 : decode cX12_then 6 = .ok (.aload_n 0, 1) := by decide +kernel
theorem dX12_then_7 : decode cX12_then 7 = .ok (.iload_n 1, 1) := by decide +kernel
theorem dX12_then_8 : decode cX12_then 8 = .ok (.iload_n 2, 1) := by decide +kernel
theorem dX12_then_9 : decode cX12_then 9 = .ok (.iload_n 3, 1) := by decide +kernel
theorem dX12_then_10 : decode cX12_then 10 = .ok (.iload 4, 2) := by decide +kernel
theorem dX12_then_12 : decode cX12_then 12 = .ok (.iload 5, 2) := by decide +kernel
theorem dX12_then_14 : decode cX12_then 14 = .ok (.iload 6, 2) := by decide +kernel
theorem dX12_then_16 : decode cX12_then 16 = .ok (.invokevirtual 175, 3) := by decide +kernel
theorem dX12_then_19 : decode cX12_then 19 = .ok (.aload_n 0, 1) := by decide +kernel
theorem dX12_then_20 : decode cX12_then 20 = .ok (.getfield 44, 3) := by decide +kernel
theorem dX12_then_23 : decode cX12_then 23 = .ok (.iload 6, 2) := by decide +kernel
theorem dX12_then_25 : decode cX12_then 25 = .ok (.iaload, 1) := by decide +kernel
theorem dX12_then_26 : decode cX12_then 26 = .ok (.ireturn, 1) := by decide +kernel
theorem dX12_promiseOf_0 : decode cX12_promiseOf 0 = .ok (.aload_n 0, 1) := by decide +kernel
theorem dX12_promiseOf_1 : decode cX12_promiseOf 1 = .ok (.iload_n 1, 1) := by decide +kernel
theorem dX12_promiseOf_2 : decode cX12_promiseOf 2 = .ok (.iconst 0, 1) := by decide +kernel
theorem dX12_promiseOf_3 : decode cX12_promiseOf 3 = .ok (.invokevirtual 179, 3) := by decide +kernel
theorem dX12_promiseOf_6 : decode cX12_promiseOf 6 = .ok (.ifCond .eq 8, 3) := by decide +kernel
theorem dX12_promiseOf_9 : decode cX12_promiseOf 9 = .ok (.bipush (-2), 2) := by decide +kernel
theorem dX12_promiseOf_11 : decode cX12_promiseOf 11 = .ok (.iload_n 1, 1) := by decide +kernel
theorem dX12_promiseOf_12 : decode cX12_promiseOf 12 = .ok (.isub, 1) := by decide +kernel
theorem dX12_promiseOf_13 : decode cX12_promiseOf 13 = .ok (.ireturn, 1) := by decide +kernel
theorem dX12_promiseOf_14 : decode cX12_promiseOf 14 = .ok (.aload_n 0, 1) := by decide +kernel
theorem dX12_promiseOf_15 : decode cX12_promiseOf 15 = .ok (.invokevirtual 171, 3) := by decide +kernel
theorem dX12_promiseOf_18 : decode cX12_promiseOf 18 = .ok (.istore_n 2, 1) := by decide +kernel
theorem dX12_promiseOf_19 : decode cX12_promiseOf 19 = .ok (.aload_n 0, 1) := by decide +kernel
theorem dX12_promiseOf_20 : decode cX12_promiseOf 20 = .ok (.iload_n 2, 1) := by decide +kernel
theorem dX12_promiseOf_21 : decode cX12_promiseOf 21 = .ok (.iload_n 1, 1) := by decide +kernel
theorem dX12_promiseOf_22 : decode cX12_promiseOf 22 = .ok (.invokevirtual 183, 3) := by decide +kernel
theorem dX12_promiseOf_25 : decode cX12_promiseOf 25 = .ok (.aload_n 0, 1) := by decide +kernel
theorem dX12_promiseOf_26 : decode cX12_promiseOf 26 = .ok (.getfield 44, 3) := by decide +kernel
theorem dX12_promiseOf_29 : decode cX12_promiseOf 29 = .ok (.iload_n 2, 1) := by decide +kernel
theorem dX12_promiseOf_30 : decode cX12_promiseOf 30 = .ok (.iaload, 1) := by decide +kernel
theorem dX12_promiseOf_31 : decode cX12_promiseOf 31 = .ok (.ireturn, 1) := by decide +kernel
theorem dX12_note_0 : decode cX12_note 0 = .ok (.aload_n 0, 1) := by decide +kernel
theorem dX12_note_1 : decode cX12_note 1 = .ok (.getfield 92, 3) := by decide +kernel
theorem dX12_note_4 : decode cX12_note 4 = .ok (.aload_n 0, 1) := by decide +kernel
theorem dX12_note_5 : decode cX12_note 5 = .ok (.getfield 187, 3) := by decide +kernel
theorem dX12_note_8 : decode cX12_note 8 = .ok (.iload_n 1, 1) := by decide +kernel
theorem dX12_note_9 : decode cX12_note 9 = .ok (.iastore, 1) := by decide +kernel
theorem dX12_note_10 : decode cX12_note 10 = .ok (.aload_n 0, 1) := by decide +kernel
theorem dX12_note_11 : decode cX12_note 11 = .ok (.getfield 95, 3) := by decide +kernel
theorem dX12_note_14 : decode cX12_note 14 = .ok (.aload_n 0, 1) := by decide +kernel
theorem dX12_note_15 : decode cX12_note 15 = .ok (.getfield 187, 3) := by decide +kernel
theorem dX12_note_18 : decode cX12_note 18 = .ok (.iload_n 2, 1) := by decide +kernel
theorem dX12_note_19 : decode cX12_note 19 = .ok (.iastore, 1) := by decide +kernel
theorem dX12_note_20 : decode cX12_note 20 = .ok (.aload_n 0, 1) := by decide +kernel
theorem dX12_note_21 : decode cX12_note 21 = .ok (.dup, 1) := by decide +kernel
theorem dX12_note_22 : decode cX12_note 22 = .ok (.getfield 187, 3) := by decide +kernel
theorem dX12_note_25 : decode cX12_note 25 = .ok (.iconst 1, 1) := by decide +kernel
theorem dX12_note_26 : decode cX12_note 26 = .ok (.iadd, 1) := by decide +kernel
theorem dX12_note_27 : decode cX12_note 27 = .ok (.putfield 187, 3) := by decide +kernel
theorem dX12_note_30 : decode cX12_note 30 = .ok (.return_, 1) := by decide +kernel
theorem dX12_handle_0 : decode cX12_handle 0 = .ok (.aload_n 0, 1) := by decide +kernel
theorem dX12_handle_1 : decode cX12_handle 1 = .ok (.iload_n 1, 1) := by decide +kernel
theorem dX12_handle_2 : decode cX12_handle 2 = .ok (.iload_n 2, 1) := by decide +kernel
theorem dX12_handle_3 : decode cX12_handle 3 = .ok (.invokevirtual 190, 3) := by decide +kernel
theorem dX12_handle_6 : decode cX12_handle 6 = .ok (.aload_n 0, 1) := by decide +kernel
theorem dX12_handle_7 : decode cX12_handle 7 = .ok (.aload_n 0, 1) := by decide +kernel
theorem dX12_handle_8 : decode cX12_handle 8 = .ok (.getfield 86, 3) := by decide +kernel
theorem dX12_handle_11 : decode cX12_handle 11 = .ok (.iload_n 1, 1) := by decide +kernel
theorem dX12_handle_12 : decode cX12_handle 12 = .ok (.iaload, 1) := by decide +kernel
theorem dX12_handle_13 : decode cX12_handle 13 = .ok (.iconst 2, 1) := by decide +kernel
theorem dX12_handle_14 : decode cX12_handle 14 = .ok (.if_icmp .eq 13, 3) := by decide +kernel
theorem dX12_handle_17 : decode cX12_handle 17 = .ok (.aload_n 0, 1) := by decide +kernel
theorem dX12_handle_18 : decode cX12_handle 18 = .ok (.getfield 86, 3) := by decide +kernel
theorem dX12_handle_21 : decode cX12_handle 21 = .ok (.iload_n 1, 1) := by decide +kernel
theorem dX12_handle_22 : decode cX12_handle 22 = .ok (.iaload, 1) := by decide +kernel
theorem dX12_handle_23 : decode cX12_handle 23 = .ok (.iconst 3, 1) := by decide +kernel
theorem dX12_handle_24 : decode cX12_handle 24 = .ok (.if_icmp .ne 7, 3) := by decide +kernel
theorem dX12_handle_27 : decode cX12_handle 27 = .ok (.iconst 1, 1) := by decide +kernel
theorem dX12_handle_28 : decode cX12_handle 28 = .ok (.goto 4, 3) := by decide +kernel
theorem dX12_handle_31 : decode cX12_handle 31 = .ok (.iconst 0, 1) := by decide +kernel
theorem dX12_handle_32 : decode cX12_handle 32 = .ok (.putfield 193, 3) := by decide +kernel
theorem dX12_handle_35 : decode cX12_handle 35 = .ok (.aload_n 0, 1) := by decide +kernel
theorem dX12_handle_36 : decode cX12_handle 36 = .ok (.getfield 86, 3) := by decide +kernel
theorem dX12_handle_39 : decode cX12_handle 39 = .ok (.iload_n 1, 1) := by decide +kernel
theorem dX12_handle_40 : decode cX12_handle 40 = .ok (.iaload, 1) := by decide +kernel
theorem dX12_handle_41 : decode cX12_handle 41 = .ok (.tableswitch 40 0 3 #[31, 38, 31, 38], 31) := by decide +kernel
theorem dX12_handle_72 : decode cX12_handle 72 = .ok (.aload_n 0, 1) := by decide +kernel
theorem dX12_handle_73 : decode cX12_handle 73 = .ok (.getfield 89, 3) := by decide +kernel
theorem dX12_handle_76 : decode cX12_handle 76 = .ok (.iload_n 1, 1) := by decide +kernel
theorem dX12_handle_77 : decode cX12_handle 77 = .ok (.iaload, 1) := by decide +kernel
theorem dX12_handle_78 : decode cX12_handle 78 = .ok (.ireturn, 1) := by decide +kernel
theorem dX12_handle_79 : decode cX12_handle 79 = .ok (.iload_n 2, 1) := by decide +kernel
theorem dX12_handle_80 : decode cX12_handle 80 = .ok (.ireturn, 1) := by decide +kernel
theorem dX12_handle_81 : decode cX12_handle 81 = .ok (.aload_n 0, 1) := by decide +kernel
theorem dX12_handle_82 : decode cX12_handle 82 = .ok (.getfield 22, 3) := by decide +kernel
theorem dX12_handle_85 : decode cX12_handle 85 = .ok (.bipush (-2), 2) := by decide +kernel
theorem dX12_handle_87 : decode cX12_handle 87 = .ok (.aload_n 0, 1) := by decide +kernel
theorem dX12_handle_88 : decode cX12_handle 88 = .ok (.getfield 89, 3) := by decide +kernel
theorem dX12_handle_91 : decode cX12_handle 91 = .ok (.iload_n 1, 1) := by decide +kernel
theorem dX12_handle_92 : decode cX12_handle 92 = .ok (.iaload, 1) := by decide +kernel
theorem dX12_handle_93 : decode cX12_handle 93 = .ok (.isub, 1) := by decide +kernel
theorem dX12_handle_94 : decode cX12_handle 94 = .ok (.iaload, 1) := by decide +kernel
theorem dX12_handle_95 : decode cX12_handle 95 = .ok (.istore_n 3, 1) := by decide +kernel
theorem dX12_handle_96 : decode cX12_handle 96 = .ok (.aload_n 0, 1) := by decide +kernel
theorem dX12_handle_97 : decode cX12_handle 97 = .ok (.getfield 86, 3) := by decide +kernel
theorem dX12_handle_100 : decode cX12_handle 100 = .ok (.iload_n 1, 1) := by decide +kernel
theorem dX12_handle_101 : decode cX12_handle 101 = .ok (.iaload, 1) := by decide +kernel
theorem dX12_handle_102 : decode cX12_handle 102 = .ok (.iconst 4, 1) := by decide +kernel
theorem dX12_handle_103 : decode cX12_handle 103 = .ok (.if_icmp .ne 12, 3) := by decide +kernel
theorem dX12_handle_106 : decode cX12_handle 106 = .ok (.aload_n 0, 1) := by decide +kernel
theorem dX12_handle_107 : decode cX12_handle 107 = .ok (.iload_n 3, 1) := by decide +kernel
theorem dX12_handle_108 : decode cX12_handle 108 = .ok (.iload_n 2, 1) := by decide +kernel
theorem dX12_handle_109 : decode cX12_handle 109 = .ok (.invokevirtual 183, 3) := by decide +kernel
theorem dX12_handle_112 : decode cX12_handle 112 = .ok (.goto 9, 3) := by decide +kernel
theorem dX12_handle_115 : decode cX12_handle 115 = .ok (.aload_n 0, 1) := by decide +kernel
theorem dX12_handle_116 : decode cX12_handle 116 = .ok (.iload_n 3, 1) := by decide +kernel
theorem dX12_handle_117 : decode cX12_handle 117 = .ok (.iload_n 2, 1) := by decide +kernel
theorem dX12_handle_118 : decode cX12_handle 118 = .ok (.invokevirtual 197, 3) := by decide +kernel
theorem dX12_handle_121 : decode cX12_handle 121 = .ok (.aload_n 0, 1) := by decide +kernel
theorem dX12_handle_122 : decode cX12_handle 122 = .ok (.iconst 0, 1) := by decide +kernel
theorem dX12_handle_123 : decode cX12_handle 123 = .ok (.putfield 193, 3) := by decide +kernel
theorem dX12_handle_126 : decode cX12_handle 126 = .ok (.iconst (-1), 1) := by decide +kernel
theorem dX12_handle_127 : decode cX12_handle 127 = .ok (.ireturn, 1) := by decide +kernel
theorem dX12_call_0 : decode cX12_call 0 = .ok (.aload_n 0, 1) := by decide +kernel
theorem dX12_call_1 : decode cX12_call 1 = .ok (.iconst 0, 1) := by decide +kernel
theorem dX12_call_2 : decode cX12_call 2 = .ok (.putfield 193, 3) := by decide +kernel
theorem dX12_call_5 : decode cX12_call 5 = .ok (.iload_n 1, 1) := by decide +kernel
theorem dX12_call_6 : decode cX12_call 6 = .ok (.tableswitch 129 1 12 #[62, 69, 77, 85, 85, 85, 85, 94, 94, 102, 109, 121], 62) := by decide +kernel
theorem dX12_call_68 : decode cX12_call 68 = .ok (.aload_n 0, 1) := by decide +kernel
theorem dX12_call_69 : decode cX12_call 69 = .ok (.iload_n 2, 1) := by decide +kernel
theorem dX12_call_70 : decode cX12_call 70 = .ok (.iload_n 3, 1) := by decide +kernel
theorem dX12_call_71 : decode cX12_call 71 = .ok (.invokevirtual 200, 3) := by decide +kernel
theorem dX12_call_74 : decode cX12_call 74 = .ok (.ireturn, 1) := by decide +kernel
theorem dX12_call_75 : decode cX12_call 75 = .ok (.aload_n 0, 1) := by decide +kernel
theorem dX12_call_76 : decode cX12_call 76 = .ok (.iload_n 2, 1) := by decide +kernel
theorem dX12_call_77 : decode cX12_call 77 = .ok (.iload_n 3, 1) := by decide +kernel
theorem dX12_call_78 : decode cX12_call 78 = .ok (.invokevirtual 183, 3) := by decide +kernel
theorem dX12_call_81 : decode cX12_call 81 = .ok (.iconst (-1), 1) := by decide +kernel
theorem dX12_call_82 : decode cX12_call 82 = .ok (.ireturn, 1) := by decide +kernel
theorem dX12_call_83 : decode cX12_call 83 = .ok (.aload_n 0, 1) := by decide +kernel
theorem dX12_call_84 : decode cX12_call 84 = .ok (.iload_n 2, 1) := by decide +kernel
theorem dX12_call_85 : decode cX12_call 85 = .ok (.iload_n 3, 1) := by decide +kernel
theorem dX12_call_86 : decode cX12_call 86 = .ok (.invokevirtual 197, 3) := by decide +kernel
theorem dX12_call_89 : decode cX12_call 89 = .ok (.iconst (-1), 1) := by decide +kernel
theorem dX12_call_90 : decode cX12_call 90 = .ok (.ireturn, 1) := by decide +kernel
theorem dX12_call_91 : decode cX12_call 91 = .ok (.aload_n 0, 1) := by decide +kernel
theorem dX12_call_92 : decode cX12_call 92 = .ok (.iload_n 1, 1) := by decide +kernel
theorem dX12_call_93 : decode cX12_call 93 = .ok (.iload_n 2, 1) := by decide +kernel
theorem dX12_call_94 : decode cX12_call 94 = .ok (.iload_n 3, 1) := by decide +kernel
theorem dX12_call_95 : decode cX12_call 95 = .ok (.invokevirtual 204, 3) := by decide +kernel
theorem dX12_call_98 : decode cX12_call 98 = .ok (.iconst (-1), 1) := by decide +kernel
theorem dX12_call_99 : decode cX12_call 99 = .ok (.ireturn, 1) := by decide +kernel
theorem dX12_call_100 : decode cX12_call 100 = .ok (.aload_n 0, 1) := by decide +kernel
theorem dX12_call_101 : decode cX12_call 101 = .ok (.iload_n 1, 1) := by decide +kernel
theorem dX12_call_102 : decode cX12_call 102 = .ok (.iload_n 2, 1) := by decide +kernel
theorem dX12_call_103 : decode cX12_call 103 = .ok (.iload_n 3, 1) := by decide +kernel
theorem dX12_call_104 : decode cX12_call 104 = .ok (.invokevirtual 207, 3) := by decide +kernel
theorem dX12_call_107 : decode cX12_call 107 = .ok (.ireturn, 1) := by decide +kernel
theorem dX12_call_108 : decode cX12_call 108 = .ok (.aload_n 0, 1) := by decide +kernel
theorem dX12_call_109 : decode cX12_call 109 = .ok (.getfield 101, 3) := by decide +kernel
theorem dX12_call_112 : decode cX12_call 112 = .ok (.iload_n 2, 1) := by decide +kernel
theorem dX12_call_113 : decode cX12_call 113 = .ok (.iaload, 1) := by decide +kernel
theorem dX12_call_114 : decode cX12_call 114 = .ok (.ireturn, 1) := by decide +kernel
theorem dX12_call_115 : decode cX12_call 115 = .ok (.aload_n 0, 1) := by decide +kernel
theorem dX12_call_116 : decode cX12_call 116 = .ok (.iconst 1, 1) := by decide +kernel
theorem dX12_call_117 : decode cX12_call 117 = .ok (.putfield 193, 3) := by decide +kernel
theorem dX12_call_120 : decode cX12_call 120 = .ok (.aload_n 0, 1) := by decide +kernel
theorem dX12_call_121 : decode cX12_call 121 = .ok (.getfield 101, 3) := by decide +kernel
theorem dX12_call_124 : decode cX12_call 124 = .ok (.iload_n 2, 1) := by decide +kernel
theorem dX12_call_125 : decode cX12_call 125 = .ok (.iaload, 1) := by decide +kernel
theorem dX12_call_126 : decode cX12_call 126 = .ok (.ireturn, 1) := by decide +kernel
theorem dX12_call_127 : decode cX12_call 127 = .ok (.aload_n 0, 1) := by decide +kernel
theorem dX12_call_128 : decode cX12_call 128 = .ok (.iload_n 2, 1) := by decide +kernel
theorem dX12_call_129 : decode cX12_call 129 = .ok (.iload_n 3, 1) := by decide +kernel
theorem dX12_call_130 : decode cX12_call 130 = .ok (.invokevirtual 211, 3) := by decide +kernel
theorem dX12_call_133 : decode cX12_call 133 = .ok (.iconst (-1), 1) := by decide +kernel
theorem dX12_call_134 : decode cX12_call 134 = .ok (.ireturn, 1) := by decide +kernel
theorem dX12_call_135 : decode cX12_call 135 = .ok (.aload_n 0, 1) := by decide +kernel
theorem dX12_call_136 : decode cX12_call 136 = .ok (.aload_n 0, 1) := by decide +kernel
theorem dX12_call_137 : decode cX12_call 137 = .ok (.getfield 119, 3) := by decide +kernel
theorem dX12_call_140 : decode cX12_call 140 = .ok (.iload_n 2, 1) := by decide +kernel
theorem dX12_call_141 : decode cX12_call 141 = .ok (.iaload, 1) := by decide +kernel
theorem dX12_call_142 : decode cX12_call 142 = .ok (.iload_n 3, 1) := by decide +kernel
theorem dX12_call_143 : decode cX12_call 143 = .ok (.invokevirtual 197, 3) := by decide +kernel
theorem dX12_call_146 : decode cX12_call 146 = .ok (.iconst (-1), 1) := by decide +kernel
theorem dX12_call_147 : decode cX12_call 147 = .ok (.ireturn, 1) := by decide +kernel
theorem dX12_last_0 : decode cX12_last 0 = .ok (.aload_n 0, 1) := by decide +kernel
theorem dX12_last_1 : decode cX12_last 1 = .ok (.iload_n 2, 1) := by decide +kernel
theorem dX12_last_2 : decode cX12_last 2 = .ok (.iconst (-1), 1) := by decide +kernel
theorem dX12_last_3 : decode cX12_last 3 = .ok (.invokevirtual 200, 3) := by decide +kernel
theorem dX12_last_6 : decode cX12_last 6 = .ok (.istore 4, 2) := by decide +kernel
theorem dX12_last_8 : decode cX12_last 8 = .ok (.aload_n 0, 1) := by decide +kernel
theorem dX12_last_9 : decode cX12_last 9 = .ok (.getfield 193, 3) := by decide +kernel
theorem dX12_last_12 : decode cX12_last 12 = .ok (.ifCond .eq 6, 3) := by decide +kernel
theorem dX12_last_15 : decode cX12_last 15 = .ok (.iload 4, 2) := by decide +kernel
theorem dX12_last_17 : decode cX12_last 17 = .ok (.ireturn, 1) := by decide +kernel
theorem dX12_last_18 : decode cX12_last 18 = .ok (.aload_n 0, 1) := by decide +kernel
theorem dX12_last_19 : decode cX12_last 19 = .ok (.iload 4, 2) := by decide +kernel
theorem dX12_last_21 : decode cX12_last 21 = .ok (.invokevirtual 214, 3) := by decide +kernel
theorem dX12_last_24 : decode cX12_last 24 = .ok (.istore 5, 2) := by decide +kernel
theorem dX12_last_26 : decode cX12_last 26 = .ok (.aload_n 0, 1) := by decide +kernel
theorem dX12_last_27 : decode cX12_last 27 = .ok (.getfield 217, 3) := by decide +kernel
theorem dX12_last_30 : decode cX12_last 30 = .ok (.istore 6, 2) := by decide +kernel
theorem dX12_last_32 : decode cX12_last 32 = .ok (.aload_n 0, 1) := by decide +kernel
theorem dX12_last_33 : decode cX12_last 33 = .ok (.dup, 1) := by decide +kernel
theorem dX12_last_34 : decode cX12_last 34 = .ok (.getfield 217, 3) := by decide +kernel
theorem dX12_last_37 : decode cX12_last 37 = .ok (.iconst 1, 1) := by decide +kernel
theorem dX12_last_38 : decode cX12_last 38 = .ok (.iadd, 1) := by decide +kernel
theorem dX12_last_39 : decode cX12_last 39 = .ok (.putfield 217, 3) := by decide +kernel
theorem dX12_last_42 : decode cX12_last 42 = .ok (.aload_n 0, 1) := by decide +kernel
theorem dX12_last_43 : decode cX12_last 43 = .ok (.getfield 101, 3) := by decide +kernel
theorem dX12_last_46 : decode cX12_last 46 = .ok (.iload 6, 2) := by decide +kernel
theorem dX12_last_48 : decode cX12_last 48 = .ok (.iload_n 3, 1) := by decide +kernel
theorem dX12_last_49 : decode cX12_last 49 = .ok (.iastore, 1) := by decide +kernel
theorem dX12_last_50 : decode cX12_last 50 = .ok (.aload_n 0, 1) := by decide +kernel
theorem dX12_last_51 : decode cX12_last 51 = .ok (.iload 5, 2) := by decide +kernel
theorem dX12_last_53 : decode cX12_last 53 = .ok (.iload_n 1, 1) := by decide +kernel
theorem dX12_last_54 : decode cX12_last 54 = .ok (.bipush 8, 2) := by decide +kernel
theorem dX12_last_56 : decode cX12_last 56 = .ok (.if_icmp .ne 8, 3) := by decide +kernel
theorem dX12_last_59 : decode cX12_last 59 = .ok (.bipush 10, 2) := by decide +kernel
theorem dX12_last_61 : decode cX12_last 61 = .ok (.goto 5, 3) := by decide +kernel
theorem dX12_last_64 : decode cX12_last 64 = .ok (.bipush 11, 2) := by decide +kernel
theorem dX12_last_66 : decode cX12_last 66 = .ok (.iload 6, 2) := by decide +kernel
theorem dX12_last_68 : decode cX12_last 68 = .ok (.iconst 0, 1) := by decide +kernel
theorem dX12_last_69 : decode cX12_last 69 = .ok (.iconst 0, 1) := by decide +kernel
theorem dX12_last_70 : decode cX12_last 70 = .ok (.invokevirtual 220, 3) := by decide +kernel
theorem dX12_last_73 : decode cX12_last 73 = .ok (.invokestatic 155, 3) := by decide +kernel
theorem dX12_last_76 : decode cX12_last 76 = .ok (.istore 7, 2) := by decide +kernel
theorem dX12_last_78 : decode cX12_last 78 = .ok (.aload_n 0, 1) := by decide +kernel
theorem dX12_last_79 : decode cX12_last 79 = .ok (.iconst 0, 1) := by decide +kernel
theorem dX12_last_80 : decode cX12_last 80 = .ok (.putfield 193, 3) := by decide +kernel
theorem dX12_last_83 : decode cX12_last 83 = .ok (.iload 7, 2) := by decide +kernel
theorem dX12_last_85 : decode cX12_last 85 = .ok (.ireturn, 1) := by decide +kernel
theorem dX12_array_0 : decode cX12_array 0 = .ok (.aload_n 0, 1) := by decide +kernel
theorem dX12_array_1 : decode cX12_array 1 = .ok (.iload_n 2, 1) := by decide +kernel
theorem dX12_array_2 : decode cX12_array 2 = .ok (.invokevirtual 148, 3) := by decide +kernel
theorem dX12_array_5 : decode cX12_array 5 = .ok (.istore_n 3, 1) := by decide +kernel
theorem dX12_array_6 : decode cX12_array 6 = .ok (.aload_n 0, 1) := by decide +kernel
theorem dX12_array_7 : decode cX12_array 7 = .ok (.getfield 29, 3) := by decide +kernel
theorem dX12_array_10 : decode cX12_array 10 = .ok (.iload_n 3, 1) := by decide +kernel
theorem dX12_array_11 : decode cX12_array 11 = .ok (.aload_n 0, 1) := by decide +kernel
theorem dX12_array_12 : decode cX12_array 12 = .ok (.getfield 110, 3) := by decide +kernel
theorem dX12_array_15 : decode cX12_array 15 = .ok (.iload_n 1, 1) := by decide +kernel
theorem dX12_array_16 : decode cX12_array 16 = .ok (.iaload, 1) := by decide +kernel
theorem dX12_array_17 : decode cX12_array 17 = .ok (.iastore, 1) := by decide +kernel
theorem dX12_array_18 : decode cX12_array 18 = .ok (.aload_n 0, 1) := by decide +kernel
theorem dX12_array_19 : decode cX12_array 19 = .ok (.getfield 32, 3) := by decide +kernel
theorem dX12_array_22 : decode cX12_array 22 = .ok (.iload_n 3, 1) := by decide +kernel
theorem dX12_array_23 : decode cX12_array 23 = .ok (.aload_n 0, 1) := by decide +kernel
theorem dX12_array_24 : decode cX12_array 24 = .ok (.getfield 113, 3) := by decide +kernel
theorem dX12_array_27 : decode cX12_array 27 = .ok (.iload_n 1, 1) := by decide +kernel
theorem dX12_array_28 : decode cX12_array 28 = .ok (.iaload, 1) := by decide +kernel
theorem dX12_array_29 : decode cX12_array 29 = .ok (.iastore, 1) := by decide +kernel
theorem dX12_array_30 : decode cX12_array 30 = .ok (.iload_n 3, 1) := by decide +kernel
theorem dX12_array_31 : decode cX12_array 31 = .ok (.invokestatic 155, 3) := by decide +kernel
theorem dX12_array_34 : decode cX12_array 34 = .ok (.ireturn, 1) := by decide +kernel
theorem dX12_element_0 : decode cX12_element 0 = .ok (.aload_n 0, 1) := by decide +kernel
theorem dX12_element_1 : decode cX12_element 1 = .ok (.getfield 107, 3) := by decide +kernel
theorem dX12_element_4 : decode cX12_element 4 = .ok (.iload_n 2, 1) := by decide +kernel
theorem dX12_element_5 : decode cX12_element 5 = .ok (.baload, 1) := by decide +kernel
theorem dX12_element_6 : decode cX12_element 6 = .ok (.ifCond .eq 4, 3) := by decide +kernel
theorem dX12_element_9 : decode cX12_element 9 = .ok (.return_, 1) := by decide +kernel
theorem dX12_element_10 : decode cX12_element 10 = .ok (.aload_n 0, 1) := by decide +kernel
theorem dX12_element_11 : decode cX12_element 11 = .ok (.getfield 107, 3) := by decide +kernel
theorem dX12_element_14 : decode cX12_element 14 = .ok (.iload_n 2, 1) := by decide +kernel
theorem dX12_element_15 : decode cX12_element 15 = .ok (.iconst 1, 1) := by decide +kernel
theorem dX12_element_16 : decode cX12_element 16 = .ok (.bastore, 1) := by decide +kernel
theorem dX12_element_17 : decode cX12_element 17 = .ok (.aload_n 0, 1) := by decide +kernel
theorem dX12_element_18 : decode cX12_element 18 = .ok (.getfield 104, 3) := by decide +kernel
theorem dX12_element_21 : decode cX12_element 21 = .ok (.iload_n 2, 1) := by decide +kernel
theorem dX12_element_22 : decode cX12_element 22 = .ok (.iaload, 1) := by decide +kernel
theorem dX12_element_23 : decode cX12_element 23 = .ok (.istore 4, 2) := by decide +kernel
theorem dX12_element_25 : decode cX12_element 25 = .ok (.aload_n 0, 1) := by decide +kernel
theorem dX12_element_26 : decode cX12_element 26 = .ok (.getfield 101, 3) := by decide +kernel
theorem dX12_element_29 : decode cX12_element 29 = .ok (.iload_n 2, 1) := by decide +kernel
theorem dX12_element_30 : decode cX12_element 30 = .ok (.iload_n 3, 1) := by decide +kernel
theorem dX12_element_31 : decode cX12_element 31 = .ok (.iastore, 1) := by decide +kernel
theorem dX12_element_32 : decode cX12_element 32 = .ok (.iload_n 1, 1) := by decide +kernel
theorem dX12_element_33 : decode cX12_element 33 = .ok (.iconst 5, 1) := by decide +kernel
theorem dX12_element_34 : decode cX12_element 34 = .ok (.if_icmp .eq 9, 3) := by decide +kernel
theorem dX12_element_37 : decode cX12_element 37 = .ok (.iload_n 1, 1) := by decide +kernel
theorem dX12_element_38 : decode cX12_element 38 = .ok (.bipush 6, 2) := by decide +kernel
theorem dX12_element_40 : decode cX12_element 40 = .ok (.if_icmp .ne 46, 3) := by decide +kernel
theorem dX12_element_43 : decode cX12_element 43 = .ok (.aload_n 0, 1) := by decide +kernel
theorem dX12_element_44 : decode cX12_element 44 = .ok (.iconst 5, 1) := by decide +kernel
theorem dX12_element_45 : decode cX12_element 45 = .ok (.invokevirtual 148, 3) := by decide +kernel
theorem dX12_element_48 : decode cX12_element 48 = .ok (.istore 5, 2) := by decide +kernel
theorem dX12_element_50 : decode cX12_element 50 = .ok (.aload_n 0, 1) := by decide +kernel
theorem dX12_element_51 : decode cX12_element 51 = .ok (.getfield 29, 3) := by decide +kernel
theorem dX12_element_54 : decode cX12_element 54 = .ok (.iload 5, 2) := by decide +kernel
theorem dX12_element_56 : decode cX12_element 56 = .ok (.iload_n 1, 1) := by decide +kernel
theorem dX12_element_57 : decode cX12_element 57 = .ok (.iconst 5, 1) := by decide +kernel
theorem dX12_element_58 : decode cX12_element 58 = .ok (.if_icmp .ne 7, 3) := by decide +kernel
theorem dX12_element_61 : decode cX12_element 61 = .ok (.iconst 1, 1) := by decide +kernel
theorem dX12_element_62 : decode cX12_element 62 = .ok (.goto 4, 3) := by decide +kernel
theorem dX12_element_65 : decode cX12_element 65 = .ok (.iconst 0, 1) := by decide +kernel
theorem dX12_element_66 : decode cX12_element 66 = .ok (.iastore, 1) := by decide +kernel
theorem dX12_element_67 : decode cX12_element 67 = .ok (.aload_n 0, 1) := by decide +kernel
theorem dX12_element_68 : decode cX12_element 68 = .ok (.getfield 32, 3) := by decide +kernel
theorem dX12_element_71 : decode cX12_element 71 = .ok (.iload 5, 2) := by decide +kernel
theorem dX12_element_73 : decode cX12_element 73 = .ok (.iload_n 3, 1) := by decide +kernel
theorem dX12_element_74 : decode cX12_element 74 = .ok (.iastore, 1) := by decide +kernel
theorem dX12_element_75 : decode cX12_element 75 = .ok (.aload_n 0, 1) := by decide +kernel
theorem dX12_element_76 : decode cX12_element 76 = .ok (.getfield 101, 3) := by decide +kernel
theorem dX12_element_79 : decode cX12_element 79 = .ok (.iload_n 2, 1) := by decide +kernel
theorem dX12_element_80 : decode cX12_element 80 = .ok (.iload 5, 2) := by decide +kernel
theorem dX12_element_82 : decode cX12_element 82 = .ok (.invokestatic 155, 3) := by decide +kernel
theorem dX12_element_85 : decode cX12_element 85 = .ok (.iastore, 1) := by decide +kernel
theorem dX12_element_86 : decode cX12_element 86 = .ok (.aload_n 0, 1) := by decide +kernel
theorem dX12_element_87 : decode cX12_element 87 = .ok (.getfield 116, 3) := by decide +kernel
theorem dX12_element_90 : decode cX12_element 90 = .ok (.iload 4, 2) := by decide +kernel
theorem dX12_element_92 : decode cX12_element 92 = .ok (.dup2, 1) := by decide +kernel
theorem dX12_element_93 : decode cX12_element 93 = .ok (.iaload, 1) := by decide +kernel
theorem dX12_element_94 : decode cX12_element 94 = .ok (.iconst 1, 1) := by decide +kernel
theorem dX12_element_95 : decode cX12_element 95 = .ok (.isub, 1) := by decide +kernel
theorem dX12_element_96 : decode cX12_element 96 = .ok (.iastore, 1) := by decide +kernel
theorem dX12_element_97 : decode cX12_element 97 = .ok (.aload_n 0, 1) := by decide +kernel
theorem dX12_element_98 : decode cX12_element 98 = .ok (.getfield 116, 3) := by decide +kernel
theorem dX12_element_101 : decode cX12_element 101 = .ok (.iload 4, 2) := by decide +kernel
theorem dX12_element_103 : decode cX12_element 103 = .ok (.iaload, 1) := by decide +kernel
theorem dX12_element_104 : decode cX12_element 104 = .ok (.ifCond .ne 20, 3) := by decide +kernel
theorem dX12_element_107 : decode cX12_element 107 = .ok (.aload_n 0, 1) := by decide +kernel
theorem dX12_element_108 : decode cX12_element 108 = .ok (.iload 4, 2) := by decide +kernel
theorem dX12_element_110 : decode cX12_element 110 = .ok (.iload_n 1, 1) := by decide +kernel
theorem dX12_element_111 : decode cX12_element 111 = .ok (.bipush 7, 2) := by decide +kernel
theorem dX12_element_113 : decode cX12_element 113 = .ok (.if_icmp .ne 7, 3) := by decide +kernel
theorem dX12_element_116 : decode cX12_element 116 = .ok (.iconst 1, 1) := by decide +kernel
theorem dX12_element_117 : decode cX12_element 117 = .ok (.goto 4, 3) := by decide +kernel
theorem dX12_element_120 : decode cX12_element 120 = .ok (.iconst 0, 1) := by decide +kernel
theorem dX12_element_121 : decode cX12_element 121 = .ok (.invokevirtual 224, 3) := by decide +kernel
theorem dX12_element_124 : decode cX12_element 124 = .ok (.return_, 1) := by decide +kernel
theorem dX12_finish_0 : decode cX12_finish 0 = .ok (.iload_n 2, 1) := by decide +kernel
theorem dX12_finish_1 : decode cX12_finish 1 = .ok (.ifCond .eq 31, 3) := by decide +kernel
theorem dX12_finish_4 : decode cX12_finish 4 = .ok (.aload_n 0, 1) := by decide +kernel
theorem dX12_finish_5 : decode cX12_finish 5 = .ok (.iload_n 1, 1) := by decide +kernel
theorem dX12_finish_6 : decode cX12_finish 6 = .ok (.iconst 3, 1) := by decide +kernel
theorem dX12_finish_7 : decode cX12_finish 7 = .ok (.invokevirtual 228, 3) := by decide +kernel
theorem dX12_finish_10 : decode cX12_finish 10 = .ok (.istore_n 3, 1) := by decide +kernel
theorem dX12_finish_11 : decode cX12_finish 11 = .ok (.aload_n 0, 1) := by decide +kernel
theorem dX12_finish_12 : decode cX12_finish 12 = .ok (.iload_n 1, 1) := by decide +kernel
theorem dX12_finish_13 : decode cX12_finish 13 = .ok (.iconst 4, 1) := by decide +kernel
theorem dX12_finish_14 : decode cX12_finish 14 = .ok (.invokevirtual 228, 3) := by decide +kernel
theorem dX12_finish_17 : decode cX12_finish 17 = .ok (.pop, 1) := by decide +kernel
theorem dX12_finish_18 : decode cX12_finish 18 = .ok (.aload_n 0, 1) := by decide +kernel
theorem dX12_finish_19 : decode cX12_finish 19 = .ok (.aload_n 0, 1) := by decide +kernel
theorem dX12_finish_20 : decode cX12_finish 20 = .ok (.getfield 119, 3) := by decide +kernel
theorem dX12_finish_23 : decode cX12_finish 23 = .ok (.iload_n 1, 1) := by decide +kernel
theorem dX12_finish_24 : decode cX12_finish 24 = .ok (.iaload, 1) := by decide +kernel
theorem dX12_finish_25 : decode cX12_finish 25 = .ok (.iload_n 3, 1) := by decide +kernel
theorem dX12_finish_26 : decode cX12_finish 26 = .ok (.invokevirtual 197, 3) := by decide +kernel
theorem dX12_finish_29 : decode cX12_finish 29 = .ok (.goto 19, 3) := by decide +kernel
theorem dX12_finish_32 : decode cX12_finish 32 = .ok (.aload_n 0, 1) := by decide +kernel
theorem dX12_finish_33 : decode cX12_finish 33 = .ok (.aload_n 0, 1) := by decide +kernel
theorem dX12_finish_34 : decode cX12_finish 34 = .ok (.getfield 119, 3) := by decide +kernel
theorem dX12_finish_37 : decode cX12_finish 37 = .ok (.iload_n 1, 1) := by decide +kernel
theorem dX12_finish_38 : decode cX12_finish 38 = .ok (.iaload, 1) := by decide +kernel
theorem dX12_finish_39 : decode cX12_finish 39 = .ok (.aload_n 0, 1) := by decide +kernel
theorem dX12_finish_40 : decode cX12_finish 40 = .ok (.iload_n 1, 1) := by decide +kernel
theorem dX12_finish_41 : decode cX12_finish 41 = .ok (.iconst 4, 1) := by decide +kernel
theorem dX12_finish_42 : decode cX12_finish 42 = .ok (.invokevirtual 228, 3) := by decide +kernel
theorem dX12_finish_45 : decode cX12_finish 45 = .ok (.invokevirtual 183, 3) := by decide +kernel
theorem dX12_finish_48 : decode cX12_finish 48 = .ok (.return_, 1) := by decide +kernel
theorem dX12_job_0 : decode cX12_job 0 = .ok (.aload_n 0, 1) := by decide +kernel
theorem dX12_job_1 : decode cX12_job 1 = .ok (.getfield 231, 3) := by decide +kernel
theorem dX12_job_4 : decode cX12_job 4 = .ok (.istore_n 1, 1) := by decide +kernel
theorem dX12_job_5 : decode cX12_job 5 = .ok (.aload_n 0, 1) := by decide +kernel
theorem dX12_job_6 : decode cX12_job 6 = .ok (.dup, 1) := by decide +kernel
theorem dX12_job_7 : decode cX12_job 7 = .ok (.getfield 231, 3) := by decide +kernel
theorem dX12_job_10 : decode cX12_job 10 = .ok (.iconst 1, 1) := by decide +kernel
theorem dX12_job_11 : decode cX12_job 11 = .ok (.iadd, 1) := by decide +kernel
theorem dX12_job_12 : decode cX12_job 12 = .ok (.putfield 231, 3) := by decide +kernel
theorem dX12_job_15 : decode cX12_job 15 = .ok (.aload_n 0, 1) := by decide +kernel
theorem dX12_job_16 : decode cX12_job 16 = .ok (.getfield 83, 3) := by decide +kernel
theorem dX12_job_19 : decode cX12_job 19 = .ok (.iload_n 1, 1) := by decide +kernel
theorem dX12_job_20 : decode cX12_job 20 = .ok (.baload, 1) := by decide +kernel
theorem dX12_job_21 : decode cX12_job 21 = .ok (.ifCond .eq 20, 3) := by decide +kernel
theorem dX12_job_24 : decode cX12_job 24 = .ok (.aload_n 0, 1) := by decide +kernel
theorem dX12_job_25 : decode cX12_job 25 = .ok (.aload_n 0, 1) := by decide +kernel
theorem dX12_job_26 : decode cX12_job 26 = .ok (.getfield 71, 3) := by decide +kernel
theorem dX12_job_29 : decode cX12_job 29 = .ok (.iload_n 1, 1) := by decide +kernel
theorem dX12_job_30 : decode cX12_job 30 = .ok (.iaload, 1) := by decide +kernel
theorem dX12_job_31 : decode cX12_job 31 = .ok (.aload_n 0, 1) := by decide +kernel
theorem dX12_job_32 : decode cX12_job 32 = .ok (.getfield 74, 3) := by decide +kernel
theorem dX12_job_35 : decode cX12_job 35 = .ok (.iload_n 1, 1) := by decide +kernel
theorem dX12_job_36 : decode cX12_job 36 = .ok (.iaload, 1) := by decide +kernel
theorem dX12_job_37 : decode cX12_job 37 = .ok (.invokevirtual 234, 3) := by decide +kernel
theorem dX12_job_40 : decode cX12_job 40 = .ok (.return_, 1) := by decide +kernel
theorem dX12_job_41 : decode cX12_job 41 = .ok (.aload_n 0, 1) := by decide +kernel
theorem dX12_job_42 : decode cX12_job 42 = .ok (.aload_n 0, 1) := by decide +kernel
theorem dX12_job_43 : decode cX12_job 43 = .ok (.getfield 80, 3) := by decide +kernel
theorem dX12_job_46 : decode cX12_job 46 = .ok (.iload_n 1, 1) := by decide +kernel
theorem dX12_job_47 : decode cX12_job 47 = .ok (.baload, 1) := by decide +kernel
theorem dX12_job_48 : decode cX12_job 48 = .ok (.putfield 193, 3) := by decide +kernel
theorem dX12_job_51 : decode cX12_job 51 = .ok (.aload_n 0, 1) := by decide +kernel
theorem dX12_job_52 : decode cX12_job 52 = .ok (.getfield 77, 3) := by decide +kernel
theorem dX12_job_55 : decode cX12_job 55 = .ok (.iload_n 1, 1) := by decide +kernel
theorem dX12_job_56 : decode cX12_job 56 = .ok (.iaload, 1) := by decide +kernel
theorem dX12_job_57 : decode cX12_job 57 = .ok (.istore_n 2, 1) := by decide +kernel
theorem dX12_job_58 : decode cX12_job 58 = .ok (.aload_n 0, 1) := by decide +kernel
theorem dX12_job_59 : decode cX12_job 59 = .ok (.getfield 68, 3) := by decide +kernel
theorem dX12_job_62 : decode cX12_job 62 = .ok (.iload_n 1, 1) := by decide +kernel
theorem dX12_job_63 : decode cX12_job 63 = .ok (.iaload, 1) := by decide +kernel
theorem dX12_job_64 : decode cX12_job 64 = .ok (.ifCond .eq 21, 3) := by decide +kernel
theorem dX12_job_67 : decode cX12_job 67 = .ok (.aload_n 0, 1) := by decide +kernel
theorem dX12_job_68 : decode cX12_job 68 = .ok (.aload_n 0, 1) := by decide +kernel
theorem dX12_job_69 : decode cX12_job 69 = .ok (.getfield 68, 3) := by decide +kernel
theorem dX12_job_72 : decode cX12_job 72 = .ok (.iload_n 1, 1) := by decide +kernel
theorem dX12_job_73 : decode cX12_job 73 = .ok (.iaload, 1) := by decide +kernel
theorem dX12_job_74 : decode cX12_job 74 = .ok (.aload_n 0, 1) := by decide +kernel
theorem dX12_job_75 : decode cX12_job 75 = .ok (.getfield 71, 3) := by decide +kernel
theorem dX12_job_78 : decode cX12_job 78 = .ok (.iload_n 1, 1) := by decide +kernel
theorem dX12_job_79 : decode cX12_job 79 = .ok (.iaload, 1) := by decide +kernel
theorem dX12_job_80 : decode cX12_job 80 = .ok (.iload_n 2, 1) := by decide +kernel
theorem dX12_job_81 : decode cX12_job 81 = .ok (.invokevirtual 237, 3) := by decide +kernel
theorem dX12_job_84 : decode cX12_job 84 = .ok (.istore_n 2, 1) := by decide +kernel
theorem dX12_job_85 : decode cX12_job 85 = .ok (.aload_n 0, 1) := by decide +kernel
theorem dX12_job_86 : decode cX12_job 86 = .ok (.getfield 74, 3) := by decide +kernel
theorem dX12_job_89 : decode cX12_job 89 = .ok (.iload_n 1, 1) := by decide +kernel
theorem dX12_job_90 : decode cX12_job 90 = .ok (.iaload, 1) := by decide +kernel
theorem dX12_job_91 : decode cX12_job 91 = .ok (.ifCond .ge 4, 3) := by decide +kernel
theorem dX12_job_94 : decode cX12_job 94 = .ok (.return_, 1) := by decide +kernel
theorem dX12_job_95 : decode cX12_job 95 = .ok (.aload_n 0, 1) := by decide +kernel
theorem dX12_job_96 : decode cX12_job 96 = .ok (.getfield 193, 3) := by decide +kernel
theorem dX12_job_99 : decode cX12_job 99 = .ok (.ifCond .eq 17, 3) := by decide +kernel
theorem dX12_job_102 : decode cX12_job 102 = .ok (.aload_n 0, 1) := by decide +kernel
theorem dX12_job_103 : decode cX12_job 103 = .ok (.aload_n 0, 1) := by decide +kernel
theorem dX12_job_104 : decode cX12_job 104 = .ok (.getfield 74, 3) := by decide +kernel
theorem dX12_job_107 : decode cX12_job 107 = .ok (.iload_n 1, 1) := by decide +kernel
theorem dX12_job_108 : decode cX12_job 108 = .ok (.iaload, 1) := by decide +kernel
theorem dX12_job_109 : decode cX12_job 109 = .ok (.iload_n 2, 1) := by decide +kernel
theorem dX12_job_110 : decode cX12_job 110 = .ok (.invokevirtual 197, 3) := by decide +kernel
theorem dX12_job_113 : decode cX12_job 113 = .ok (.goto 14, 3) := by decide +kernel
theorem dX12_job_116 : decode cX12_job 116 = .ok (.aload_n 0, 1) := by decide +kernel
theorem dX12_job_117 : decode cX12_job 117 = .ok (.aload_n 0, 1) := by decide +kernel
theorem dX12_job_118 : decode cX12_job 118 = .ok (.getfield 74, 3) := by decide +kernel
theorem dX12_job_121 : decode cX12_job 121 = .ok (.iload_n 1, 1) := by decide +kernel
theorem dX12_job_122 : decode cX12_job 122 = .ok (.iaload, 1) := by decide +kernel
theorem dX12_job_123 : decode cX12_job 123 = .ok (.iload_n 2, 1) := by decide +kernel
theorem dX12_job_124 : decode cX12_job 124 = .ok (.invokevirtual 183, 3) := by decide +kernel
theorem dX12_job_127 : decode cX12_job 127 = .ok (.return_, 1) := by decide +kernel
theorem dX12_thenJob_0 : decode cX12_thenJob 0 = .ok (.aload_n 0, 1) := by decide +kernel
theorem dX12_thenJob_1 : decode cX12_thenJob 1 = .ok (.iload_n 2, 1) := by decide +kernel
theorem dX12_thenJob_2 : decode cX12_thenJob 2 = .ok (.invokevirtual 152, 3) := by decide +kernel
theorem dX12_thenJob_5 : decode cX12_thenJob 5 = .ok (.istore_n 3, 1) := by decide +kernel
theorem dX12_thenJob_6 : decode cX12_thenJob 6 = .ok (.aload_n 0, 1) := by decide +kernel
theorem dX12_thenJob_7 : decode cX12_thenJob 7 = .ok (.getfield 7, 3) := by decide +kernel
theorem dX12_thenJob_10 : decode cX12_thenJob 10 = .ok (.iload_n 1, 1) := by decide +kernel
theorem dX12_thenJob_11 : decode cX12_thenJob 11 = .ok (.iaload, 1) := by decide +kernel
theorem dX12_thenJob_12 : decode cX12_thenJob 12 = .ok (.ifCond .ne 14, 3) := by decide +kernel
theorem dX12_thenJob_15 : decode cX12_thenJob 15 = .ok (.aload_n 0, 1) := by decide +kernel
theorem dX12_thenJob_16 : decode cX12_thenJob 16 = .ok (.iload_n 1, 1) := by decide +kernel
theorem dX12_thenJob_17 : decode cX12_thenJob 17 = .ok (.iconst 2, 1) := by decide +kernel
theorem dX12_thenJob_18 : decode cX12_thenJob 18 = .ok (.iload_n 3, 1) := by decide +kernel
theorem dX12_thenJob_19 : decode cX12_thenJob 19 = .ok (.iconst 3, 1) := by decide +kernel
theorem dX12_thenJob_20 : decode cX12_thenJob 20 = .ok (.iload_n 3, 1) := by decide +kernel
theorem dX12_thenJob_21 : decode cX12_thenJob 21 = .ok (.invokevirtual 220, 3) := by decide +kernel
theorem dX12_thenJob_24 : decode cX12_thenJob 24 = .ok (.pop, 1) := by decide +kernel
theorem dX12_thenJob_25 : decode cX12_thenJob 25 = .ok (.return_, 1) := by decide +kernel
theorem dX12_thenJob_26 : decode cX12_thenJob 26 = .ok (.aload_n 0, 1) := by decide +kernel
theorem dX12_thenJob_27 : decode cX12_thenJob 27 = .ok (.iload_n 1, 1) := by decide +kernel
theorem dX12_thenJob_28 : decode cX12_thenJob 28 = .ok (.invokestatic 155, 3) := by decide +kernel
theorem dX12_thenJob_31 : decode cX12_thenJob 31 = .ok (.iconst (-1), 1) := by decide +kernel
theorem dX12_thenJob_32 : decode cX12_thenJob 32 = .ok (.invokevirtual 190, 3) := by decide +kernel
theorem dX12_thenJob_35 : decode cX12_thenJob 35 = .ok (.aload_n 0, 1) := by decide +kernel
theorem dX12_thenJob_36 : decode cX12_thenJob 36 = .ok (.iload_n 1, 1) := by decide +kernel
theorem dX12_thenJob_37 : decode cX12_thenJob 37 = .ok (.aload_n 0, 1) := by decide +kernel
theorem dX12_thenJob_38 : decode cX12_thenJob 38 = .ok (.getfield 32, 3) := by decide +kernel
theorem dX12_thenJob_41 : decode cX12_thenJob 41 = .ok (.iload_n 1, 1) := by decide +kernel
theorem dX12_thenJob_42 : decode cX12_thenJob 42 = .ok (.iaload, 1) := by decide +kernel
theorem dX12_thenJob_43 : decode cX12_thenJob 43 = .ok (.aload_n 0, 1) := by decide +kernel
theorem dX12_thenJob_44 : decode cX12_thenJob 44 = .ok (.getfield 35, 3) := by decide +kernel
theorem dX12_thenJob_47 : decode cX12_thenJob 47 = .ok (.iload_n 1, 1) := by decide +kernel
theorem dX12_thenJob_48 : decode cX12_thenJob 48 = .ok (.iaload, 1) := by decide +kernel
theorem dX12_thenJob_49 : decode cX12_thenJob 49 = .ok (.iload_n 3, 1) := by decide +kernel
theorem dX12_thenJob_50 : decode cX12_thenJob 50 = .ok (.invokevirtual 240, 3) := by decide +kernel
theorem dX12_thenJob_53 : decode cX12_thenJob 53 = .ok (.ifCond .ne 22, 3) := by decide +kernel
theorem dX12_thenJob_56 : decode cX12_thenJob 56 = .ok (.aload_n 0, 1) := by decide +kernel
theorem dX12_thenJob_57 : decode cX12_thenJob 57 = .ok (.iload_n 1, 1) := by decide +kernel
theorem dX12_thenJob_58 : decode cX12_thenJob 58 = .ok (.aload_n 0, 1) := by decide +kernel
theorem dX12_thenJob_59 : decode cX12_thenJob 59 = .ok (.getfield 38, 3) := by decide +kernel
theorem dX12_thenJob_62 : decode cX12_thenJob 62 = .ok (.iload_n 1, 1) := by decide +kernel
theorem dX12_thenJob_63 : decode cX12_thenJob 63 = .ok (.iaload, 1) := by decide +kernel
theorem dX12_thenJob_64 : decode cX12_thenJob 64 = .ok (.aload_n 0, 1) := by decide +kernel
theorem dX12_thenJob_65 : decode cX12_thenJob 65 = .ok (.getfield 41, 3) := by decide +kernel
theorem dX12_thenJob_68 : decode cX12_thenJob 68 = .ok (.iload_n 1, 1) := by decide +kernel
theorem dX12_thenJob_69 : decode cX12_thenJob 69 = .ok (.iaload, 1) := by decide +kernel
theorem dX12_thenJob_70 : decode cX12_thenJob 70 = .ok (.iload_n 3, 1) := by decide +kernel
theorem dX12_thenJob_71 : decode cX12_thenJob 71 = .ok (.invokevirtual 240, 3) := by decide +kernel
theorem dX12_thenJob_74 : decode cX12_thenJob 74 = .ok (.pop, 1) := by decide +kernel
theorem dX12_thenJob_75 : decode cX12_thenJob 75 = .ok (.return_, 1) := by decide +kernel
theorem dX12_does_0 : decode cX12_does 0 = .ok (.iload_n 2, 1) := by decide +kernel
theorem dX12_does_1 : decode cX12_does 1 = .ok (.iconst 1, 1) := by decide +kernel
theorem dX12_does_2 : decode cX12_does 2 = .ok (.if_icmp .ne 13, 3) := by decide +kernel
theorem dX12_does_5 : decode cX12_does 5 = .ok (.aload_n 0, 1) := by decide +kernel
theorem dX12_does_6 : decode cX12_does 6 = .ok (.iload 4, 2) := by decide +kernel
theorem dX12_does_8 : decode cX12_does 8 = .ok (.iload_n 3, 1) := by decide +kernel
theorem dX12_does_9 : decode cX12_does 9 = .ok (.invokevirtual 183, 3) := by decide +kernel
theorem dX12_does_12 : decode cX12_does 12 = .ok (.goto 46, 3) := by decide +kernel
theorem dX12_does_15 : decode cX12_does 15 = .ok (.iload_n 2, 1) := by decide +kernel
theorem dX12_does_16 : decode cX12_does 16 = .ok (.iconst 2, 1) := by decide +kernel
theorem dX12_does_17 : decode cX12_does 17 = .ok (.if_icmp .ne 13, 3) := by decide +kernel
theorem dX12_does_20 : decode cX12_does 20 = .ok (.aload_n 0, 1) := by decide +kernel
theorem dX12_does_21 : decode cX12_does 21 = .ok (.iload 4, 2) := by decide +kernel
theorem dX12_does_23 : decode cX12_does 23 = .ok (.iload_n 3, 1) := by decide +kernel
theorem dX12_does_24 : decode cX12_does 24 = .ok (.invokevirtual 197, 3) := by decide +kernel
theorem dX12_does_27 : decode cX12_does 27 = .ok (.goto 31, 3) := by decide +kernel
theorem dX12_does_30 : decode cX12_does 30 = .ok (.iload_n 2, 1) := by decide +kernel
theorem dX12_does_31 : decode cX12_does 31 = .ok (.iconst 3, 1) := by decide +kernel
theorem dX12_does_32 : decode cX12_does 32 = .ok (.if_icmp .ne 13, 3) := by decide +kernel
theorem dX12_does_35 : decode cX12_does 35 = .ok (.aload_n 0, 1) := by decide +kernel
theorem dX12_does_36 : decode cX12_does 36 = .ok (.iload 4, 2) := by decide +kernel
theorem dX12_does_38 : decode cX12_does 38 = .ok (.iload_n 3, 1) := by decide +kernel
theorem dX12_does_39 : decode cX12_does 39 = .ok (.invokevirtual 197, 3) := by decide +kernel
theorem dX12_does_42 : decode cX12_does 42 = .ok (.goto 16, 3) := by decide +kernel
theorem dX12_does_45 : decode cX12_does 45 = .ok (.iload_n 2, 1) := by decide +kernel
theorem dX12_does_46 : decode cX12_does 46 = .ok (.iconst 4, 1) := by decide +kernel
theorem dX12_does_47 : decode cX12_does 47 = .ok (.if_icmp .ne 11, 3) := by decide +kernel
theorem dX12_does_50 : decode cX12_does 50 = .ok (.aload_n 0, 1) := by decide +kernel
theorem dX12_does_51 : decode cX12_does 51 = .ok (.getfield 22, 3) := by decide +kernel
theorem dX12_does_54 : decode cX12_does 54 = .ok (.iload_n 1, 1) := by decide +kernel
theorem dX12_does_55 : decode cX12_does 55 = .ok (.iload 4, 2) := by decide +kernel
theorem dX12_does_57 : decode cX12_does 57 = .ok (.iastore, 1) := by decide +kernel
theorem dX12_does_58 : decode cX12_does 58 = .ok (.iload_n 2, 1) := by decide +kernel
theorem dX12_does_59 : decode cX12_does 59 = .ok (.iconst 3, 1) := by decide +kernel
theorem dX12_does_60 : decode cX12_does 60 = .ok (.if_icmp .ne 7, 3) := by decide +kernel
theorem dX12_does_63 : decode cX12_does 63 = .ok (.iconst 1, 1) := by decide +kernel
theorem dX12_does_64 : decode cX12_does 64 = .ok (.goto 4, 3) := by decide +kernel
theorem dX12_does_67 : decode cX12_does 67 = .ok (.iconst 0, 1) := by decide +kernel
theorem dX12_does_68 : decode cX12_does 68 = .ok (.ireturn, 1) := by decide +kernel
theorem dX12_goOn_0 : decode cX12_goOn 0 = .ok (.aload_n 0, 1) := by decide +kernel
theorem dX12_goOn_1 : decode cX12_goOn 1 = .ok (.getfield 128, 3) := by decide +kernel
theorem dX12_goOn_4 : decode cX12_goOn 4 = .ok (.iload_n 1, 1) := by decide +kernel
theorem dX12_goOn_5 : decode cX12_goOn 5 = .ok (.iaload, 1) := by decide +kernel
theorem dX12_goOn_6 : decode cX12_goOn 6 = .ok (.aload_n 0, 1) := by decide +kernel
theorem dX12_goOn_7 : decode cX12_goOn 7 = .ok (.getfield 113, 3) := by decide +kernel
theorem dX12_goOn_10 : decode cX12_goOn 10 = .ok (.iload_n 1, 1) := by decide +kernel
theorem dX12_goOn_11 : decode cX12_goOn 11 = .ok (.iaload, 1) := by decide +kernel
theorem dX12_goOn_12 : decode cX12_goOn 12 = .ok (.if_icmp .ne 20, 3) := by decide +kernel
theorem dX12_goOn_15 : decode cX12_goOn 15 = .ok (.aload_n 0, 1) := by decide +kernel
theorem dX12_goOn_16 : decode cX12_goOn 16 = .ok (.aload_n 0, 1) := by decide +kernel
theorem dX12_goOn_17 : decode cX12_goOn 17 = .ok (.getfield 119, 3) := by decide +kernel
theorem dX12_goOn_20 : decode cX12_goOn 20 = .ok (.iload_n 1, 1) := by decide +kernel
theorem dX12_goOn_21 : decode cX12_goOn 21 = .ok (.iaload, 1) := by decide +kernel
theorem dX12_goOn_22 : decode cX12_goOn 22 = .ok (.aload_n 0, 1) := by decide +kernel
theorem dX12_goOn_23 : decode cX12_goOn 23 = .ok (.getfield 122, 3) := by decide +kernel
theorem dX12_goOn_26 : decode cX12_goOn 26 = .ok (.iload_n 1, 1) := by decide +kernel
theorem dX12_goOn_27 : decode cX12_goOn 27 = .ok (.iaload, 1) := by decide +kernel
theorem dX12_goOn_28 : decode cX12_goOn 28 = .ok (.invokevirtual 183, 3) := by decide +kernel
theorem dX12_goOn_31 : decode cX12_goOn 31 = .ok (.return_, 1) := by decide +kernel
theorem dX12_goOn_32 : decode cX12_goOn 32 = .ok (.aload_n 0, 1) := by decide +kernel
theorem dX12_goOn_33 : decode cX12_goOn 33 = .ok (.getfield 101, 3) := by decide +kernel
theorem dX12_goOn_36 : decode cX12_goOn 36 = .ok (.aload_n 0, 1) := by decide +kernel
theorem dX12_goOn_37 : decode cX12_goOn 37 = .ok (.getfield 110, 3) := by decide +kernel
theorem dX12_goOn_40 : decode cX12_goOn 40 = .ok (.iload_n 1, 1) := by decide +kernel
theorem dX12_goOn_41 : decode cX12_goOn 41 = .ok (.iaload, 1) := by decide +kernel
theorem dX12_goOn_42 : decode cX12_goOn 42 = .ok (.aload_n 0, 1) := by decide +kernel
theorem dX12_goOn_43 : decode cX12_goOn 43 = .ok (.getfield 128, 3) := by decide +kernel
theorem dX12_goOn_46 : decode cX12_goOn 46 = .ok (.iload_n 1, 1) := by decide +kernel
theorem dX12_goOn_47 : decode cX12_goOn 47 = .ok (.iaload, 1) := by decide +kernel
theorem dX12_goOn_48 : decode cX12_goOn 48 = .ok (.iadd, 1) := by decide +kernel
theorem dX12_goOn_49 : decode cX12_goOn 49 = .ok (.iaload, 1) := by decide +kernel
theorem dX12_goOn_50 : decode cX12_goOn 50 = .ok (.istore_n 2, 1) := by decide +kernel
theorem dX12_goOn_51 : decode cX12_goOn 51 = .ok (.aload_n 0, 1) := by decide +kernel
theorem dX12_goOn_52 : decode cX12_goOn 52 = .ok (.getfield 128, 3) := by decide +kernel
theorem dX12_goOn_55 : decode cX12_goOn 55 = .ok (.iload_n 1, 1) := by decide +kernel
theorem dX12_goOn_56 : decode cX12_goOn 56 = .ok (.dup2, 1) := by decide +kernel
theorem dX12_goOn_57 : decode cX12_goOn 57 = .ok (.iaload, 1) := by decide +kernel
theorem dX12_goOn_58 : decode cX12_goOn 58 = .ok (.iconst 1, 1) := by decide +kernel
theorem dX12_goOn_59 : decode cX12_goOn 59 = .ok (.iadd, 1) := by decide +kernel
theorem dX12_goOn_60 : decode cX12_goOn 60 = .ok (.iastore, 1) := by decide +kernel
theorem dX12_goOn_61 : decode cX12_goOn 61 = .ok (.aload_n 0, 1) := by decide +kernel
theorem dX12_goOn_62 : decode cX12_goOn 62 = .ok (.aload_n 0, 1) := by decide +kernel
theorem dX12_goOn_63 : decode cX12_goOn 63 = .ok (.iload_n 2, 1) := by decide +kernel
theorem dX12_goOn_64 : decode cX12_goOn 64 = .ok (.invokevirtual 214, 3) := by decide +kernel
theorem dX12_goOn_67 : decode cX12_goOn 67 = .ok (.bipush 12, 2) := by decide +kernel
theorem dX12_goOn_69 : decode cX12_goOn 69 = .ok (.iload_n 1, 1) := by decide +kernel
theorem dX12_goOn_70 : decode cX12_goOn 70 = .ok (.bipush 13, 2) := by decide +kernel
theorem dX12_goOn_72 : decode cX12_goOn 72 = .ok (.iload_n 1, 1) := by decide +kernel
theorem dX12_goOn_73 : decode cX12_goOn 73 = .ok (.iconst (-1), 1) := by decide +kernel
theorem dX12_goOn_74 : decode cX12_goOn 74 = .ok (.invokevirtual 175, 3) := by decide +kernel
theorem dX12_goOn_77 : decode cX12_goOn 77 = .ok (.return_, 1) := by decide +kernel
theorem dX12_resume_0 : decode cX12_resume 0 = .ok (.aload_n 0, 1) := by decide +kernel
theorem dX12_resume_1 : decode cX12_resume 1 = .ok (.getfield 125, 3) := by decide +kernel
theorem dX12_resume_4 : decode cX12_resume 4 = .ok (.iload_n 1, 1) := by decide +kernel
theorem dX12_resume_5 : decode cX12_resume 5 = .ok (.iaload, 1) := by decide +kernel
theorem dX12_resume_6 : decode cX12_resume 6 = .ok (.ifCond .lt 39, 3) := by decide +kernel
theorem dX12_resume_9 : decode cX12_resume 9 = .ok (.aload_n 0, 1) := by decide +kernel
theorem dX12_resume_10 : decode cX12_resume 10 = .ok (.aload_n 0, 1) := by decide +kernel
theorem dX12_resume_11 : decode cX12_resume 11 = .ok (.getfield 125, 3) := by decide +kernel
theorem dX12_resume_14 : decode cX12_resume 14 = .ok (.iload_n 1, 1) := by decide +kernel
theorem dX12_resume_15 : decode cX12_resume 15 = .ok (.iaload, 1) := by decide +kernel
theorem dX12_resume_16 : decode cX12_resume 16 = .ok (.iload_n 2, 1) := by decide +kernel
theorem dX12_resume_17 : decode cX12_resume 17 = .ok (.invokevirtual 200, 3) := by decide +kernel
theorem dX12_resume_20 : decode cX12_resume 20 = .ok (.istore_n 3, 1) := by decide +kernel
theorem dX12_resume_21 : decode cX12_resume 21 = .ok (.aload_n 0, 1) := by decide +kernel
theorem dX12_resume_22 : decode cX12_resume 22 = .ok (.getfield 193, 3) := by decide +kernel
theorem dX12_resume_25 : decode cX12_resume 25 = .ok (.ifCond .eq 20, 3) := by decide +kernel
theorem dX12_resume_28 : decode cX12_resume 28 = .ok (.aload_n 0, 1) := by decide +kernel
theorem dX12_resume_29 : decode cX12_resume 29 = .ok (.iconst 0, 1) := by decide +kernel
theorem dX12_resume_30 : decode cX12_resume 30 = .ok (.putfield 193, 3) := by decide +kernel
theorem dX12_resume_33 : decode cX12_resume 33 = .ok (.aload_n 0, 1) := by decide +kernel
theorem dX12_resume_34 : decode cX12_resume 34 = .ok (.aload_n 0, 1) := by decide +kernel
theorem dX12_resume_35 : decode cX12_resume 35 = .ok (.getfield 119, 3) := by decide +kernel
theorem dX12_resume_38 : decode cX12_resume 38 = .ok (.iload_n 1, 1) := by decide +kernel
theorem dX12_resume_39 : decode cX12_resume 39 = .ok (.iaload, 1) := by decide +kernel
theorem dX12_resume_40 : decode cX12_resume 40 = .ok (.iload_n 3, 1) := by decide +kernel
theorem dX12_resume_41 : decode cX12_resume 41 = .ok (.invokevirtual 197, 3) := by decide +kernel
theorem dX12_resume_44 : decode cX12_resume 44 = .ok (.return_, 1) := by decide +kernel
theorem dX12_resume_45 : decode cX12_resume 45 = .ok (.aload_n 0, 1) := by decide +kernel
theorem dX12_resume_46 : decode cX12_resume 46 = .ok (.iload_n 1, 1) := by decide +kernel
theorem dX12_resume_47 : decode cX12_resume 47 = .ok (.invokevirtual 244, 3) := by decide +kernel
theorem dX12_resume_50 : decode cX12_resume 50 = .ok (.aload_n 0, 1) := by decide +kernel
theorem dX12_resume_51 : decode cX12_resume 51 = .ok (.iconst 0, 1) := by decide +kernel
theorem dX12_resume_52 : decode cX12_resume 52 = .ok (.putfield 193, 3) := by decide +kernel
theorem dX12_resume_55 : decode cX12_resume 55 = .ok (.return_, 1) := by decide +kernel
theorem dX12_group_0 : decode cX12_group 0 = .ok (.aload_n 0, 1) := by decide +kernel
theorem dX12_group_1 : decode cX12_group 1 = .ok (.getfield 248, 3) := by decide +kernel
theorem dX12_group_4 : decode cX12_group 4 = .ok (.istore_n 1, 1) := by decide +kernel
theorem dX12_group_5 : decode cX12_group 5 = .ok (.aload_n 0, 1) := by decide +kernel
theorem dX12_group_6 : decode cX12_group 6 = .ok (.dup, 1) := by decide +kernel
theorem dX12_group_7 : decode cX12_group 7 = .ok (.getfield 248, 3) := by decide +kernel
theorem dX12_group_10 : decode cX12_group 10 = .ok (.iconst 1, 1) := by decide +kernel
theorem dX12_group_11 : decode cX12_group 11 = .ok (.iadd, 1) := by decide +kernel
theorem dX12_group_12 : decode cX12_group 12 = .ok (.putfield 248, 3) := by decide +kernel
theorem dX12_group_15 : decode cX12_group 15 = .ok (.aload_n 0, 1) := by decide +kernel
theorem dX12_group_16 : decode cX12_group 16 = .ok (.getfield 110, 3) := by decide +kernel
theorem dX12_group_19 : decode cX12_group 19 = .ok (.iload_n 1, 1) := by decide +kernel
theorem dX12_group_20 : decode cX12_group 20 = .ok (.aload_n 0, 1) := by decide +kernel
theorem dX12_group_21 : decode cX12_group 21 = .ok (.getfield 217, 3) := by decide +kernel
theorem dX12_group_24 : decode cX12_group 24 = .ok (.iastore, 1) := by decide +kernel
theorem dX12_group_25 : decode cX12_group 25 = .ok (.aload_n 0, 1) := by decide +kernel
theorem dX12_group_26 : decode cX12_group 26 = .ok (.getfield 113, 3) := by decide +kernel
theorem dX12_group_29 : decode cX12_group 29 = .ok (.iload_n 1, 1) := by decide +kernel
theorem dX12_group_30 : decode cX12_group 30 = .ok (.aload_n 0, 1) := by decide +kernel
theorem dX12_group_31 : decode cX12_group 31 = .ok (.getfield 251, 3) := by decide +kernel
theorem dX12_group_34 : decode cX12_group 34 = .ok (.iastore, 1) := by decide +kernel
theorem dX12_group_35 : decode cX12_group 35 = .ok (.iconst 0, 1) := by decide +kernel
theorem dX12_group_36 : decode cX12_group 36 = .ok (.istore_n 2, 1) := by decide +kernel
theorem dX12_group_37 : decode cX12_group 37 = .ok (.iload_n 2, 1) := by decide +kernel
theorem dX12_group_38 : decode cX12_group 38 = .ok (.aload_n 0, 1) := by decide +kernel
theorem dX12_group_39 : decode cX12_group 39 = .ok (.getfield 251, 3) := by decide +kernel
theorem dX12_group_42 : decode cX12_group 42 = .ok (.if_icmp .ge 54, 3) := by decide +kernel
theorem dX12_group_45 : decode cX12_group 45 = .ok (.aload_n 0, 1) := by decide +kernel
theorem dX12_group_46 : decode cX12_group 46 = .ok (.getfield 101, 3) := by decide +kernel
theorem dX12_group_49 : decode cX12_group 49 = .ok (.aload_n 0, 1) := by decide +kernel
theorem dX12_group_50 : decode cX12_group 50 = .ok (.getfield 217, 3) := by decide +kernel
theorem dX12_group_53 : decode cX12_group 53 = .ok (.aload_n 0, 1) := by decide +kernel
theorem dX12_group_54 : decode cX12_group 54 = .ok (.getfield 98, 3) := by decide +kernel
theorem dX12_group_57 : decode cX12_group 57 = .ok (.iload_n 2, 1) := by decide +kernel
theorem dX12_group_58 : decode cX12_group 58 = .ok (.iaload, 1) := by decide +kernel
theorem dX12_group_59 : decode cX12_group 59 = .ok (.iastore, 1) := by decide +kernel
theorem dX12_group_60 : decode cX12_group 60 = .ok (.aload_n 0, 1) := by decide +kernel
theorem dX12_group_61 : decode cX12_group 61 = .ok (.getfield 104, 3) := by decide +kernel
theorem dX12_group_64 : decode cX12_group 64 = .ok (.aload_n 0, 1) := by decide +kernel
theorem dX12_group_65 : decode cX12_group 65 = .ok (.getfield 217, 3) := by decide +kernel
theorem dX12_group_68 : decode cX12_group 68 = .ok (.iload_n 1, 1) := by decide +kernel
theorem dX12_group_69 : decode cX12_group 69 = .ok (.iastore, 1) := by decide +kernel
theorem dX12_group_70 : decode cX12_group 70 = .ok (.aload_n 0, 1) := by decide +kernel
theorem dX12_group_71 : decode cX12_group 71 = .ok (.getfield 107, 3) := by decide +kernel
theorem dX12_group_74 : decode cX12_group 74 = .ok (.aload_n 0, 1) := by decide +kernel
theorem dX12_group_75 : decode cX12_group 75 = .ok (.getfield 217, 3) := by decide +kernel
theorem dX12_group_78 : decode cX12_group 78 = .ok (.iconst 0, 1) := by decide +kernel
theorem dX12_group_79 : decode cX12_group 79 = .ok (.bastore, 1) := by decide +kernel
theorem dX12_group_80 : decode cX12_group 80 = .ok (.aload_n 0, 1) := by decide +kernel
theorem dX12_group_81 : decode cX12_group 81 = .ok (.dup, 1) := by decide +kernel
theorem dX12_group_82 : decode cX12_group 82 = .ok (.getfield 217, 3) := by decide +kernel
theorem dX12_group_85 : decode cX12_group 85 = .ok (.iconst 1, 1) := by decide +kernel
theorem dX12_group_86 : decode cX12_group 86 = .ok (.iadd, 1) := by decide +kernel
theorem dX12_group_87 : decode cX12_group 87 = .ok (.putfield 217, 3) := by decide +kernel
theorem dX12_group_90 : decode cX12_group 90 = .ok (.iinc 2 1, 3) := by decide +kernel
theorem dX12_group_93 : decode cX12_group 93 = .ok (.goto (-56), 3) := by decide +kernel
theorem dX12_group_96 : decode cX12_group 96 = .ok (.aload_n 0, 1) := by decide +kernel
theorem dX12_group_97 : decode cX12_group 97 = .ok (.iconst 0, 1) := by decide +kernel
theorem dX12_group_98 : decode cX12_group 98 = .ok (.putfield 251, 3) := by decide +kernel
theorem dX12_group_101 : decode cX12_group 101 = .ok (.iload_n 1, 1) := by decide +kernel
theorem dX12_group_102 : decode cX12_group 102 = .ok (.ireturn, 1) := by decide +kernel
theorem dX12_promise_0 : decode cX12_promise 0 = .ok (.aload_n 0, 1) := by decide +kernel
theorem dX12_promise_1 : decode cX12_promise 1 = .ok (.iconst 0, 1) := by decide +kernel
theorem dX12_promise_2 : decode cX12_promise 2 = .ok (.putfield 131, 3) := by decide +kernel
theorem dX12_promise_5 : decode cX12_promise 5 = .ok (.aload_n 0, 1) := by decide +kernel
theorem dX12_promise_6 : decode cX12_promise 6 = .ok (.bipush 8, 2) := by decide +kernel
theorem dX12_promise_8 : decode cX12_promise 8 = .ok (.invokevirtual 254, 3) := by decide +kernel
theorem dX12_promise_11 : decode cX12_promise 11 = .ok (.ifCond .eq 9, 3) := by decide +kernel
theorem dX12_promise_14 : decode cX12_promise 14 = .ok (.aload_n 0, 1) := by decide +kernel
theorem dX12_promise_15 : decode cX12_promise 15 = .ok (.iconst 1, 1) := by decide +kernel
theorem dX12_promise_16 : decode cX12_promise 16 = .ok (.invokevirtual 257, 3) := by decide +kernel
theorem dX12_promise_19 : decode cX12_promise 19 = .ok (.ireturn, 1) := by decide +kernel
theorem dX12_promise_20 : decode cX12_promise 20 = .ok (.aload_n 0, 1) := by decide +kernel
theorem dX12_promise_21 : decode cX12_promise 21 = .ok (.invokevirtual 171, 3) := by decide +kernel
theorem dX12_promise_24 : decode cX12_promise 24 = .ok (.istore_n 1, 1) := by decide +kernel
theorem dX12_promise_25 : decode cX12_promise 25 = .ok (.aload_n 0, 1) := by decide +kernel
theorem dX12_promise_26 : decode cX12_promise 26 = .ok (.getfield 44, 3) := by decide +kernel
theorem dX12_promise_29 : decode cX12_promise 29 = .ok (.iload_n 1, 1) := by decide +kernel
theorem dX12_promise_30 : decode cX12_promise 30 = .ok (.iaload, 1) := by decide +kernel
theorem dX12_promise_31 : decode cX12_promise 31 = .ok (.istore_n 2, 1) := by decide +kernel
theorem dX12_promise_32 : decode cX12_promise 32 = .ok (.aload_n 0, 1) := by decide +kernel
theorem dX12_promise_33 : decode cX12_promise 33 = .ok (.getfield 22, 3) := by decide +kernel
theorem dX12_promise_36 : decode cX12_promise 36 = .ok (.iload_n 2, 1) := by decide +kernel
theorem dX12_promise_37 : decode cX12_promise 37 = .ok (.iload_n 1, 1) := by decide +kernel
theorem dX12_promise_38 : decode cX12_promise 38 = .ok (.iastore, 1) := by decide +kernel
theorem dX12_promise_39 : decode cX12_promise 39 = .ok (.iload_n 2, 1) := by decide +kernel
theorem dX12_promise_40 : decode cX12_promise 40 = .ok (.invokestatic 155, 3) := by decide +kernel
theorem dX12_promise_43 : decode cX12_promise 43 = .ok (.ireturn, 1) := by decide +kernel
theorem dX12_isKept_0 : decode cX12_isKept 0 = .ok (.aload_n 0, 1) := by decide +kernel
theorem dX12_isKept_1 : decode cX12_isKept 1 = .ok (.iload_n 1, 1) := by decide +kernel
theorem dX12_isKept_2 : decode cX12_isKept 2 = .ok (.iconst 0, 1) := by decide +kernel
theorem dX12_isKept_3 : decode cX12_isKept 3 = .ok (.invokevirtual 179, 3) := by decide +kernel
theorem dX12_isKept_6 : decode cX12_isKept 6 = .ok (.ifCond .eq 19, 3) := by decide +kernel
theorem dX12_isKept_9 : decode cX12_isKept 9 = .ok (.aload_n 0, 1) := by decide +kernel
theorem dX12_isKept_10 : decode cX12_isKept 10 = .ok (.getfield 22, 3) := by decide +kernel
theorem dX12_isKept_13 : decode cX12_isKept 13 = .ok (.bipush (-2), 2) := by decide +kernel
theorem dX12_isKept_15 : decode cX12_isKept 15 = .ok (.iload_n 1, 1) := by decide +kernel
theorem dX12_isKept_16 : decode cX12_isKept 16 = .ok (.isub, 1) := by decide +kernel
theorem dX12_isKept_17 : decode cX12_isKept 17 = .ok (.iaload, 1) := by decide +kernel
theorem dX12_isKept_18 : decode cX12_isKept 18 = .ok (.ifCond .lt 7, 3) := by decide +kernel
theorem dX12_isKept_21 : decode cX12_isKept 21 = .ok (.iconst 1, 1) := by decide +kernel
theorem dX12_isKept_22 : decode cX12_isKept 22 = .ok (.goto 4, 3) := by decide +kernel
theorem dX12_isKept_25 : decode cX12_isKept 25 = .ok (.iconst 0, 1) := by decide +kernel
theorem dX12_isKept_26 : decode cX12_isKept 26 = .ok (.ireturn, 1) := by decide +kernel
theorem dX12_handler_0 : decode cX12_handler 0 = .ok (.aload_n 0, 1) := by decide +kernel
theorem dX12_handler_1 : decode cX12_handler 1 = .ok (.iconst 0, 1) := by decide +kernel
theorem dX12_handler_2 : decode cX12_handler 2 = .ok (.putfield 131, 3) := by decide +kernel
theorem dX12_handler_5 : decode cX12_handler 5 = .ok (.iload_n 1, 1) := by decide +kernel
theorem dX12_handler_6 : decode cX12_handler 6 = .ok (.ifCond .lt 29, 3) := by decide +kernel
theorem dX12_handler_9 : decode cX12_handler 9 = .ok (.iload_n 1, 1) := by decide +kernel
theorem dX12_handler_10 : decode cX12_handler 10 = .ok (.iconst 5, 1) := by decide +kernel
theorem dX12_handler_11 : decode cX12_handler 11 = .ok (.if_icmp .gt 24, 3) := by decide +kernel
theorem dX12_handler_14 : decode cX12_handler 14 = .ok (.aload_n 0, 1) := by decide +kernel
theorem dX12_handler_15 : decode cX12_handler 15 = .ok (.iload_n 2, 1) := by decide +kernel
theorem dX12_handler_16 : decode cX12_handler 16 = .ok (.invokevirtual 260, 3) := by decide +kernel
theorem dX12_handler_19 : decode cX12_handler 19 = .ok (.ifCond .eq 16, 3) := by decide +kernel
theorem dX12_handler_22 : decode cX12_handler 22 = .ok (.iload_n 1, 1) := by decide +kernel
theorem dX12_handler_23 : decode cX12_handler 23 = .ok (.iconst 3, 1) := by decide +kernel
theorem dX12_handler_24 : decode cX12_handler 24 = .ok (.if_icmp .le 17, 3) := by decide +kernel
theorem dX12_handler_27 : decode cX12_handler 27 = .ok (.aload_n 0, 1) := by decide +kernel
theorem dX12_handler_28 : decode cX12_handler 28 = .ok (.iload_n 2, 1) := by decide +kernel
theorem dX12_handler_29 : decode cX12_handler 29 = .ok (.invokevirtual 263, 3) := by decide +kernel
theorem dX12_handler_32 : decode cX12_handler 32 = .ok (.ifCond .ne 9, 3) := by decide +kernel
theorem dX12_handler_35 : decode cX12_handler 35 = .ok (.aload_n 0, 1) := by decide +kernel
theorem dX12_handler_36 : decode cX12_handler 36 = .ok (.iconst 1, 1) := by decide +kernel
theorem dX12_handler_37 : decode cX12_handler 37 = .ok (.invokevirtual 257, 3) := by decide +kernel
theorem dX12_handler_40 : decode cX12_handler 40 = .ok (.ireturn, 1) := by decide +kernel
theorem dX12_handler_41 : decode cX12_handler 41 = .ok (.aload_n 0, 1) := by decide +kernel
theorem dX12_handler_42 : decode cX12_handler 42 = .ok (.getfield 142, 3) := by decide +kernel
theorem dX12_handler_45 : decode cX12_handler 45 = .ok (.sipush 1000, 3) := by decide +kernel
theorem dX12_handler_48 : decode cX12_handler 48 = .ok (.if_icmp .ne 9, 3) := by decide +kernel
theorem dX12_handler_51 : decode cX12_handler 51 = .ok (.aload_n 0, 1) := by decide +kernel
theorem dX12_handler_52 : decode cX12_handler 52 = .ok (.iconst 2, 1) := by decide +kernel
theorem dX12_handler_53 : decode cX12_handler 53 = .ok (.invokevirtual 257, 3) := by decide +kernel
theorem dX12_handler_56 : decode cX12_handler 56 = .ok (.ireturn, 1) := by decide +kernel
theorem dX12_handler_57 : decode cX12_handler 57 = .ok (.aload_n 0, 1) := by decide +kernel
theorem dX12_handler_58 : decode cX12_handler 58 = .ok (.getfield 86, 3) := by decide +kernel
theorem dX12_handler_61 : decode cX12_handler 61 = .ok (.aload_n 0, 1) := by decide +kernel
theorem dX12_handler_62 : decode cX12_handler 62 = .ok (.getfield 142, 3) := by decide +kernel
theorem dX12_handler_65 : decode cX12_handler 65 = .ok (.iload_n 1, 1) := by decide +kernel
theorem dX12_handler_66 : decode cX12_handler 66 = .ok (.iastore, 1) := by decide +kernel
theorem dX12_handler_67 : decode cX12_handler 67 = .ok (.aload_n 0, 1) := by decide +kernel
theorem dX12_handler_68 : decode cX12_handler 68 = .ok (.getfield 89, 3) := by decide +kernel
theorem dX12_handler_71 : decode cX12_handler 71 = .ok (.aload_n 0, 1) := by decide +kernel
theorem dX12_handler_72 : decode cX12_handler 72 = .ok (.getfield 142, 3) := by decide +kernel
theorem dX12_handler_75 : decode cX12_handler 75 = .ok (.iload_n 2, 1) := by decide +kernel
theorem dX12_handler_76 : decode cX12_handler 76 = .ok (.iastore, 1) := by decide +kernel
theorem dX12_handler_77 : decode cX12_handler 77 = .ok (.aload_n 0, 1) := by decide +kernel
theorem dX12_handler_78 : decode cX12_handler 78 = .ok (.dup, 1) := by decide +kernel
theorem dX12_handler_79 : decode cX12_handler 79 = .ok (.getfield 142, 3) := by decide +kernel
theorem dX12_handler_82 : decode cX12_handler 82 = .ok (.iconst 1, 1) := by decide +kernel
theorem dX12_handler_83 : decode cX12_handler 83 = .ok (.iadd, 1) := by decide +kernel
theorem dX12_handler_84 : decode cX12_handler 84 = .ok (.putfield 142, 3) := by decide +kernel
theorem dX12_handler_87 : decode cX12_handler 87 = .ok (.aload_n 0, 1) := by decide +kernel
theorem dX12_handler_88 : decode cX12_handler 88 = .ok (.getfield 142, 3) := by decide +kernel
theorem dX12_handler_91 : decode cX12_handler 91 = .ok (.iconst 1, 1) := by decide +kernel
theorem dX12_handler_92 : decode cX12_handler 92 = .ok (.isub, 1) := by decide +kernel
theorem dX12_handler_93 : decode cX12_handler 93 = .ok (.ireturn, 1) := by decide +kernel
theorem dX12_thenable_0 : decode cX12_thenable 0 = .ok (.aload_n 0, 1) := by decide +kernel
theorem dX12_thenable_1 : decode cX12_thenable 1 = .ok (.iconst 0, 1) := by decide +kernel
theorem dX12_thenable_2 : decode cX12_thenable 2 = .ok (.putfield 131, 3) := by decide +kernel
theorem dX12_thenable_5 : decode cX12_thenable 5 = .ok (.iload_n 1, 1) := by decide +kernel
theorem dX12_thenable_6 : decode cX12_thenable 6 = .ok (.ifCond .lt 45, 3) := by decide +kernel
theorem dX12_thenable_9 : decode cX12_thenable 9 = .ok (.iload_n 1, 1) := by decide +kernel
theorem dX12_thenable_10 : decode cX12_thenable 10 = .ok (.iconst 2, 1) := by decide +kernel
theorem dX12_thenable_11 : decode cX12_thenable 11 = .ok (.if_icmp .gt 40, 3) := by decide +kernel
theorem dX12_thenable_14 : decode cX12_thenable 14 = .ok (.iload_n 2, 1) := by decide +kernel
theorem dX12_thenable_15 : decode cX12_thenable 15 = .ok (.ifCond .lt 36, 3) := by decide +kernel
theorem dX12_thenable_18 : decode cX12_thenable 18 = .ok (.iload_n 2, 1) := by decide +kernel
theorem dX12_thenable_19 : decode cX12_thenable 19 = .ok (.iconst 4, 1) := by decide +kernel
theorem dX12_thenable_20 : decode cX12_thenable 20 = .ok (.if_icmp .gt 31, 3) := by decide +kernel
theorem dX12_thenable_23 : decode cX12_thenable 23 = .ok (.iload 4, 2) := by decide +kernel
theorem dX12_thenable_25 : decode cX12_thenable 25 = .ok (.ifCond .lt 26, 3) := by decide +kernel
theorem dX12_thenable_28 : decode cX12_thenable 28 = .ok (.iload 4, 2) := by decide +kernel
theorem dX12_thenable_30 : decode cX12_thenable 30 = .ok (.iconst 4, 1) := by decide +kernel
theorem dX12_thenable_31 : decode cX12_thenable 31 = .ok (.if_icmp .gt 20, 3) := by decide +kernel
theorem dX12_thenable_34 : decode cX12_thenable 34 = .ok (.aload_n 0, 1) := by decide +kernel
theorem dX12_thenable_35 : decode cX12_thenable 35 = .ok (.iload_n 3, 1) := by decide +kernel
theorem dX12_thenable_36 : decode cX12_thenable 36 = .ok (.invokevirtual 260, 3) := by decide +kernel
theorem dX12_thenable_39 : decode cX12_thenable 39 = .ok (.ifCond .eq 12, 3) := by decide +kernel
theorem dX12_thenable_42 : decode cX12_thenable 42 = .ok (.aload_n 0, 1) := by decide +kernel
theorem dX12_thenable_43 : decode cX12_thenable 43 = .ok (.iload 5, 2) := by decide +kernel
theorem dX12_thenable_45 : decode cX12_thenable 45 = .ok (.invokevirtual 260, 3) := by decide +kernel
theorem dX12_thenable_48 : decode cX12_thenable 48 = .ok (.ifCond .ne 9, 3) := by decide +kernel
theorem dX12_thenable_51 : decode cX12_thenable 51 = .ok (.aload_n 0, 1) := by decide +kernel
theorem dX12_thenable_52 : decode cX12_thenable 52 = .ok (.iconst 1, 1) := by decide +kernel
theorem dX12_thenable_53 : decode cX12_thenable 53 = .ok (.invokevirtual 257, 3) := by decide +kernel
theorem dX12_thenable_56 : decode cX12_thenable 56 = .ok (.ireturn, 1) := by decide +kernel
theorem dX12_thenable_57 : decode cX12_thenable 57 = .ok (.aload_n 0, 1) := by decide +kernel
theorem dX12_thenable_58 : decode cX12_thenable 58 = .ok (.bipush 8, 2) := by decide +kernel
theorem dX12_thenable_60 : decode cX12_thenable 60 = .ok (.invokevirtual 254, 3) := by decide +kernel
theorem dX12_thenable_63 : decode cX12_thenable 63 = .ok (.ifCond .eq 9, 3) := by decide +kernel
theorem dX12_thenable_66 : decode cX12_thenable 66 = .ok (.aload_n 0, 1) := by decide +kernel
theorem dX12_thenable_67 : decode cX12_thenable 67 = .ok (.iconst 2, 1) := by decide +kernel
theorem dX12_thenable_68 : decode cX12_thenable 68 = .ok (.invokevirtual 257, 3) := by decide +kernel
theorem dX12_thenable_71 : decode cX12_thenable 71 = .ok (.ireturn, 1) := by decide +kernel
theorem dX12_thenable_72 : decode cX12_thenable 72 = .ok (.aload_n 0, 1) := by decide +kernel
theorem dX12_thenable_73 : decode cX12_thenable 73 = .ok (.iconst 1, 1) := by decide +kernel
theorem dX12_thenable_74 : decode cX12_thenable 74 = .ok (.invokevirtual 148, 3) := by decide +kernel
theorem dX12_thenable_77 : decode cX12_thenable 77 = .ok (.istore 6, 2) := by decide +kernel
theorem dX12_thenable_79 : decode cX12_thenable 79 = .ok (.aload_n 0, 1) := by decide +kernel
theorem dX12_thenable_80 : decode cX12_thenable 80 = .ok (.getfield 29, 3) := by decide +kernel
theorem dX12_thenable_83 : decode cX12_thenable 83 = .ok (.iload 6, 2) := by decide +kernel
theorem dX12_thenable_85 : decode cX12_thenable 85 = .ok (.iload_n 1, 1) := by decide +kernel
theorem dX12_thenable_86 : decode cX12_thenable 86 = .ok (.iastore, 1) := by decide +kernel
theorem dX12_thenable_87 : decode cX12_thenable 87 = .ok (.aload_n 0, 1) := by decide +kernel
theorem dX12_thenable_88 : decode cX12_thenable 88 = .ok (.getfield 32, 3) := by decide +kernel
theorem dX12_thenable_91 : decode cX12_thenable 91 = .ok (.iload 6, 2) := by decide +kernel
theorem dX12_thenable_93 : decode cX12_thenable 93 = .ok (.iload_n 2, 1) := by decide +kernel
theorem dX12_thenable_94 : decode cX12_thenable 94 = .ok (.iastore, 1) := by decide +kernel
theorem dX12_thenable_95 : decode cX12_thenable 95 = .ok (.aload_n 0, 1) := by decide +kernel
theorem dX12_thenable_96 : decode cX12_thenable 96 = .ok (.getfield 35, 3) := by decide +kernel
theorem dX12_thenable_99 : decode cX12_thenable 99 = .ok (.iload 6, 2) := by decide +kernel
theorem dX12_thenable_101 : decode cX12_thenable 101 = .ok (.iload_n 3, 1) := by decide +kernel
theorem dX12_thenable_102 : decode cX12_thenable 102 = .ok (.iastore, 1) := by decide +kernel
theorem dX12_thenable_103 : decode cX12_thenable 103 = .ok (.aload_n 0, 1) := by decide +kernel
theorem dX12_thenable_104 : decode cX12_thenable 104 = .ok (.getfield 38, 3) := by decide +kernel
theorem dX12_thenable_107 : decode cX12_thenable 107 = .ok (.iload 6, 2) := by decide +kernel
theorem dX12_thenable_109 : decode cX12_thenable 109 = .ok (.iload 4, 2) := by decide +kernel
theorem dX12_thenable_111 : decode cX12_thenable 111 = .ok (.iastore, 1) := by decide +kernel
theorem dX12_thenable_112 : decode cX12_thenable 112 = .ok (.aload_n 0, 1) := by decide +kernel
theorem dX12_thenable_113 : decode cX12_thenable 113 = .ok (.getfield 41, 3) := by decide +kernel
theorem dX12_thenable_116 : decode cX12_thenable 116 = .ok (.iload 6, 2) := by decide +kernel
theorem dX12_thenable_118 : decode cX12_thenable 118 = .ok (.iload 5, 2) := by decide +kernel
theorem dX12_thenable_120 : decode cX12_thenable 120 = .ok (.iastore, 1) := by decide +kernel
theorem dX12_thenable_121 : decode cX12_thenable 121 = .ok (.iload 6, 2) := by decide +kernel
theorem dX12_thenable_123 : decode cX12_thenable 123 = .ok (.invokestatic 155, 3) := by decide +kernel
theorem dX12_thenable_126 : decode cX12_thenable 126 = .ok (.ireturn, 1) := by decide +kernel
theorem dX12_settle__0 : decode cX12_settle_ 0 = .ok (.aload_n 0, 1) := by decide +kernel
theorem dX12_settle__1 : decode cX12_settle_ 1 = .ok (.aload_n 0, 1) := by decide +kernel
theorem dX12_settle__2 : decode cX12_settle_ 2 = .ok (.iload_n 1, 1) := by decide +kernel
theorem dX12_settle__3 : decode cX12_settle_ 3 = .ok (.invokevirtual 263, 3) := by decide +kernel
theorem dX12_settle__6 : decode cX12_settle_ 6 = .ok (.ifCond .eq 11, 3) := by decide +kernel
theorem dX12_settle__9 : decode cX12_settle_ 9 = .ok (.aload_n 0, 1) := by decide +kernel
theorem dX12_settle__10 : decode cX12_settle_ 10 = .ok (.iload_n 3, 1) := by decide +kernel
theorem dX12_settle__11 : decode cX12_settle_ 11 = .ok (.invokevirtual 260, 3) := by decide +kernel
theorem dX12_settle__14 : decode cX12_settle_ 14 = .ok (.ifCond .ne 7, 3) := by decide +kernel
theorem dX12_settle__17 : decode cX12_settle_ 17 = .ok (.iconst 1, 1) := by decide +kernel
theorem dX12_settle__18 : decode cX12_settle_ 18 = .ok (.goto 17, 3) := by decide +kernel
theorem dX12_settle__21 : decode cX12_settle_ 21 = .ok (.aload_n 0, 1) := by decide +kernel
theorem dX12_settle__22 : decode cX12_settle_ 22 = .ok (.bipush 8, 2) := by decide +kernel
theorem dX12_settle__24 : decode cX12_settle_ 24 = .ok (.invokevirtual 254, 3) := by decide +kernel
theorem dX12_settle__27 : decode cX12_settle_ 27 = .ok (.ifCond .eq 7, 3) := by decide +kernel
theorem dX12_settle__30 : decode cX12_settle_ 30 = .ok (.iconst 2, 1) := by decide +kernel
theorem dX12_settle__31 : decode cX12_settle_ 31 = .ok (.goto 4, 3) := by decide +kernel
theorem dX12_settle__34 : decode cX12_settle_ 34 = .ok (.iconst 0, 1) := by decide +kernel
theorem dX12_settle__35 : decode cX12_settle_ 35 = .ok (.putfield 131, 3) := by decide +kernel
theorem dX12_settle__38 : decode cX12_settle_ 38 = .ok (.aload_n 0, 1) := by decide +kernel
theorem dX12_settle__39 : decode cX12_settle_ 39 = .ok (.getfield 131, 3) := by decide +kernel
theorem dX12_settle__42 : decode cX12_settle_ 42 = .ok (.ifCond .le 5, 3) := by decide +kernel
theorem dX12_settle__45 : decode cX12_settle_ 45 = .ok (.iconst 0, 1) := by decide +kernel
theorem dX12_settle__46 : decode cX12_settle_ 46 = .ok (.ireturn, 1) := by decide +kernel
theorem dX12_settle__47 : decode cX12_settle_ 47 = .ok (.aload_n 0, 1) := by decide +kernel
theorem dX12_settle__48 : decode cX12_settle_ 48 = .ok (.getfield 22, 3) := by decide +kernel
theorem dX12_settle__51 : decode cX12_settle_ 51 = .ok (.bipush (-2), 2) := by decide +kernel
theorem dX12_settle__53 : decode cX12_settle_ 53 = .ok (.iload_n 1, 1) := by decide +kernel
theorem dX12_settle__54 : decode cX12_settle_ 54 = .ok (.isub, 1) := by decide +kernel
theorem dX12_settle__55 : decode cX12_settle_ 55 = .ok (.iaload, 1) := by decide +kernel
theorem dX12_settle__56 : decode cX12_settle_ 56 = .ok (.istore 4, 2) := by decide +kernel
theorem dX12_settle__58 : decode cX12_settle_ 58 = .ok (.aload_n 0, 1) := by decide +kernel
theorem dX12_settle__59 : decode cX12_settle_ 59 = .ok (.getfield 47, 3) := by decide +kernel
theorem dX12_settle__62 : decode cX12_settle_ 62 = .ok (.iload 4, 2) := by decide +kernel
theorem dX12_settle__64 : decode cX12_settle_ 64 = .ok (.baload, 1) := by decide +kernel
theorem dX12_settle__65 : decode cX12_settle_ 65 = .ok (.ifCond .ne 7, 3) := by decide +kernel
theorem dX12_settle__68 : decode cX12_settle_ 68 = .ok (.iconst 1, 1) := by decide +kernel
theorem dX12_settle__69 : decode cX12_settle_ 69 = .ok (.goto 4, 3) := by decide +kernel
theorem dX12_settle__72 : decode cX12_settle_ 72 = .ok (.iconst 0, 1) := by decide +kernel
theorem dX12_settle__73 : decode cX12_settle_ 73 = .ok (.istore 5, 2) := by decide +kernel
theorem dX12_settle__75 : decode cX12_settle_ 75 = .ok (.iload_n 2, 1) := by decide +kernel
theorem dX12_settle__76 : decode cX12_settle_ 76 = .ok (.ifCond .eq 13, 3) := by decide +kernel
theorem dX12_settle__79 : decode cX12_settle_ 79 = .ok (.aload_n 0, 1) := by decide +kernel
theorem dX12_settle__80 : decode cX12_settle_ 80 = .ok (.iload 4, 2) := by decide +kernel
theorem dX12_settle__82 : decode cX12_settle_ 82 = .ok (.iload_n 3, 1) := by decide +kernel
theorem dX12_settle__83 : decode cX12_settle_ 83 = .ok (.invokevirtual 197, 3) := by decide +kernel
theorem dX12_settle__86 : decode cX12_settle_ 86 = .ok (.goto 10, 3) := by decide +kernel
theorem dX12_settle__89 : decode cX12_settle_ 89 = .ok (.aload_n 0, 1) := by decide +kernel
theorem dX12_settle__90 : decode cX12_settle_ 90 = .ok (.iload 4, 2) := by decide +kernel
theorem dX12_settle__92 : decode cX12_settle_ 92 = .ok (.iload_n 3, 1) := by decide +kernel
theorem dX12_settle__93 : decode cX12_settle_ 93 = .ok (.invokevirtual 183, 3) := by decide +kernel
theorem dX12_settle__96 : decode cX12_settle_ 96 = .ok (.iload 5, 2) := by decide +kernel
theorem dX12_settle__98 : decode cX12_settle_ 98 = .ok (.ireturn, 1) := by decide +kernel
theorem dX12_later_0 : decode cX12_later 0 = .ok (.aload_n 0, 1) := by decide +kernel
theorem dX12_later_1 : decode cX12_later 1 = .ok (.iconst 0, 1) := by decide +kernel
theorem dX12_later_2 : decode cX12_later 2 = .ok (.putfield 131, 3) := by decide +kernel
theorem dX12_later_5 : decode cX12_later 5 = .ok (.aload_n 0, 1) := by decide +kernel
theorem dX12_later_6 : decode cX12_later 6 = .ok (.iload_n 1, 1) := by decide +kernel
theorem dX12_later_7 : decode cX12_later 7 = .ok (.iconst 1, 1) := by decide +kernel
theorem dX12_later_8 : decode cX12_later 8 = .ok (.invokevirtual 179, 3) := by decide +kernel
theorem dX12_later_11 : decode cX12_later 11 = .ok (.ifCond .eq 11, 3) := by decide +kernel
theorem dX12_later_14 : decode cX12_later 14 = .ok (.aload_n 0, 1) := by decide +kernel
theorem dX12_later_15 : decode cX12_later 15 = .ok (.iload_n 3, 1) := by decide +kernel
theorem dX12_later_16 : decode cX12_later 16 = .ok (.invokevirtual 260, 3) := by decide +kernel
theorem dX12_later_19 : decode cX12_later 19 = .ok (.ifCond .ne 9, 3) := by decide +kernel
theorem dX12_later_22 : decode cX12_later 22 = .ok (.aload_n 0, 1) := by decide +kernel
theorem dX12_later_23 : decode cX12_later 23 = .ok (.iconst 1, 1) := by decide +kernel
theorem dX12_later_24 : decode cX12_later 24 = .ok (.invokevirtual 257, 3) := by decide +kernel
theorem dX12_later_27 : decode cX12_later 27 = .ok (.ireturn, 1) := by decide +kernel
theorem dX12_later_28 : decode cX12_later 28 = .ok (.aload_n 0, 1) := by decide +kernel
theorem dX12_later_29 : decode cX12_later 29 = .ok (.bipush 8, 2) := by decide +kernel
theorem dX12_later_31 : decode cX12_later 31 = .ok (.invokevirtual 254, 3) := by decide +kernel
theorem dX12_later_34 : decode cX12_later 34 = .ok (.ifCond .eq 9, 3) := by decide +kernel
theorem dX12_later_37 : decode cX12_later 37 = .ok (.aload_n 0, 1) := by decide +kernel
theorem dX12_later_38 : decode cX12_later 38 = .ok (.iconst 2, 1) := by decide +kernel
theorem dX12_later_39 : decode cX12_later 39 = .ok (.invokevirtual 257, 3) := by decide +kernel
theorem dX12_later_42 : decode cX12_later 42 = .ok (.ireturn, 1) := by decide +kernel
theorem dX12_later_43 : decode cX12_later 43 = .ok (.aload_n 0, 1) := by decide +kernel
theorem dX12_later_44 : decode cX12_later 44 = .ok (.getfield 22, 3) := by decide +kernel
theorem dX12_later_47 : decode cX12_later 47 = .ok (.bipush (-2), 2) := by decide +kernel
theorem dX12_later_49 : decode cX12_later 49 = .ok (.iload_n 1, 1) := by decide +kernel
theorem dX12_later_50 : decode cX12_later 50 = .ok (.isub, 1) := by decide +kernel
theorem dX12_later_51 : decode cX12_later 51 = .ok (.iaload, 1) := by decide +kernel
theorem dX12_later_52 : decode cX12_later 52 = .ok (.istore 4, 2) := by decide +kernel
theorem dX12_later_54 : decode cX12_later 54 = .ok (.iload 4, 2) := by decide +kernel
theorem dX12_later_56 : decode cX12_later 56 = .ok (.ifCond .ge 5, 3) := by decide +kernel
theorem dX12_later_59 : decode cX12_later 59 = .ok (.iconst (-1), 1) := by decide +kernel
theorem dX12_later_60 : decode cX12_later 60 = .ok (.ireturn, 1) := by decide +kernel
theorem dX12_later_61 : decode cX12_later 61 = .ok (.aload_n 0, 1) := by decide +kernel
theorem dX12_later_62 : decode cX12_later 62 = .ok (.getfield 47, 3) := by decide +kernel
theorem dX12_later_65 : decode cX12_later 65 = .ok (.iload 4, 2) := by decide +kernel
theorem dX12_later_67 : decode cX12_later 67 = .ok (.baload, 1) := by decide +kernel
theorem dX12_later_68 : decode cX12_later 68 = .ok (.ifCond .ne 7, 3) := by decide +kernel
theorem dX12_later_71 : decode cX12_later 71 = .ok (.iconst 1, 1) := by decide +kernel
theorem dX12_later_72 : decode cX12_later 72 = .ok (.goto 4, 3) := by decide +kernel
theorem dX12_later_75 : decode cX12_later 75 = .ok (.iconst 0, 1) := by decide +kernel
theorem dX12_later_76 : decode cX12_later 76 = .ok (.istore 5, 2) := by decide +kernel
theorem dX12_later_78 : decode cX12_later 78 = .ok (.iload_n 2, 1) := by decide +kernel
theorem dX12_later_79 : decode cX12_later 79 = .ok (.ifCond .eq 13, 3) := by decide +kernel
theorem dX12_later_82 : decode cX12_later 82 = .ok (.aload_n 0, 1) := by decide +kernel
theorem dX12_later_83 : decode cX12_later 83 = .ok (.iload 4, 2) := by decide +kernel
theorem dX12_later_85 : decode cX12_later 85 = .ok (.iload_n 3, 1) := by decide +kernel
theorem dX12_later_86 : decode cX12_later 86 = .ok (.invokevirtual 197, 3) := by decide +kernel
theorem dX12_later_89 : decode cX12_later 89 = .ok (.goto 10, 3) := by decide +kernel
theorem dX12_later_92 : decode cX12_later 92 = .ok (.aload_n 0, 1) := by decide +kernel
theorem dX12_later_93 : decode cX12_later 93 = .ok (.iload 4, 2) := by decide +kernel
theorem dX12_later_95 : decode cX12_later 95 = .ok (.iload_n 3, 1) := by decide +kernel
theorem dX12_later_96 : decode cX12_later 96 = .ok (.invokevirtual 183, 3) := by decide +kernel
theorem dX12_later_99 : decode cX12_later 99 = .ok (.iload 5, 2) := by decide +kernel
theorem dX12_later_101 : decode cX12_later 101 = .ok (.ifCond .eq 7, 3) := by decide +kernel
theorem dX12_later_104 : decode cX12_later 104 = .ok (.iconst 1, 1) := by decide +kernel
theorem dX12_later_105 : decode cX12_later 105 = .ok (.goto 4, 3) := by decide +kernel
theorem dX12_later_108 : decode cX12_later 108 = .ok (.iconst 0, 1) := by decide +kernel
theorem dX12_later_109 : decode cX12_later 109 = .ok (.ireturn, 1) := by decide +kernel
theorem dX12_then__0 : decode cX12_then_ 0 = .ok (.aload_n 0, 1) := by decide +kernel
theorem dX12_then__1 : decode cX12_then_ 1 = .ok (.iconst 0, 1) := by decide +kernel
theorem dX12_then__2 : decode cX12_then_ 2 = .ok (.putfield 131, 3) := by decide +kernel
theorem dX12_then__5 : decode cX12_then_ 5 = .ok (.aload_n 0, 1) := by decide +kernel
theorem dX12_then__6 : decode cX12_then_ 6 = .ok (.iload_n 1, 1) := by decide +kernel
theorem dX12_then__7 : decode cX12_then_ 7 = .ok (.iconst 0, 1) := by decide +kernel
theorem dX12_then__8 : decode cX12_then_ 8 = .ok (.invokevirtual 179, 3) := by decide +kernel
theorem dX12_then__11 : decode cX12_then_ 11 = .ok (.ifCond .eq 34, 3) := by decide +kernel
theorem dX12_then__14 : decode cX12_then_ 14 = .ok (.iload_n 2, 1) := by decide +kernel
theorem dX12_then__15 : decode cX12_then_ 15 = .ok (.iconst (-1), 1) := by decide +kernel
theorem dX12_then__16 : decode cX12_then_ 16 = .ok (.if_icmp .eq 11, 3) := by decide +kernel
theorem dX12_then__19 : decode cX12_then_ 19 = .ok (.aload_n 0, 1) := by decide +kernel
theorem dX12_then__20 : decode cX12_then_ 20 = .ok (.iload_n 2, 1) := by decide +kernel
theorem dX12_then__21 : decode cX12_then_ 21 = .ok (.invokevirtual 266, 3) := by decide +kernel
theorem dX12_then__24 : decode cX12_then_ 24 = .ok (.ifCond .eq 21, 3) := by decide +kernel
theorem dX12_then__27 : decode cX12_then_ 27 = .ok (.iload 4, 2) := by decide +kernel
theorem dX12_then__29 : decode cX12_then_ 29 = .ok (.ifCond .eq 22, 3) := by decide +kernel
theorem dX12_then__32 : decode cX12_then_ 32 = .ok (.iload_n 3, 1) := by decide +kernel
theorem dX12_then__33 : decode cX12_then_ 33 = .ok (.iconst (-1), 1) := by decide +kernel
theorem dX12_then__34 : decode cX12_then_ 34 = .ok (.if_icmp .eq 17, 3) := by decide +kernel
theorem dX12_then__37 : decode cX12_then_ 37 = .ok (.aload_n 0, 1) := by decide +kernel
theorem dX12_then__38 : decode cX12_then_ 38 = .ok (.iload_n 3, 1) := by decide +kernel
theorem dX12_then__39 : decode cX12_then_ 39 = .ok (.invokevirtual 266, 3) := by decide +kernel
theorem dX12_then__42 : decode cX12_then_ 42 = .ok (.ifCond .ne 9, 3) := by decide +kernel
theorem dX12_then__45 : decode cX12_then_ 45 = .ok (.aload_n 0, 1) := by decide +kernel
theorem dX12_then__46 : decode cX12_then_ 46 = .ok (.iconst 1, 1) := by decide +kernel
theorem dX12_then__47 : decode cX12_then_ 47 = .ok (.invokevirtual 257, 3) := by decide +kernel
theorem dX12_then__50 : decode cX12_then_ 50 = .ok (.ireturn, 1) := by decide +kernel
theorem dX12_then__51 : decode cX12_then_ 51 = .ok (.aload_n 0, 1) := by decide +kernel
theorem dX12_then__52 : decode cX12_then_ 52 = .ok (.bipush 8, 2) := by decide +kernel
theorem dX12_then__54 : decode cX12_then_ 54 = .ok (.invokevirtual 254, 3) := by decide +kernel
theorem dX12_then__57 : decode cX12_then_ 57 = .ok (.ifCond .eq 9, 3) := by decide +kernel
theorem dX12_then__60 : decode cX12_then_ 60 = .ok (.aload_n 0, 1) := by decide +kernel
theorem dX12_then__61 : decode cX12_then_ 61 = .ok (.iconst 2, 1) := by decide +kernel
theorem dX12_then__62 : decode cX12_then_ 62 = .ok (.invokevirtual 257, 3) := by decide +kernel
theorem dX12_then__65 : decode cX12_then_ 65 = .ok (.ireturn, 1) := by decide +kernel
theorem dX12_then__66 : decode cX12_then_ 66 = .ok (.iload 4, 2) := by decide +kernel
theorem dX12_then__68 : decode cX12_then_ 68 = .ok (.ifCond .eq 12, 3) := by decide +kernel
theorem dX12_then__71 : decode cX12_then_ 71 = .ok (.iload_n 3, 1) := by decide +kernel
theorem dX12_then__72 : decode cX12_then_ 72 = .ok (.iconst (-1), 1) := by decide +kernel
theorem dX12_then__73 : decode cX12_then_ 73 = .ok (.if_icmp .eq 7, 3) := by decide +kernel
theorem dX12_then__76 : decode cX12_then_ 76 = .ok (.iconst 1, 1) := by decide +kernel
theorem dX12_then__77 : decode cX12_then_ 77 = .ok (.goto 4, 3) := by decide +kernel
theorem dX12_then__80 : decode cX12_then_ 80 = .ok (.iconst 0, 1) := by decide +kernel
theorem dX12_then__81 : decode cX12_then_ 81 = .ok (.istore 5, 2) := by decide +kernel
theorem dX12_then__83 : decode cX12_then_ 83 = .ok (.aload_n 0, 1) := by decide +kernel
theorem dX12_then__84 : decode cX12_then_ 84 = .ok (.bipush (-2), 2) := by decide +kernel
theorem dX12_then__86 : decode cX12_then_ 86 = .ok (.iload_n 1, 1) := by decide +kernel
theorem dX12_then__87 : decode cX12_then_ 87 = .ok (.isub, 1) := by decide +kernel
theorem dX12_then__88 : decode cX12_then_ 88 = .ok (.iload_n 2, 1) := by decide +kernel
theorem dX12_then__89 : decode cX12_then_ 89 = .ok (.iconst (-1), 1) := by decide +kernel
theorem dX12_then__90 : decode cX12_then_ 90 = .ok (.if_icmp .ne 7, 3) := by decide +kernel
theorem dX12_then__93 : decode cX12_then_ 93 = .ok (.iconst 0, 1) := by decide +kernel
theorem dX12_then__94 : decode cX12_then_ 94 = .ok (.goto 4, 3) := by decide +kernel
theorem dX12_then__97 : decode cX12_then_ 97 = .ok (.iconst 1, 1) := by decide +kernel
theorem dX12_then__98 : decode cX12_then_ 98 = .ok (.iload_n 2, 1) := by decide +kernel
theorem dX12_then__99 : decode cX12_then_ 99 = .ok (.iload 5, 2) := by decide +kernel
theorem dX12_then__101 : decode cX12_then_ 101 = .ok (.ifCond .eq 7, 3) := by decide +kernel
theorem dX12_then__104 : decode cX12_then_ 104 = .ok (.iconst 1, 1) := by decide +kernel
theorem dX12_then__105 : decode cX12_then_ 105 = .ok (.goto 4, 3) := by decide +kernel
theorem dX12_then__108 : decode cX12_then_ 108 = .ok (.iconst 0, 1) := by decide +kernel
theorem dX12_then__109 : decode cX12_then_ 109 = .ok (.iload_n 3, 1) := by decide +kernel
theorem dX12_then__110 : decode cX12_then_ 110 = .ok (.invokevirtual 220, 3) := by decide +kernel
theorem dX12_then__113 : decode cX12_then_ 113 = .ok (.invokestatic 155, 3) := by decide +kernel
theorem dX12_then__116 : decode cX12_then_ 116 = .ok (.ireturn, 1) := by decide +kernel
theorem dX12_lastly_0 : decode cX12_lastly 0 = .ok (.aload_n 0, 1) := by decide +kernel
theorem dX12_lastly_1 : decode cX12_lastly 1 = .ok (.iconst 0, 1) := by decide +kernel
theorem dX12_lastly_2 : decode cX12_lastly 2 = .ok (.putfield 131, 3) := by decide +kernel
theorem dX12_lastly_5 : decode cX12_lastly 5 = .ok (.aload_n 0, 1) := by decide +kernel
theorem dX12_lastly_6 : decode cX12_lastly 6 = .ok (.iload_n 1, 1) := by decide +kernel
theorem dX12_lastly_7 : decode cX12_lastly 7 = .ok (.iconst 0, 1) := by decide +kernel
theorem dX12_lastly_8 : decode cX12_lastly 8 = .ok (.invokevirtual 179, 3) := by decide +kernel
theorem dX12_lastly_11 : decode cX12_lastly 11 = .ok (.ifCond .eq 16, 3) := by decide +kernel
theorem dX12_lastly_14 : decode cX12_lastly 14 = .ok (.iload_n 2, 1) := by decide +kernel
theorem dX12_lastly_15 : decode cX12_lastly 15 = .ok (.iconst (-1), 1) := by decide +kernel
theorem dX12_lastly_16 : decode cX12_lastly 16 = .ok (.if_icmp .eq 17, 3) := by decide +kernel
theorem dX12_lastly_19 : decode cX12_lastly 19 = .ok (.aload_n 0, 1) := by decide +kernel
theorem dX12_lastly_20 : decode cX12_lastly 20 = .ok (.iload_n 2, 1) := by decide +kernel
theorem dX12_lastly_21 : decode cX12_lastly 21 = .ok (.invokevirtual 266, 3) := by decide +kernel
theorem dX12_lastly_24 : decode cX12_lastly 24 = .ok (.ifCond .ne 9, 3) := by decide +kernel
theorem dX12_lastly_27 : decode cX12_lastly 27 = .ok (.aload_n 0, 1) := by decide +kernel
theorem dX12_lastly_28 : decode cX12_lastly 28 = .ok (.iconst 1, 1) := by decide +kernel
theorem dX12_lastly_29 : decode cX12_lastly 29 = .ok (.invokevirtual 257, 3) := by decide +kernel
theorem dX12_lastly_32 : decode cX12_lastly 32 = .ok (.ireturn, 1) := by decide +kernel
theorem dX12_lastly_33 : decode cX12_lastly 33 = .ok (.aload_n 0, 1) := by decide +kernel
theorem dX12_lastly_34 : decode cX12_lastly 34 = .ok (.bipush 8, 2) := by decide +kernel
theorem dX12_lastly_36 : decode cX12_lastly 36 = .ok (.invokevirtual 254, 3) := by decide +kernel
theorem dX12_lastly_39 : decode cX12_lastly 39 = .ok (.ifCond .eq 9, 3) := by decide +kernel
theorem dX12_lastly_42 : decode cX12_lastly 42 = .ok (.aload_n 0, 1) := by decide +kernel
theorem dX12_lastly_43 : decode cX12_lastly 43 = .ok (.iconst 2, 1) := by decide +kernel
theorem dX12_lastly_44 : decode cX12_lastly 44 = .ok (.invokevirtual 257, 3) := by decide +kernel
theorem dX12_lastly_47 : decode cX12_lastly 47 = .ok (.ireturn, 1) := by decide +kernel
theorem dX12_lastly_48 : decode cX12_lastly 48 = .ok (.aload_n 0, 1) := by decide +kernel
theorem dX12_lastly_49 : decode cX12_lastly 49 = .ok (.bipush (-2), 2) := by decide +kernel
theorem dX12_lastly_51 : decode cX12_lastly 51 = .ok (.iload_n 1, 1) := by decide +kernel
theorem dX12_lastly_52 : decode cX12_lastly 52 = .ok (.isub, 1) := by decide +kernel
theorem dX12_lastly_53 : decode cX12_lastly 53 = .ok (.iload_n 2, 1) := by decide +kernel
theorem dX12_lastly_54 : decode cX12_lastly 54 = .ok (.iconst (-1), 1) := by decide +kernel
theorem dX12_lastly_55 : decode cX12_lastly 55 = .ok (.if_icmp .ne 7, 3) := by decide +kernel
theorem dX12_lastly_58 : decode cX12_lastly 58 = .ok (.iconst 0, 1) := by decide +kernel
theorem dX12_lastly_59 : decode cX12_lastly 59 = .ok (.goto 5, 3) := by decide +kernel
theorem dX12_lastly_62 : decode cX12_lastly 62 = .ok (.bipush 8, 2) := by decide +kernel
theorem dX12_lastly_64 : decode cX12_lastly 64 = .ok (.iload_n 2, 1) := by decide +kernel
theorem dX12_lastly_65 : decode cX12_lastly 65 = .ok (.iload_n 2, 1) := by decide +kernel
theorem dX12_lastly_66 : decode cX12_lastly 66 = .ok (.iconst (-1), 1) := by decide +kernel
theorem dX12_lastly_67 : decode cX12_lastly 67 = .ok (.if_icmp .ne 7, 3) := by decide +kernel
theorem dX12_lastly_70 : decode cX12_lastly 70 = .ok (.iconst 0, 1) := by decide +kernel
theorem dX12_lastly_71 : decode cX12_lastly 71 = .ok (.goto 5, 3) := by decide +kernel
theorem dX12_lastly_74 : decode cX12_lastly 74 = .ok (.bipush 9, 2) := by decide +kernel
theorem dX12_lastly_76 : decode cX12_lastly 76 = .ok (.iload_n 2, 1) := by decide +kernel
theorem dX12_lastly_77 : decode cX12_lastly 77 = .ok (.invokevirtual 220, 3) := by decide +kernel
theorem dX12_lastly_80 : decode cX12_lastly 80 = .ok (.invokestatic 155, 3) := by decide +kernel
theorem dX12_lastly_83 : decode cX12_lastly 83 = .ok (.ireturn, 1) := by decide +kernel
theorem dX12_wrap_0 : decode cX12_wrap 0 = .ok (.aload_n 0, 1) := by decide +kernel
theorem dX12_wrap_1 : decode cX12_wrap 1 = .ok (.iconst 0, 1) := by decide +kernel
theorem dX12_wrap_2 : decode cX12_wrap 2 = .ok (.putfield 131, 3) := by decide +kernel
theorem dX12_wrap_5 : decode cX12_wrap 5 = .ok (.aload_n 0, 1) := by decide +kernel
theorem dX12_wrap_6 : decode cX12_wrap 6 = .ok (.iload_n 1, 1) := by decide +kernel
theorem dX12_wrap_7 : decode cX12_wrap 7 = .ok (.invokevirtual 260, 3) := by decide +kernel
theorem dX12_wrap_10 : decode cX12_wrap 10 = .ok (.ifCond .ne 9, 3) := by decide +kernel
theorem dX12_wrap_13 : decode cX12_wrap 13 = .ok (.aload_n 0, 1) := by decide +kernel
theorem dX12_wrap_14 : decode cX12_wrap 14 = .ok (.iconst 1, 1) := by decide +kernel
theorem dX12_wrap_15 : decode cX12_wrap 15 = .ok (.invokevirtual 257, 3) := by decide +kernel
theorem dX12_wrap_18 : decode cX12_wrap 18 = .ok (.ireturn, 1) := by decide +kernel
theorem dX12_wrap_19 : decode cX12_wrap 19 = .ok (.aload_n 0, 1) := by decide +kernel
theorem dX12_wrap_20 : decode cX12_wrap 20 = .ok (.bipush 8, 2) := by decide +kernel
theorem dX12_wrap_22 : decode cX12_wrap 22 = .ok (.invokevirtual 254, 3) := by decide +kernel
theorem dX12_wrap_25 : decode cX12_wrap 25 = .ok (.ifCond .eq 9, 3) := by decide +kernel
theorem dX12_wrap_28 : decode cX12_wrap 28 = .ok (.aload_n 0, 1) := by decide +kernel
theorem dX12_wrap_29 : decode cX12_wrap 29 = .ok (.iconst 2, 1) := by decide +kernel
theorem dX12_wrap_30 : decode cX12_wrap 30 = .ok (.invokevirtual 257, 3) := by decide +kernel
theorem dX12_wrap_33 : decode cX12_wrap 33 = .ok (.ireturn, 1) := by decide +kernel
theorem dX12_wrap_34 : decode cX12_wrap 34 = .ok (.aload_n 0, 1) := by decide +kernel
theorem dX12_wrap_35 : decode cX12_wrap 35 = .ok (.iload_n 1, 1) := by decide +kernel
theorem dX12_wrap_36 : decode cX12_wrap 36 = .ok (.invokevirtual 214, 3) := by decide +kernel
theorem dX12_wrap_39 : decode cX12_wrap 39 = .ok (.invokestatic 155, 3) := by decide +kernel
theorem dX12_wrap_42 : decode cX12_wrap 42 = .ok (.ireturn, 1) := by decide +kernel
theorem dX12_broken_0 : decode cX12_broken 0 = .ok (.aload_n 0, 1) := by decide +kernel
theorem dX12_broken_1 : decode cX12_broken 1 = .ok (.iconst 0, 1) := by decide +kernel
theorem dX12_broken_2 : decode cX12_broken 2 = .ok (.putfield 131, 3) := by decide +kernel
theorem dX12_broken_5 : decode cX12_broken 5 = .ok (.aload_n 0, 1) := by decide +kernel
theorem dX12_broken_6 : decode cX12_broken 6 = .ok (.iload_n 1, 1) := by decide +kernel
theorem dX12_broken_7 : decode cX12_broken 7 = .ok (.invokevirtual 260, 3) := by decide +kernel
theorem dX12_broken_10 : decode cX12_broken 10 = .ok (.ifCond .ne 9, 3) := by decide +kernel
theorem dX12_broken_13 : decode cX12_broken 13 = .ok (.aload_n 0, 1) := by decide +kernel
theorem dX12_broken_14 : decode cX12_broken 14 = .ok (.iconst 1, 1) := by decide +kernel
theorem dX12_broken_15 : decode cX12_broken 15 = .ok (.invokevirtual 257, 3) := by decide +kernel
theorem dX12_broken_18 : decode cX12_broken 18 = .ok (.ireturn, 1) := by decide +kernel
theorem dX12_broken_19 : decode cX12_broken 19 = .ok (.aload_n 0, 1) := by decide +kernel
theorem dX12_broken_20 : decode cX12_broken 20 = .ok (.bipush 8, 2) := by decide +kernel
theorem dX12_broken_22 : decode cX12_broken 22 = .ok (.invokevirtual 254, 3) := by decide +kernel
theorem dX12_broken_25 : decode cX12_broken 25 = .ok (.ifCond .eq 9, 3) := by decide +kernel
theorem dX12_broken_28 : decode cX12_broken 28 = .ok (.aload_n 0, 1) := by decide +kernel
theorem dX12_broken_29 : decode cX12_broken 29 = .ok (.iconst 2, 1) := by decide +kernel
theorem dX12_broken_30 : decode cX12_broken 30 = .ok (.invokevirtual 257, 3) := by decide +kernel
theorem dX12_broken_33 : decode cX12_broken 33 = .ok (.ireturn, 1) := by decide +kernel
theorem dX12_broken_34 : decode cX12_broken 34 = .ok (.aload_n 0, 1) := by decide +kernel
theorem dX12_broken_35 : decode cX12_broken 35 = .ok (.invokevirtual 171, 3) := by decide +kernel
theorem dX12_broken_38 : decode cX12_broken 38 = .ok (.istore_n 2, 1) := by decide +kernel
theorem dX12_broken_39 : decode cX12_broken 39 = .ok (.aload_n 0, 1) := by decide +kernel
theorem dX12_broken_40 : decode cX12_broken 40 = .ok (.iload_n 2, 1) := by decide +kernel
theorem dX12_broken_41 : decode cX12_broken 41 = .ok (.iload_n 1, 1) := by decide +kernel
theorem dX12_broken_42 : decode cX12_broken 42 = .ok (.invokevirtual 197, 3) := by decide +kernel
theorem dX12_broken_45 : decode cX12_broken 45 = .ok (.aload_n 0, 1) := by decide +kernel
theorem dX12_broken_46 : decode cX12_broken 46 = .ok (.getfield 44, 3) := by decide +kernel
theorem dX12_broken_49 : decode cX12_broken 49 = .ok (.iload_n 2, 1) := by decide +kernel
theorem dX12_broken_50 : decode cX12_broken 50 = .ok (.iaload, 1) := by decide +kernel
theorem dX12_broken_51 : decode cX12_broken 51 = .ok (.invokestatic 155, 3) := by decide +kernel
theorem dX12_broken_54 : decode cX12_broken 54 = .ok (.ireturn, 1) := by decide +kernel
theorem dX12_item_0 : decode cX12_item 0 = .ok (.aload_n 0, 1) := by decide +kernel
theorem dX12_item_1 : decode cX12_item 1 = .ok (.iconst 0, 1) := by decide +kernel
theorem dX12_item_2 : decode cX12_item 2 = .ok (.putfield 131, 3) := by decide +kernel
theorem dX12_item_5 : decode cX12_item 5 = .ok (.aload_n 0, 1) := by decide +kernel
theorem dX12_item_6 : decode cX12_item 6 = .ok (.iload_n 1, 1) := by decide +kernel
theorem dX12_item_7 : decode cX12_item 7 = .ok (.invokevirtual 260, 3) := by decide +kernel
theorem dX12_item_10 : decode cX12_item 10 = .ok (.ifCond .ne 9, 3) := by decide +kernel
theorem dX12_item_13 : decode cX12_item 13 = .ok (.aload_n 0, 1) := by decide +kernel
theorem dX12_item_14 : decode cX12_item 14 = .ok (.iconst 1, 1) := by decide +kernel
theorem dX12_item_15 : decode cX12_item 15 = .ok (.invokevirtual 257, 3) := by decide +kernel
theorem dX12_item_18 : decode cX12_item 18 = .ok (.ireturn, 1) := by decide +kernel
theorem dX12_item_19 : decode cX12_item 19 = .ok (.aload_n 0, 1) := by decide +kernel
theorem dX12_item_20 : decode cX12_item 20 = .ok (.getfield 251, 3) := by decide +kernel
theorem dX12_item_23 : decode cX12_item 23 = .ok (.sipush 200, 3) := by decide +kernel
theorem dX12_item_26 : decode cX12_item 26 = .ok (.if_icmp .ne 9, 3) := by decide +kernel
theorem dX12_item_29 : decode cX12_item 29 = .ok (.aload_n 0, 1) := by decide +kernel
theorem dX12_item_30 : decode cX12_item 30 = .ok (.iconst 2, 1) := by decide +kernel
theorem dX12_item_31 : decode cX12_item 31 = .ok (.invokevirtual 257, 3) := by decide +kernel
theorem dX12_item_34 : decode cX12_item 34 = .ok (.ireturn, 1) := by decide +kernel
theorem dX12_item_35 : decode cX12_item 35 = .ok (.aload_n 0, 1) := by decide +kernel
theorem dX12_item_36 : decode cX12_item 36 = .ok (.getfield 98, 3) := by decide +kernel
theorem dX12_item_39 : decode cX12_item 39 = .ok (.aload_n 0, 1) := by decide +kernel
theorem dX12_item_40 : decode cX12_item 40 = .ok (.getfield 251, 3) := by decide +kernel
theorem dX12_item_43 : decode cX12_item 43 = .ok (.iload_n 1, 1) := by decide +kernel
theorem dX12_item_44 : decode cX12_item 44 = .ok (.iastore, 1) := by decide +kernel
theorem dX12_item_45 : decode cX12_item 45 = .ok (.aload_n 0, 1) := by decide +kernel
theorem dX12_item_46 : decode cX12_item 46 = .ok (.dup, 1) := by decide +kernel
theorem dX12_item_47 : decode cX12_item 47 = .ok (.getfield 251, 3) := by decide +kernel
theorem dX12_item_50 : decode cX12_item 50 = .ok (.iconst 1, 1) := by decide +kernel
theorem dX12_item_51 : decode cX12_item 51 = .ok (.iadd, 1) := by decide +kernel
theorem dX12_item_52 : decode cX12_item 52 = .ok (.putfield 251, 3) := by decide +kernel
theorem dX12_item_55 : decode cX12_item 55 = .ok (.aload_n 0, 1) := by decide +kernel
theorem dX12_item_56 : decode cX12_item 56 = .ok (.getfield 251, 3) := by decide +kernel
theorem dX12_item_59 : decode cX12_item 59 = .ok (.ireturn, 1) := by decide +kernel
theorem dX12_combine_0 : decode cX12_combine 0 = .ok (.aload_n 0, 1) := by decide +kernel
theorem dX12_combine_1 : decode cX12_combine 1 = .ok (.iconst 0, 1) := by decide +kernel
theorem dX12_combine_2 : decode cX12_combine 2 = .ok (.putfield 131, 3) := by decide +kernel
theorem dX12_combine_5 : decode cX12_combine 5 = .ok (.iload_n 1, 1) := by decide +kernel
theorem dX12_combine_6 : decode cX12_combine 6 = .ok (.ifCond .lt 8, 3) := by decide +kernel
theorem dX12_combine_9 : decode cX12_combine 9 = .ok (.iload_n 1, 1) := by decide +kernel
theorem dX12_combine_10 : decode cX12_combine 10 = .ok (.iconst 3, 1) := by decide +kernel
theorem dX12_combine_11 : decode cX12_combine 11 = .ok (.if_icmp .le 9, 3) := by decide +kernel
theorem dX12_combine_14 : decode cX12_combine 14 = .ok (.aload_n 0, 1) := by decide +kernel
theorem dX12_combine_15 : decode cX12_combine 15 = .ok (.iconst 1, 1) := by decide +kernel
theorem dX12_combine_16 : decode cX12_combine 16 = .ok (.invokevirtual 257, 3) := by decide +kernel
theorem dX12_combine_19 : decode cX12_combine 19 = .ok (.ireturn, 1) := by decide +kernel
theorem dX12_combine_20 : decode cX12_combine 20 = .ok (.aload_n 0, 1) := by decide +kernel
theorem dX12_combine_21 : decode cX12_combine 21 = .ok (.bipush 8, 2) := by decide +kernel
theorem dX12_combine_23 : decode cX12_combine 23 = .ok (.iconst 2, 1) := by decide +kernel
theorem dX12_combine_24 : decode cX12_combine 24 = .ok (.aload_n 0, 1) := by decide +kernel
theorem dX12_combine_25 : decode cX12_combine 25 = .ok (.getfield 251, 3) := by decide +kernel
theorem dX12_combine_28 : decode cX12_combine 28 = .ok (.imul, 1) := by decide +kernel
theorem dX12_combine_29 : decode cX12_combine 29 = .ok (.iadd, 1) := by decide +kernel
theorem dX12_combine_30 : decode cX12_combine 30 = .ok (.invokevirtual 254, 3) := by decide +kernel
theorem dX12_combine_33 : decode cX12_combine 33 = .ok (.ifCond .eq 9, 3) := by decide +kernel
theorem dX12_combine_36 : decode cX12_combine 36 = .ok (.aload_n 0, 1) := by decide +kernel
theorem dX12_combine_37 : decode cX12_combine 37 = .ok (.iconst 2, 1) := by decide +kernel
theorem dX12_combine_38 : decode cX12_combine 38 = .ok (.invokevirtual 257, 3) := by decide +kernel
theorem dX12_combine_41 : decode cX12_combine 41 = .ok (.ireturn, 1) := by decide +kernel
theorem dX12_combine_42 : decode cX12_combine 42 = .ok (.aload_n 0, 1) := by decide +kernel
theorem dX12_combine_43 : decode cX12_combine 43 = .ok (.invokevirtual 171, 3) := by decide +kernel
theorem dX12_combine_46 : decode cX12_combine 46 = .ok (.istore_n 2, 1) := by decide +kernel
theorem dX12_combine_47 : decode cX12_combine 47 = .ok (.aload_n 0, 1) := by decide +kernel
theorem dX12_combine_48 : decode cX12_combine 48 = .ok (.invokevirtual 269, 3) := by decide +kernel
theorem dX12_combine_51 : decode cX12_combine 51 = .ok (.istore_n 3, 1) := by decide +kernel
theorem dX12_combine_52 : decode cX12_combine 52 = .ok (.aload_n 0, 1) := by decide +kernel
theorem dX12_combine_53 : decode cX12_combine 53 = .ok (.getfield 119, 3) := by decide +kernel
theorem dX12_combine_56 : decode cX12_combine 56 = .ok (.iload_n 3, 1) := by decide +kernel
theorem dX12_combine_57 : decode cX12_combine 57 = .ok (.iload_n 2, 1) := by decide +kernel
theorem dX12_combine_58 : decode cX12_combine 58 = .ok (.iastore, 1) := by decide +kernel
theorem dX12_combine_59 : decode cX12_combine 59 = .ok (.aload_n 0, 1) := by decide +kernel
theorem dX12_combine_60 : decode cX12_combine 60 = .ok (.getfield 116, 3) := by decide +kernel
theorem dX12_combine_63 : decode cX12_combine 63 = .ok (.iload_n 3, 1) := by decide +kernel
theorem dX12_combine_64 : decode cX12_combine 64 = .ok (.iconst 1, 1) := by decide +kernel
theorem dX12_combine_65 : decode cX12_combine 65 = .ok (.iastore, 1) := by decide +kernel
theorem dX12_combine_66 : decode cX12_combine 66 = .ok (.iconst 0, 1) := by decide +kernel
theorem dX12_combine_67 : decode cX12_combine 67 = .ok (.istore 4, 2) := by decide +kernel
theorem dX12_combine_69 : decode cX12_combine 69 = .ok (.iload 4, 2) := by decide +kernel
theorem dX12_combine_71 : decode cX12_combine 71 = .ok (.aload_n 0, 1) := by decide +kernel
theorem dX12_combine_72 : decode cX12_combine 72 = .ok (.getfield 113, 3) := by decide +kernel
theorem dX12_combine_75 : decode cX12_combine 75 = .ok (.iload_n 3, 1) := by decide +kernel
theorem dX12_combine_76 : decode cX12_combine 76 = .ok (.iaload, 1) := by decide +kernel
theorem dX12_combine_77 : decode cX12_combine 77 = .ok (.if_icmp .ge 129, 3) := by decide +kernel
theorem dX12_combine_80 : decode cX12_combine 80 = .ok (.aload_n 0, 1) := by decide +kernel
theorem dX12_combine_81 : decode cX12_combine 81 = .ok (.getfield 110, 3) := by decide +kernel
theorem dX12_combine_84 : decode cX12_combine 84 = .ok (.iload_n 3, 1) := by decide +kernel
theorem dX12_combine_85 : decode cX12_combine 85 = .ok (.iaload, 1) := by decide +kernel
theorem dX12_combine_86 : decode cX12_combine 86 = .ok (.iload 4, 2) := by decide +kernel
theorem dX12_combine_88 : decode cX12_combine 88 = .ok (.iadd, 1) := by decide +kernel
theorem dX12_combine_89 : decode cX12_combine 89 = .ok (.istore 5, 2) := by decide +kernel
theorem dX12_combine_91 : decode cX12_combine 91 = .ok (.aload_n 0, 1) := by decide +kernel
theorem dX12_combine_92 : decode cX12_combine 92 = .ok (.aload_n 0, 1) := by decide +kernel
theorem dX12_combine_93 : decode cX12_combine 93 = .ok (.getfield 101, 3) := by decide +kernel
theorem dX12_combine_96 : decode cX12_combine 96 = .ok (.iload 5, 2) := by decide +kernel
theorem dX12_combine_98 : decode cX12_combine 98 = .ok (.iaload, 1) := by decide +kernel
theorem dX12_combine_99 : decode cX12_combine 99 = .ok (.invokevirtual 214, 3) := by decide +kernel
theorem dX12_combine_102 : decode cX12_combine 102 = .ok (.istore 6, 2) := by decide +kernel
theorem dX12_combine_104 : decode cX12_combine 104 = .ok (.iload_n 1, 1) := by decide +kernel
theorem dX12_combine_105 : decode cX12_combine 105 = .ok (.iconst 3, 1) := by decide +kernel
theorem dX12_combine_106 : decode cX12_combine 106 = .ok (.if_icmp .ge 21, 3) := by decide +kernel
theorem dX12_combine_109 : decode cX12_combine 109 = .ok (.aload_n 0, 1) := by decide +kernel
theorem dX12_combine_110 : decode cX12_combine 110 = .ok (.getfield 101, 3) := by decide +kernel
theorem dX12_combine_113 : decode cX12_combine 113 = .ok (.iload 5, 2) := by decide +kernel
theorem dX12_combine_115 : decode cX12_combine 115 = .ok (.iconst (-1), 1) := by decide +kernel
theorem dX12_combine_116 : decode cX12_combine 116 = .ok (.iastore, 1) := by decide +kernel
theorem dX12_combine_117 : decode cX12_combine 117 = .ok (.aload_n 0, 1) := by decide +kernel
theorem dX12_combine_118 : decode cX12_combine 118 = .ok (.getfield 116, 3) := by decide +kernel
theorem dX12_combine_121 : decode cX12_combine 121 = .ok (.iload_n 3, 1) := by decide +kernel
theorem dX12_combine_122 : decode cX12_combine 122 = .ok (.dup2, 1) := by decide +kernel
theorem dX12_combine_123 : decode cX12_combine 123 = .ok (.iaload, 1) := by decide +kernel
theorem dX12_combine_124 : decode cX12_combine 124 = .ok (.iconst 1, 1) := by decide +kernel
theorem dX12_combine_125 : decode cX12_combine 125 = .ok (.iadd, 1) := by decide +kernel
theorem dX12_combine_126 : decode cX12_combine 126 = .ok (.iastore, 1) := by decide +kernel
theorem dX12_combine_127 : decode cX12_combine 127 = .ok (.iload_n 1, 1) := by decide +kernel
theorem dX12_combine_128 : decode cX12_combine 128 = .ok (.ifCond .ne 18, 3) := by decide +kernel
theorem dX12_combine_131 : decode cX12_combine 131 = .ok (.aload_n 0, 1) := by decide +kernel
theorem dX12_combine_132 : decode cX12_combine 132 = .ok (.iload 6, 2) := by decide +kernel
theorem dX12_combine_134 : decode cX12_combine 134 = .ok (.iconst 4, 1) := by decide +kernel
theorem dX12_combine_135 : decode cX12_combine 135 = .ok (.iload 5, 2) := by decide +kernel
theorem dX12_combine_137 : decode cX12_combine 137 = .ok (.iconst 3, 1) := by decide +kernel
theorem dX12_combine_138 : decode cX12_combine 138 = .ok (.iload_n 2, 1) := by decide +kernel
theorem dX12_combine_139 : decode cX12_combine 139 = .ok (.invokevirtual 220, 3) := by decide +kernel
theorem dX12_combine_142 : decode cX12_combine 142 = .ok (.pop, 1) := by decide +kernel
theorem dX12_combine_143 : decode cX12_combine 143 = .ok (.goto 57, 3) := by decide +kernel
theorem dX12_combine_146 : decode cX12_combine 146 = .ok (.iload_n 1, 1) := by decide +kernel
theorem dX12_combine_147 : decode cX12_combine 147 = .ok (.iconst 1, 1) := by decide +kernel
theorem dX12_combine_148 : decode cX12_combine 148 = .ok (.if_icmp .ne 20, 3) := by decide +kernel
theorem dX12_combine_151 : decode cX12_combine 151 = .ok (.aload_n 0, 1) := by decide +kernel
theorem dX12_combine_152 : decode cX12_combine 152 = .ok (.iload 6, 2) := by decide +kernel
theorem dX12_combine_154 : decode cX12_combine 154 = .ok (.iconst 5, 1) := by decide +kernel
theorem dX12_combine_155 : decode cX12_combine 155 = .ok (.iload 5, 2) := by decide +kernel
theorem dX12_combine_157 : decode cX12_combine 157 = .ok (.bipush 6, 2) := by decide +kernel
theorem dX12_combine_159 : decode cX12_combine 159 = .ok (.iload 5, 2) := by decide +kernel
theorem dX12_combine_161 : decode cX12_combine 161 = .ok (.invokevirtual 220, 3) := by decide +kernel
theorem dX12_combine_164 : decode cX12_combine 164 = .ok (.pop, 1) := by decide +kernel
theorem dX12_combine_165 : decode cX12_combine 165 = .ok (.goto 35, 3) := by decide +kernel
theorem dX12_combine_168 : decode cX12_combine 168 = .ok (.iload_n 1, 1) := by decide +kernel
theorem dX12_combine_169 : decode cX12_combine 169 = .ok (.iconst 2, 1) := by decide +kernel
theorem dX12_combine_170 : decode cX12_combine 170 = .ok (.if_icmp .ne 19, 3) := by decide +kernel
theorem dX12_combine_173 : decode cX12_combine 173 = .ok (.aload_n 0, 1) := by decide +kernel
theorem dX12_combine_174 : decode cX12_combine 174 = .ok (.iload 6, 2) := by decide +kernel
theorem dX12_combine_176 : decode cX12_combine 176 = .ok (.iconst 2, 1) := by decide +kernel
theorem dX12_combine_177 : decode cX12_combine 177 = .ok (.iload_n 2, 1) := by decide +kernel
theorem dX12_combine_178 : decode cX12_combine 178 = .ok (.bipush 7, 2) := by decide +kernel
theorem dX12_combine_180 : decode cX12_combine 180 = .ok (.iload 5, 2) := by decide +kernel
theorem dX12_combine_182 : decode cX12_combine 182 = .ok (.invokevirtual 220, 3) := by decide +kernel
theorem dX12_combine_185 : decode cX12_combine 185 = .ok (.pop, 1) := by decide +kernel
theorem dX12_combine_186 : decode cX12_combine 186 = .ok (.goto 14, 3) := by decide +kernel
theorem dX12_combine_189 : decode cX12_combine 189 = .ok (.aload_n 0, 1) := by decide +kernel
theorem dX12_combine_190 : decode cX12_combine 190 = .ok (.iload 6, 2) := by decide +kernel
theorem dX12_combine_192 : decode cX12_combine 192 = .ok (.iconst 2, 1) := by decide +kernel
theorem dX12_combine_193 : decode cX12_combine 193 = .ok (.iload_n 2, 1) := by decide +kernel
theorem dX12_combine_194 : decode cX12_combine 194 = .ok (.iconst 3, 1) := by decide +kernel
theorem dX12_combine_195 : decode cX12_combine 195 = .ok (.iload_n 2, 1) := by decide +kernel
theorem dX12_combine_196 : decode cX12_combine 196 = .ok (.invokevirtual 220, 3) := by decide +kernel
theorem dX12_combine_199 : decode cX12_combine 199 = .ok (.pop, 1) := by decide +kernel
theorem dX12_combine_200 : decode cX12_combine 200 = .ok (.iinc 4 1, 3) := by decide +kernel
theorem dX12_combine_203 : decode cX12_combine 203 = .ok (.goto (-134), 3) := by decide +kernel
theorem dX12_combine_206 : decode cX12_combine 206 = .ok (.aload_n 0, 1) := by decide +kernel
theorem dX12_combine_207 : decode cX12_combine 207 = .ok (.getfield 116, 3) := by decide +kernel
theorem dX12_combine_210 : decode cX12_combine 210 = .ok (.iload_n 3, 1) := by decide +kernel
theorem dX12_combine_211 : decode cX12_combine 211 = .ok (.dup2, 1) := by decide +kernel
theorem dX12_combine_212 : decode cX12_combine 212 = .ok (.iaload, 1) := by decide +kernel
theorem dX12_combine_213 : decode cX12_combine 213 = .ok (.iconst 1, 1) := by decide +kernel
theorem dX12_combine_214 : decode cX12_combine 214 = .ok (.isub, 1) := by decide +kernel
theorem dX12_combine_215 : decode cX12_combine 215 = .ok (.iastore, 1) := by decide +kernel
theorem dX12_combine_216 : decode cX12_combine 216 = .ok (.iload_n 1, 1) := by decide +kernel
theorem dX12_combine_217 : decode cX12_combine 217 = .ok (.iconst 3, 1) := by decide +kernel
theorem dX12_combine_218 : decode cX12_combine 218 = .ok (.if_icmp .ge 27, 3) := by decide +kernel
theorem dX12_combine_221 : decode cX12_combine 221 = .ok (.aload_n 0, 1) := by decide +kernel
theorem dX12_combine_222 : decode cX12_combine 222 = .ok (.getfield 116, 3) := by decide +kernel
theorem dX12_combine_225 : decode cX12_combine 225 = .ok (.iload_n 3, 1) := by decide +kernel
theorem dX12_combine_226 : decode cX12_combine 226 = .ok (.iaload, 1) := by decide +kernel
theorem dX12_combine_227 : decode cX12_combine 227 = .ok (.ifCond .ne 18, 3) := by decide +kernel
theorem dX12_combine_230 : decode cX12_combine 230 = .ok (.aload_n 0, 1) := by decide +kernel
theorem dX12_combine_231 : decode cX12_combine 231 = .ok (.iload_n 3, 1) := by decide +kernel
theorem dX12_combine_232 : decode cX12_combine 232 = .ok (.iload_n 1, 1) := by decide +kernel
theorem dX12_combine_233 : decode cX12_combine 233 = .ok (.iconst 2, 1) := by decide +kernel
theorem dX12_combine_234 : decode cX12_combine 234 = .ok (.if_icmp .ne 7, 3) := by decide +kernel
theorem dX12_combine_237 : decode cX12_combine 237 = .ok (.iconst 1, 1) := by decide +kernel
theorem dX12_combine_238 : decode cX12_combine 238 = .ok (.goto 4, 3) := by decide +kernel
theorem dX12_combine_241 : decode cX12_combine 241 = .ok (.iconst 0, 1) := by decide +kernel
theorem dX12_combine_242 : decode cX12_combine 242 = .ok (.invokevirtual 224, 3) := by decide +kernel
theorem dX12_combine_245 : decode cX12_combine 245 = .ok (.aload_n 0, 1) := by decide +kernel
theorem dX12_combine_246 : decode cX12_combine 246 = .ok (.getfield 44, 3) := by decide +kernel
theorem dX12_combine_249 : decode cX12_combine 249 = .ok (.iload_n 2, 1) := by decide +kernel
theorem dX12_combine_250 : decode cX12_combine 250 = .ok (.iaload, 1) := by decide +kernel
theorem dX12_combine_251 : decode cX12_combine 251 = .ok (.invokestatic 155, 3) := by decide +kernel
theorem dX12_combine_254 : decode cX12_combine 254 = .ok (.ireturn, 1) := by decide +kernel
theorem dX12_async_0 : decode cX12_async 0 = .ok (.aload_n 0, 1) := by decide +kernel
theorem dX12_async_1 : decode cX12_async 1 = .ok (.iconst 0, 1) := by decide +kernel
theorem dX12_async_2 : decode cX12_async 2 = .ok (.putfield 131, 3) := by decide +kernel
theorem dX12_async_5 : decode cX12_async 5 = .ok (.aload_n 0, 1) := by decide +kernel
theorem dX12_async_6 : decode cX12_async 6 = .ok (.iload_n 1, 1) := by decide +kernel
theorem dX12_async_7 : decode cX12_async 7 = .ok (.invokevirtual 260, 3) := by decide +kernel
theorem dX12_async_10 : decode cX12_async 10 = .ok (.ifCond .eq 16, 3) := by decide +kernel
theorem dX12_async_13 : decode cX12_async 13 = .ok (.iload_n 2, 1) := by decide +kernel
theorem dX12_async_14 : decode cX12_async 14 = .ok (.iconst (-1), 1) := by decide +kernel
theorem dX12_async_15 : decode cX12_async 15 = .ok (.if_icmp .eq 17, 3) := by decide +kernel
theorem dX12_async_18 : decode cX12_async 18 = .ok (.aload_n 0, 1) := by decide +kernel
theorem dX12_async_19 : decode cX12_async 19 = .ok (.iload_n 2, 1) := by decide +kernel
theorem dX12_async_20 : decode cX12_async 20 = .ok (.invokevirtual 266, 3) := by decide +kernel
theorem dX12_async_23 : decode cX12_async 23 = .ok (.ifCond .ne 9, 3) := by decide +kernel
theorem dX12_async_26 : decode cX12_async 26 = .ok (.aload_n 0, 1) := by decide +kernel
theorem dX12_async_27 : decode cX12_async 27 = .ok (.iconst 1, 1) := by decide +kernel
theorem dX12_async_28 : decode cX12_async 28 = .ok (.invokevirtual 257, 3) := by decide +kernel
theorem dX12_async_31 : decode cX12_async 31 = .ok (.ireturn, 1) := by decide +kernel
theorem dX12_async_32 : decode cX12_async 32 = .ok (.aload_n 0, 1) := by decide +kernel
theorem dX12_async_33 : decode cX12_async 33 = .ok (.bipush 8, 2) := by decide +kernel
theorem dX12_async_35 : decode cX12_async 35 = .ok (.invokevirtual 254, 3) := by decide +kernel
theorem dX12_async_38 : decode cX12_async 38 = .ok (.ifCond .eq 9, 3) := by decide +kernel
theorem dX12_async_41 : decode cX12_async 41 = .ok (.aload_n 0, 1) := by decide +kernel
theorem dX12_async_42 : decode cX12_async 42 = .ok (.iconst 2, 1) := by decide +kernel
theorem dX12_async_43 : decode cX12_async 43 = .ok (.invokevirtual 257, 3) := by decide +kernel
theorem dX12_async_46 : decode cX12_async 46 = .ok (.ireturn, 1) := by decide +kernel
theorem dX12_async_47 : decode cX12_async 47 = .ok (.aload_n 0, 1) := by decide +kernel
theorem dX12_async_48 : decode cX12_async 48 = .ok (.invokevirtual 171, 3) := by decide +kernel
theorem dX12_async_51 : decode cX12_async 51 = .ok (.istore_n 3, 1) := by decide +kernel
theorem dX12_async_52 : decode cX12_async 52 = .ok (.aload_n 0, 1) := by decide +kernel
theorem dX12_async_53 : decode cX12_async 53 = .ok (.invokevirtual 269, 3) := by decide +kernel
theorem dX12_async_56 : decode cX12_async 56 = .ok (.istore 4, 2) := by decide +kernel
theorem dX12_async_58 : decode cX12_async 58 = .ok (.aload_n 0, 1) := by decide +kernel
theorem dX12_async_59 : decode cX12_async 59 = .ok (.getfield 119, 3) := by decide +kernel
theorem dX12_async_62 : decode cX12_async 62 = .ok (.iload 4, 2) := by decide +kernel
theorem dX12_async_64 : decode cX12_async 64 = .ok (.iload_n 3, 1) := by decide +kernel
theorem dX12_async_65 : decode cX12_async 65 = .ok (.iastore, 1) := by decide +kernel
theorem dX12_async_66 : decode cX12_async 66 = .ok (.aload_n 0, 1) := by decide +kernel
theorem dX12_async_67 : decode cX12_async 67 = .ok (.getfield 128, 3) := by decide +kernel
theorem dX12_async_70 : decode cX12_async 70 = .ok (.iload 4, 2) := by decide +kernel
theorem dX12_async_72 : decode cX12_async 72 = .ok (.iconst 0, 1) := by decide +kernel
theorem dX12_async_73 : decode cX12_async 73 = .ok (.iastore, 1) := by decide +kernel
theorem dX12_async_74 : decode cX12_async 74 = .ok (.aload_n 0, 1) := by decide +kernel
theorem dX12_async_75 : decode cX12_async 75 = .ok (.getfield 122, 3) := by decide +kernel
theorem dX12_async_78 : decode cX12_async 78 = .ok (.iload 4, 2) := by decide +kernel
theorem dX12_async_80 : decode cX12_async 80 = .ok (.iload_n 1, 1) := by decide +kernel
theorem dX12_async_81 : decode cX12_async 81 = .ok (.iastore, 1) := by decide +kernel
theorem dX12_async_82 : decode cX12_async 82 = .ok (.aload_n 0, 1) := by decide +kernel
theorem dX12_async_83 : decode cX12_async 83 = .ok (.getfield 125, 3) := by decide +kernel
theorem dX12_async_86 : decode cX12_async 86 = .ok (.iload 4, 2) := by decide +kernel
theorem dX12_async_88 : decode cX12_async 88 = .ok (.iload_n 2, 1) := by decide +kernel
theorem dX12_async_89 : decode cX12_async 89 = .ok (.iastore, 1) := by decide +kernel
theorem dX12_async_90 : decode cX12_async 90 = .ok (.aload_n 0, 1) := by decide +kernel
theorem dX12_async_91 : decode cX12_async 91 = .ok (.iload 4, 2) := by decide +kernel
theorem dX12_async_93 : decode cX12_async 93 = .ok (.invokevirtual 244, 3) := by decide +kernel
theorem dX12_async_96 : decode cX12_async 96 = .ok (.aload_n 0, 1) := by decide +kernel
theorem dX12_async_97 : decode cX12_async 97 = .ok (.getfield 44, 3) := by decide +kernel
theorem dX12_async_100 : decode cX12_async 100 = .ok (.iload_n 3, 1) := by decide +kernel
theorem dX12_async_101 : decode cX12_async 101 = .ok (.iaload, 1) := by decide +kernel
theorem dX12_async_102 : decode cX12_async 102 = .ok (.invokestatic 155, 3) := by decide +kernel
theorem dX12_async_105 : decode cX12_async 105 = .ok (.ireturn, 1) := by decide +kernel
theorem dX12_jobs_0 : decode cX12_jobs 0 = .ok (.aload_n 0, 1) := by decide +kernel
theorem dX12_jobs_1 : decode cX12_jobs 1 = .ok (.iconst 0, 1) := by decide +kernel
theorem dX12_jobs_2 : decode cX12_jobs 2 = .ok (.putfield 131, 3) := by decide +kernel
theorem dX12_jobs_5 : decode cX12_jobs 5 = .ok (.iconst 0, 1) := by decide +kernel
theorem dX12_jobs_6 : decode cX12_jobs 6 = .ok (.istore_n 2, 1) := by decide +kernel
theorem dX12_jobs_7 : decode cX12_jobs 7 = .ok (.iload_n 2, 1) := by decide +kernel
theorem dX12_jobs_8 : decode cX12_jobs 8 = .ok (.iload_n 1, 1) := by decide +kernel
theorem dX12_jobs_9 : decode cX12_jobs 9 = .ok (.if_icmp .ge 49, 3) := by decide +kernel
theorem dX12_jobs_12 : decode cX12_jobs 12 = .ok (.aload_n 0, 1) := by decide +kernel
theorem dX12_jobs_13 : decode cX12_jobs 13 = .ok (.getfield 231, 3) := by decide +kernel
theorem dX12_jobs_16 : decode cX12_jobs 16 = .ok (.aload_n 0, 1) := by decide +kernel
theorem dX12_jobs_17 : decode cX12_jobs 17 = .ok (.getfield 162, 3) := by decide +kernel
theorem dX12_jobs_20 : decode cX12_jobs 20 = .ok (.if_icmp .ge 38, 3) := by decide +kernel
theorem dX12_jobs_23 : decode cX12_jobs 23 = .ok (.aload_n 0, 1) := by decide +kernel
theorem dX12_jobs_24 : decode cX12_jobs 24 = .ok (.bipush 8, 2) := by decide +kernel
theorem dX12_jobs_26 : decode cX12_jobs 26 = .ok (.invokevirtual 254, 3) := by decide +kernel
theorem dX12_jobs_29 : decode cX12_jobs 29 = .ok (.ifCond .ne 13, 3) := by decide +kernel
theorem dX12_jobs_32 : decode cX12_jobs 32 = .ok (.aload_n 0, 1) := by decide +kernel
theorem dX12_jobs_33 : decode cX12_jobs 33 = .ok (.getfield 187, 3) := by decide +kernel
theorem dX12_jobs_36 : decode cX12_jobs 36 = .ok (.sipush 4000, 3) := by decide +kernel
theorem dX12_jobs_39 : decode cX12_jobs 39 = .ok (.if_icmp .lt 9, 3) := by decide +kernel
theorem dX12_jobs_42 : decode cX12_jobs 42 = .ok (.aload_n 0, 1) := by decide +kernel
theorem dX12_jobs_43 : decode cX12_jobs 43 = .ok (.iconst 1, 1) := by decide +kernel
theorem dX12_jobs_44 : decode cX12_jobs 44 = .ok (.invokevirtual 257, 3) := by decide +kernel
theorem dX12_jobs_47 : decode cX12_jobs 47 = .ok (.ireturn, 1) := by decide +kernel
theorem dX12_jobs_48 : decode cX12_jobs 48 = .ok (.aload_n 0, 1) := by decide +kernel
theorem dX12_jobs_49 : decode cX12_jobs 49 = .ok (.invokevirtual 272, 3) := by decide +kernel
theorem dX12_jobs_52 : decode cX12_jobs 52 = .ok (.iinc 2 1, 3) := by decide +kernel
theorem dX12_jobs_55 : decode cX12_jobs 55 = .ok (.goto (-48), 3) := by decide +kernel
theorem dX12_jobs_58 : decode cX12_jobs 58 = .ok (.iload_n 2, 1) := by decide +kernel
theorem dX12_jobs_59 : decode cX12_jobs 59 = .ok (.ireturn, 1) := by decide +kernel
theorem dX12_state_0 : decode cX12_state 0 = .ok (.aload_n 0, 1) := by decide +kernel
theorem dX12_state_1 : decode cX12_state 1 = .ok (.iconst 0, 1) := by decide +kernel
theorem dX12_state_2 : decode cX12_state 2 = .ok (.putfield 131, 3) := by decide +kernel
theorem dX12_state_5 : decode cX12_state 5 = .ok (.aload_n 0, 1) := by decide +kernel
theorem dX12_state_6 : decode cX12_state 6 = .ok (.iload_n 1, 1) := by decide +kernel
theorem dX12_state_7 : decode cX12_state 7 = .ok (.iconst 0, 1) := by decide +kernel
theorem dX12_state_8 : decode cX12_state 8 = .ok (.invokevirtual 179, 3) := by decide +kernel
theorem dX12_state_11 : decode cX12_state 11 = .ok (.ifCond .ne 9, 3) := by decide +kernel
theorem dX12_state_14 : decode cX12_state 14 = .ok (.aload_n 0, 1) := by decide +kernel
theorem dX12_state_15 : decode cX12_state 15 = .ok (.iconst 1, 1) := by decide +kernel
theorem dX12_state_16 : decode cX12_state 16 = .ok (.invokevirtual 257, 3) := by decide +kernel
theorem dX12_state_19 : decode cX12_state 19 = .ok (.ireturn, 1) := by decide +kernel
theorem dX12_state_20 : decode cX12_state 20 = .ok (.aload_n 0, 1) := by decide +kernel
theorem dX12_state_21 : decode cX12_state 21 = .ok (.getfield 13, 3) := by decide +kernel
theorem dX12_state_24 : decode cX12_state 24 = .ok (.bipush (-2), 2) := by decide +kernel
theorem dX12_state_26 : decode cX12_state 26 = .ok (.iload_n 1, 1) := by decide +kernel
theorem dX12_state_27 : decode cX12_state 27 = .ok (.isub, 1) := by decide +kernel
theorem dX12_state_28 : decode cX12_state 28 = .ok (.iaload, 1) := by decide +kernel
theorem dX12_state_29 : decode cX12_state 29 = .ok (.aload_n 0, 1) := by decide +kernel
theorem dX12_state_30 : decode cX12_state 30 = .ok (.getfield 25, 3) := by decide +kernel
theorem dX12_state_33 : decode cX12_state 33 = .ok (.bipush (-2), 2) := by decide +kernel
theorem dX12_state_35 : decode cX12_state 35 = .ok (.iload_n 1, 1) := by decide +kernel
theorem dX12_state_36 : decode cX12_state 36 = .ok (.isub, 1) := by decide +kernel
theorem dX12_state_37 : decode cX12_state 37 = .ok (.baload, 1) := by decide +kernel
theorem dX12_state_38 : decode cX12_state 38 = .ok (.ifCond .eq 7, 3) := by decide +kernel
theorem dX12_state_41 : decode cX12_state 41 = .ok (.iconst 4, 1) := by decide +kernel
theorem dX12_state_42 : decode cX12_state 42 = .ok (.goto 4, 3) := by decide +kernel
theorem dX12_state_45 : decode cX12_state 45 = .ok (.iconst 0, 1) := by decide +kernel
theorem dX12_state_46 : decode cX12_state 46 = .ok (.iadd, 1) := by decide +kernel
theorem dX12_state_47 : decode cX12_state 47 = .ok (.ireturn, 1) := by decide +kernel
theorem dX12_result_0 : decode cX12_result 0 = .ok (.aload_n 0, 1) := by decide +kernel
theorem dX12_result_1 : decode cX12_result 1 = .ok (.iconst 0, 1) := by decide +kernel
theorem dX12_result_2 : decode cX12_result 2 = .ok (.putfield 131, 3) := by decide +kernel
theorem dX12_result_5 : decode cX12_result 5 = .ok (.aload_n 0, 1) := by decide +kernel
theorem dX12_result_6 : decode cX12_result 6 = .ok (.iload_n 1, 1) := by decide +kernel
theorem dX12_result_7 : decode cX12_result 7 = .ok (.iconst 0, 1) := by decide +kernel
theorem dX12_result_8 : decode cX12_result 8 = .ok (.invokevirtual 179, 3) := by decide +kernel
theorem dX12_result_11 : decode cX12_result 11 = .ok (.ifCond .eq 15, 3) := by decide +kernel
theorem dX12_result_14 : decode cX12_result 14 = .ok (.aload_n 0, 1) := by decide +kernel
theorem dX12_result_15 : decode cX12_result 15 = .ok (.getfield 16, 3) := by decide +kernel
theorem dX12_result_18 : decode cX12_result 18 = .ok (.bipush (-2), 2) := by decide +kernel
theorem dX12_result_20 : decode cX12_result 20 = .ok (.iload_n 1, 1) := by decide +kernel
theorem dX12_result_21 : decode cX12_result 21 = .ok (.isub, 1) := by decide +kernel
theorem dX12_result_22 : decode cX12_result 22 = .ok (.iaload, 1) := by decide +kernel
theorem dX12_result_23 : decode cX12_result 23 = .ok (.goto 8, 3) := by decide +kernel
theorem dX12_result_26 : decode cX12_result 26 = .ok (.aload_n 0, 1) := by decide +kernel
theorem dX12_result_27 : decode cX12_result 27 = .ok (.iconst 1, 1) := by decide +kernel
theorem dX12_result_28 : decode cX12_result 28 = .ok (.invokevirtual 257, 3) := by decide +kernel
theorem dX12_result_31 : decode cX12_result 31 = .ok (.ireturn, 1) := by decide +kernel
theorem dX12_kind_0 : decode cX12_kind 0 = .ok (.aload_n 0, 1) := by decide +kernel
theorem dX12_kind_1 : decode cX12_kind 1 = .ok (.iconst 0, 1) := by decide +kernel
theorem dX12_kind_2 : decode cX12_kind 2 = .ok (.putfield 131, 3) := by decide +kernel
theorem dX12_kind_5 : decode cX12_kind 5 = .ok (.aload_n 0, 1) := by decide +kernel
theorem dX12_kind_6 : decode cX12_kind 6 = .ok (.iload_n 1, 1) := by decide +kernel
theorem dX12_kind_7 : decode cX12_kind 7 = .ok (.invokevirtual 138, 3) := by decide +kernel
theorem dX12_kind_10 : decode cX12_kind 10 = .ok (.ifCond .eq 15, 3) := by decide +kernel
theorem dX12_kind_13 : decode cX12_kind 13 = .ok (.aload_n 0, 1) := by decide +kernel
theorem dX12_kind_14 : decode cX12_kind 14 = .ok (.getfield 7, 3) := by decide +kernel
theorem dX12_kind_17 : decode cX12_kind 17 = .ok (.bipush (-2), 2) := by decide +kernel
theorem dX12_kind_19 : decode cX12_kind 19 = .ok (.iload_n 1, 1) := by decide +kernel
theorem dX12_kind_20 : decode cX12_kind 20 = .ok (.isub, 1) := by decide +kernel
theorem dX12_kind_21 : decode cX12_kind 21 = .ok (.iaload, 1) := by decide +kernel
theorem dX12_kind_22 : decode cX12_kind 22 = .ok (.goto 8, 3) := by decide +kernel
theorem dX12_kind_25 : decode cX12_kind 25 = .ok (.aload_n 0, 1) := by decide +kernel
theorem dX12_kind_26 : decode cX12_kind 26 = .ok (.iconst 1, 1) := by decide +kernel
theorem dX12_kind_27 : decode cX12_kind 27 = .ok (.invokevirtual 257, 3) := by decide +kernel
theorem dX12_kind_30 : decode cX12_kind 30 = .ok (.ireturn, 1) := by decide +kernel
theorem dX12_part_0 : decode cX12_part 0 = .ok (.aload_n 0, 1) := by decide +kernel
theorem dX12_part_1 : decode cX12_part 1 = .ok (.iconst 0, 1) := by decide +kernel
theorem dX12_part_2 : decode cX12_part 2 = .ok (.putfield 131, 3) := by decide +kernel
theorem dX12_part_5 : decode cX12_part 5 = .ok (.aload_n 0, 1) := by decide +kernel
theorem dX12_part_6 : decode cX12_part 6 = .ok (.iload_n 1, 1) := by decide +kernel
theorem dX12_part_7 : decode cX12_part 7 = .ok (.invokevirtual 138, 3) := by decide +kernel
theorem dX12_part_10 : decode cX12_part 10 = .ok (.ifCond .ne 9, 3) := by decide +kernel
theorem dX12_part_13 : decode cX12_part 13 = .ok (.aload_n 0, 1) := by decide +kernel
theorem dX12_part_14 : decode cX12_part 14 = .ok (.iconst 1, 1) := by decide +kernel
theorem dX12_part_15 : decode cX12_part 15 = .ok (.invokevirtual 257, 3) := by decide +kernel
theorem dX12_part_18 : decode cX12_part 18 = .ok (.ireturn, 1) := by decide +kernel
theorem dX12_part_19 : decode cX12_part 19 = .ok (.bipush (-2), 2) := by decide +kernel
theorem dX12_part_21 : decode cX12_part 21 = .ok (.iload_n 1, 1) := by decide +kernel
theorem dX12_part_22 : decode cX12_part 22 = .ok (.isub, 1) := by decide +kernel
theorem dX12_part_23 : decode cX12_part 23 = .ok (.istore_n 3, 1) := by decide +kernel
theorem dX12_part_24 : decode cX12_part 24 = .ok (.aload_n 0, 1) := by decide +kernel
theorem dX12_part_25 : decode cX12_part 25 = .ok (.getfield 7, 3) := by decide +kernel
theorem dX12_part_28 : decode cX12_part 28 = .ok (.iload_n 3, 1) := by decide +kernel
theorem dX12_part_29 : decode cX12_part 29 = .ok (.iaload, 1) := by decide +kernel
theorem dX12_part_30 : decode cX12_part 30 = .ok (.iconst 5, 1) := by decide +kernel
theorem dX12_part_31 : decode cX12_part 31 = .ok (.if_icmp .ne 45, 3) := by decide +kernel
theorem dX12_part_34 : decode cX12_part 34 = .ok (.iload_n 2, 1) := by decide +kernel
theorem dX12_part_35 : decode cX12_part 35 = .ok (.iconst (-1), 1) := by decide +kernel
theorem dX12_part_36 : decode cX12_part 36 = .ok (.if_icmp .ne 7, 3) := by decide +kernel
theorem dX12_part_39 : decode cX12_part 39 = .ok (.iconst 2, 1) := by decide +kernel
theorem dX12_part_40 : decode cX12_part 40 = .ok (.goto 35, 3) := by decide +kernel
theorem dX12_part_43 : decode cX12_part 43 = .ok (.iload_n 2, 1) := by decide +kernel
theorem dX12_part_44 : decode cX12_part 44 = .ok (.ifCond .ne 12, 3) := by decide +kernel
theorem dX12_part_47 : decode cX12_part 47 = .ok (.aload_n 0, 1) := by decide +kernel
theorem dX12_part_48 : decode cX12_part 48 = .ok (.getfield 29, 3) := by decide +kernel
theorem dX12_part_51 : decode cX12_part 51 = .ok (.iload_n 3, 1) := by decide +kernel
theorem dX12_part_52 : decode cX12_part 52 = .ok (.iaload, 1) := by decide +kernel
theorem dX12_part_53 : decode cX12_part 53 = .ok (.goto 22, 3) := by decide +kernel
theorem dX12_part_56 : decode cX12_part 56 = .ok (.iload_n 2, 1) := by decide +kernel
theorem dX12_part_57 : decode cX12_part 57 = .ok (.iconst 1, 1) := by decide +kernel
theorem dX12_part_58 : decode cX12_part 58 = .ok (.if_icmp .ne 12, 3) := by decide +kernel
theorem dX12_part_61 : decode cX12_part 61 = .ok (.aload_n 0, 1) := by decide +kernel
theorem dX12_part_62 : decode cX12_part 62 = .ok (.getfield 32, 3) := by decide +kernel
theorem dX12_part_65 : decode cX12_part 65 = .ok (.iload_n 3, 1) := by decide +kernel
theorem dX12_part_66 : decode cX12_part 66 = .ok (.iaload, 1) := by decide +kernel
theorem dX12_part_67 : decode cX12_part 67 = .ok (.goto 8, 3) := by decide +kernel
theorem dX12_part_70 : decode cX12_part 70 = .ok (.aload_n 0, 1) := by decide +kernel
theorem dX12_part_71 : decode cX12_part 71 = .ok (.iconst 1, 1) := by decide +kernel
theorem dX12_part_72 : decode cX12_part 72 = .ok (.invokevirtual 257, 3) := by decide +kernel
theorem dX12_part_75 : decode cX12_part 75 = .ok (.ireturn, 1) := by decide +kernel
theorem dX12_part_76 : decode cX12_part 76 = .ok (.aload_n 0, 1) := by decide +kernel
theorem dX12_part_77 : decode cX12_part 77 = .ok (.getfield 7, 3) := by decide +kernel
theorem dX12_part_80 : decode cX12_part 80 = .ok (.iload_n 3, 1) := by decide +kernel
theorem dX12_part_81 : decode cX12_part 81 = .ok (.iaload, 1) := by decide +kernel
theorem dX12_part_82 : decode cX12_part 82 = .ok (.iconst 4, 1) := by decide +kernel
theorem dX12_part_83 : decode cX12_part 83 = .ok (.if_icmp .eq 13, 3) := by decide +kernel
theorem dX12_part_86 : decode cX12_part 86 = .ok (.aload_n 0, 1) := by decide +kernel
theorem dX12_part_87 : decode cX12_part 87 = .ok (.getfield 7, 3) := by decide +kernel
theorem dX12_part_90 : decode cX12_part 90 = .ok (.iload_n 3, 1) := by decide +kernel
theorem dX12_part_91 : decode cX12_part 91 = .ok (.iaload, 1) := by decide +kernel
theorem dX12_part_92 : decode cX12_part 92 = .ok (.iconst 3, 1) := by decide +kernel
theorem dX12_part_93 : decode cX12_part 93 = .ok (.if_icmp .ne 18, 3) := by decide +kernel
theorem dX12_part_96 : decode cX12_part 96 = .ok (.iload_n 2, 1) := by decide +kernel
theorem dX12_part_97 : decode cX12_part 97 = .ok (.iconst (-1), 1) := by decide +kernel
theorem dX12_part_98 : decode cX12_part 98 = .ok (.if_icmp .lt 13, 3) := by decide +kernel
theorem dX12_part_101 : decode cX12_part 101 = .ok (.iload_n 2, 1) := by decide +kernel
theorem dX12_part_102 : decode cX12_part 102 = .ok (.aload_n 0, 1) := by decide +kernel
theorem dX12_part_103 : decode cX12_part 103 = .ok (.getfield 32, 3) := by decide +kernel
theorem dX12_part_106 : decode cX12_part 106 = .ok (.iload_n 3, 1) := by decide +kernel
theorem dX12_part_107 : decode cX12_part 107 = .ok (.iaload, 1) := by decide +kernel
theorem dX12_part_108 : decode cX12_part 108 = .ok (.if_icmp .lt 9, 3) := by decide +kernel
theorem dX12_part_111 : decode cX12_part 111 = .ok (.aload_n 0, 1) := by decide +kernel
theorem dX12_part_112 : decode cX12_part 112 = .ok (.iconst 1, 1) := by decide +kernel
theorem dX12_part_113 : decode cX12_part 113 = .ok (.invokevirtual 257, 3) := by decide +kernel
theorem dX12_part_116 : decode cX12_part 116 = .ok (.ireturn, 1) := by decide +kernel
theorem dX12_part_117 : decode cX12_part 117 = .ok (.iload_n 2, 1) := by decide +kernel
theorem dX12_part_118 : decode cX12_part 118 = .ok (.iconst (-1), 1) := by decide +kernel
theorem dX12_part_119 : decode cX12_part 119 = .ok (.if_icmp .ne 12, 3) := by decide +kernel
theorem dX12_part_122 : decode cX12_part 122 = .ok (.aload_n 0, 1) := by decide +kernel
theorem dX12_part_123 : decode cX12_part 123 = .ok (.getfield 32, 3) := by decide +kernel
theorem dX12_part_126 : decode cX12_part 126 = .ok (.iload_n 3, 1) := by decide +kernel
theorem dX12_part_127 : decode cX12_part 127 = .ok (.iaload, 1) := by decide +kernel
theorem dX12_part_128 : decode cX12_part 128 = .ok (.goto 16, 3) := by decide +kernel
theorem dX12_part_131 : decode cX12_part 131 = .ok (.aload_n 0, 1) := by decide +kernel
theorem dX12_part_132 : decode cX12_part 132 = .ok (.getfield 101, 3) := by decide +kernel
theorem dX12_part_135 : decode cX12_part 135 = .ok (.aload_n 0, 1) := by decide +kernel
theorem dX12_part_136 : decode cX12_part 136 = .ok (.getfield 29, 3) := by decide +kernel
theorem dX12_part_139 : decode cX12_part 139 = .ok (.iload_n 3, 1) := by decide +kernel
theorem dX12_part_140 : decode cX12_part 140 = .ok (.iaload, 1) := by decide +kernel
theorem dX12_part_141 : decode cX12_part 141 = .ok (.iload_n 2, 1) := by decide +kernel
theorem dX12_part_142 : decode cX12_part 142 = .ok (.iadd, 1) := by decide +kernel
theorem dX12_part_143 : decode cX12_part 143 = .ok (.iaload, 1) := by decide +kernel
theorem dX12_part_144 : decode cX12_part 144 = .ok (.ireturn, 1) := by decide +kernel
theorem dX12_log_0 : decode cX12_log 0 = .ok (.aload_n 0, 1) := by decide +kernel
theorem dX12_log_1 : decode cX12_log 1 = .ok (.iconst 0, 1) := by decide +kernel
theorem dX12_log_2 : decode cX12_log 2 = .ok (.putfield 131, 3) := by decide +kernel
theorem dX12_log_5 : decode cX12_log 5 = .ok (.iload_n 1, 1) := by decide +kernel
theorem dX12_log_6 : decode cX12_log 6 = .ok (.ifCond .lt 11, 3) := by decide +kernel
theorem dX12_log_9 : decode cX12_log 9 = .ok (.iload_n 1, 1) := by decide +kernel
theorem dX12_log_10 : decode cX12_log 10 = .ok (.aload_n 0, 1) := by decide +kernel
theorem dX12_log_11 : decode cX12_log 11 = .ok (.getfield 187, 3) := by decide +kernel
theorem dX12_log_14 : decode cX12_log 14 = .ok (.if_icmp .lt 7, 3) := by decide +kernel
theorem dX12_log_17 : decode cX12_log 17 = .ok (.ldc_w 275, 3) := by decide +kernel
theorem dX12_log_20 : decode cX12_log 20 = .ok (.ireturn, 1) := by decide +kernel
theorem dX12_log_21 : decode cX12_log 21 = .ok (.iload_n 2, 1) := by decide +kernel
theorem dX12_log_22 : decode cX12_log 22 = .ok (.ifCond .eq 12, 3) := by decide +kernel
theorem dX12_log_25 : decode cX12_log 25 = .ok (.aload_n 0, 1) := by decide +kernel
theorem dX12_log_26 : decode cX12_log 26 = .ok (.getfield 95, 3) := by decide +kernel
theorem dX12_log_29 : decode cX12_log 29 = .ok (.iload_n 1, 1) := by decide +kernel
theorem dX12_log_30 : decode cX12_log 30 = .ok (.iaload, 1) := by decide +kernel
theorem dX12_log_31 : decode cX12_log 31 = .ok (.goto 9, 3) := by decide +kernel
theorem dX12_log_34 : decode cX12_log 34 = .ok (.aload_n 0, 1) := by decide +kernel
theorem dX12_log_35 : decode cX12_log 35 = .ok (.getfield 92, 3) := by decide +kernel
theorem dX12_log_38 : decode cX12_log 38 = .ok (.iload_n 1, 1) := by decide +kernel
theorem dX12_log_39 : decode cX12_log 39 = .ok (.iaload, 1) := by decide +kernel
theorem dX12_log_40 : decode cX12_log 40 = .ok (.ireturn, 1) := by decide +kernel
theorem dX12_count_0 : decode cX12_count 0 = .ok (.aload_n 0, 1) := by decide +kernel
theorem dX12_count_1 : decode cX12_count 1 = .ok (.iconst 0, 1) := by decide +kernel
theorem dX12_count_2 : decode cX12_count 2 = .ok (.putfield 131, 3) := by decide +kernel
theorem dX12_count_5 : decode cX12_count 5 = .ok (.iload_n 1, 1) := by decide +kernel
theorem dX12_count_6 : decode cX12_count 6 = .ok (.tableswitch 64 0 4 #[34, 39, 49, 54, 59], 34) := by decide +kernel
theorem dX12_count_40 : decode cX12_count 40 = .ok (.aload_n 0, 1) := by decide +kernel
theorem dX12_count_41 : decode cX12_count 41 = .ok (.getfield 135, 3) := by decide +kernel
theorem dX12_count_44 : decode cX12_count 44 = .ok (.ireturn, 1) := by decide +kernel
theorem dX12_count_45 : decode cX12_count 45 = .ok (.aload_n 0, 1) := by decide +kernel
theorem dX12_count_46 : decode cX12_count 46 = .ok (.getfield 162, 3) := by decide +kernel
theorem dX12_count_49 : decode cX12_count 49 = .ok (.aload_n 0, 1) := by decide +kernel
theorem dX12_count_50 : decode cX12_count 50 = .ok (.getfield 231, 3) := by decide +kernel
theorem dX12_count_53 : decode cX12_count 53 = .ok (.isub, 1) := by decide +kernel
theorem dX12_count_54 : decode cX12_count 54 = .ok (.ireturn, 1) := by decide +kernel
theorem dX12_count_55 : decode cX12_count 55 = .ok (.aload_n 0, 1) := by decide +kernel
theorem dX12_count_56 : decode cX12_count 56 = .ok (.getfield 187, 3) := by decide +kernel
theorem dX12_count_59 : decode cX12_count 59 = .ok (.ireturn, 1) := by decide +kernel
theorem dX12_count_60 : decode cX12_count 60 = .ok (.aload_n 0, 1) := by decide +kernel
theorem dX12_count_61 : decode cX12_count 61 = .ok (.getfield 251, 3) := by decide +kernel
theorem dX12_count_64 : decode cX12_count 64 = .ok (.ireturn, 1) := by decide +kernel
theorem dX12_count_65 : decode cX12_count 65 = .ok (.aload_n 0, 1) := by decide +kernel
theorem dX12_count_66 : decode cX12_count 66 = .ok (.getfield 142, 3) := by decide +kernel
theorem dX12_count_69 : decode cX12_count 69 = .ok (.ireturn, 1) := by decide +kernel
theorem dX12_count_70 : decode cX12_count 70 = .ok (.aload_n 0, 1) := by decide +kernel
theorem dX12_count_71 : decode cX12_count 71 = .ok (.iconst 1, 1) := by decide +kernel
theorem dX12_count_72 : decode cX12_count 72 = .ok (.invokevirtual 257, 3) := by decide +kernel
theorem dX12_count_75 : decode cX12_count 75 = .ok (.ireturn, 1) := by decide +kernel
end
section
/-! THE REFERENCE'S WORLD: its object and its arrays, as one function M of (field, place) -/
abbrev MS : Type := Nat → Nat → Int32
def mset (M : MS) (k : Nat) (f : Nat → Int32) : MS := fun j => if j = k then f else M j
def mput (M : MS) (k i : Nat) (x : Int32) : MS := mset M k (upd (M k) i x)
/-- the classes of int[] and boolean[], the object's address, its arrays' addresses -/
abbrev MG : Type := ClassId × ClassId × Nat × (Nat → Nat)
def mfs (G : MG) (M : MS) : List Value := [.int (M 0 0), .int (M 1 0), .ref (G.2.2.2 2), .ref (G.2.2.2 3), .ref (G.2.2.2 4), .ref (G.2.2.2 5), .ref (G.2.2.2 6), .ref (G.2.2.2 7), .ref (G.2.2.2 8), .ref (G.2.2.2 9), .ref (G.2.2.2 10), .ref (G.2.2.2 11), .ref (G.2.2.2 12), .ref (G.2.2.2 13), .ref (G.2.2.2 14), .int (M 15 0), .ref (G.2.2.2 16), .ref (G.2.2.2 17), .ref (G.2.2.2 18), .ref (G.2.2.2 19), .ref (G.2.2.2 20), .ref (G.2.2.2 21), .int (M 22 0), .ref (G.2.2.2 23), .ref (G.2.2.2 24), .ref (G.2.2.2 25), .ref (G.2.2.2 26), .ref (G.2.2.2 27), .ref (G.2.2.2 28), .int (M 29 0), .int (M 30 0), .ref (G.2.2.2 31), .ref (G.2.2.2 32), .int (M 33 0), .ref (G.2.2.2 34), .ref (G.2.2.2 35), .int (M 36 0), .ref (G.2.2.2 37), .int (M 38 0), .ref (G.2.2.2 39), .ref (G.2.2.2 40), .ref (G.2.2.2 41), .int (M 42 0), .ref (G.2.2.2 43), .ref (G.2.2.2 44), .ref (G.2.2.2 45), .ref (G.2.2.2 46), .ref (G.2.2.2 47), .ref (G.2.2.2 48), .ref (G.2.2.2 49), .int (M 50 0), .int (M 51 0)]
def mW (G : MG) (M : MS) : va_W := (G.2.2.1, .inr (12, mfs G M)) :: [(G.2.2.2 2, .inl (G.1, 3000, .inl (M 2))), (G.2.2.2 3, .inl (G.1, 3000, .inl (M 3))), (G.2.2.2 4, .inl (G.1, 3000, .inl (M 4))), (G.2.2.2 5, .inl (G.1, 3000, .inl (M 5))), (G.2.2.2 6, .inl (G.1, 3000, .inl (M 6))), (G.2.2.2 7, .inl (G.2.1, 3000, .inl (M 7))), (G.2.2.2 8, .inl (G.1, 3000, .inl (M 8))), (G.2.2.2 9, .inl (G.1, 3000, .inl (M 9))), (G.2.2.2 10, .inl (G.1, 3000, .inl (M 10))), (G.2.2.2 11, .inl (G.1, 3000, .inl (M 11))), (G.2.2.2 12, .inl (G.1, 3000, .inl (M 12))), (G.2.2.2 13, .inl (G.1, 12000, .inl (M 13))), (G.2.2.2 14, .inl (G.2.1, 12000, .inl (M 14))), (G.2.2.2 16, .inl (G.1, 12000, .inl (M 16))), (G.2.2.2 17, .inl (G.1, 12000, .inl (M 17))), (G.2.2.2 18, .inl (G.1, 12000, .inl (M 18))), (G.2.2.2 19, .inl (G.1, 12000, .inl (M 19))), (G.2.2.2 20, .inl (G.1, 12000, .inl (M 20))), (G.2.2.2 21, .inl (G.1, 12000, .inl (M 21))), (G.2.2.2 23, .inl (G.1, 24000, .inl (M 23))), (G.2.2.2 24, .inl (G.1, 24000, .inl (M 24))), (G.2.2.2 25, .inl (G.1, 24000, .inl (M 25))), (G.2.2.2 26, .inl (G.1, 24000, .inl (M 26))), (G.2.2.2 27, .inl (G.2.1, 24000, .inl (M 27))), (G.2.2.2 28, .inl (G.2.1, 24000, .inl (M 28))), (G.2.2.2 31, .inl (G.1, 1000, .inl (M 31))), (G.2.2.2 32, .inl (G.1, 1000, .inl (M 32))), (G.2.2.2 34, .inl (G.1, 4200, .inl (M 34))), (G.2.2.2 35, .inl (G.1, 4200, .inl (M 35))), (G.2.2.2 37, .inl (G.1, 200, .inl (M 37))), (G.2.2.2 39, .inl (G.1, 20000, .inl (M 39))), (G.2.2.2 40, .inl (G.1, 20000, .inl (M 40))), (G.2.2.2 41, .inl (G.2.1, 20000, .inl (M 41))), (G.2.2.2 43, .inl (G.1, 3000, .inl (M 43))), (G.2.2.2 44, .inl (G.1, 3000, .inl (M 44))), (G.2.2.2 45, .inl (G.1, 3000, .inl (M 45))), (G.2.2.2 46, .inl (G.1, 3000, .inl (M 46))), (G.2.2.2 47, .inl (G.1, 3000, .inl (M 47))), (G.2.2.2 48, .inl (G.1, 3000, .inl (M 48))), (G.2.2.2 49, .inl (G.1, 3000, .inl (M 49)))]
abbrev mT (G : MG) : List (ClassId × FieldType) := [(G.1, .int), (G.2.1, .boolean)]
def mOK (D : va_G) (A : Nat → Prop) (G : MG) (M : MS) (H0 H : Heap) (locs : List Loc) : Prop := va_P D vwCl (mW G M) H ∧ va_D A (mW G M) ∧ va_S A H0 H locs
abbrev mPre (D : va_G) (A : Nat → Prop) (G : MG) (M : MS) : State → Prop := fun U => va_P D vwCl (mW G M) U.heap ∧ va_K D vwCl (mT G) U ∧ va_D A (mW G M)
abbrev mPost (D : va_G) (A : Nat → Prop) (G : MG) : MS → State → Prop := fun M t => va_P D vwCl (mW G M) t.heap ∧ va_K D vwCl (mT G) t ∧ va_D A (mW G M)
abbrev wM (y : MethodName) (cc : ByteArray) (n : Nat) (ret : Option FieldType) : List Cond := Cond.code y cc n ret :: Tw
abbrev rM (f L : Nat) : Room := { frames := f, cells := 0, slots := 0, locals := L }
theorem inT12 : ∀ w ∈ u_ws RX12 TX12 52, w ∈ Tw := by decide +kernel
theorem TX12_cls : ∀ k, (TX12 k).1 = RX12 := by intro k; unfold TX12; split <;> rfl
/-- an array's place in the world -/
def mAr (k pos n : Nat) (z : Bool) : Prop := ∀ (G : MG) (M : MS), (mW G M)[pos]? = some (G.2.2.2 k, .inl (if z then G.2.1 else G.1, n, .inl (M k))) ∧ ∀ f : Nat → Int32, (mW G M).set pos (G.2.2.2 k, .inl (if z then G.2.1 else G.1, n, .inl f)) = mW G (mset M k f)
def mSc (k : Nat) : Prop := ∀ (G : MG) (M : MS) (x : Int32), (mW G M).set 0 (G.2.2.1, .inr (12, (mfs G M).set k (.int x))) = mW G (mput M k 0 x)
theorem mS_0 : mSc 0 := fun _ _ _ => rfl
theorem mS_1 : mSc 1 := fun _ _ _ => rfl
theorem mA_2 : mAr 2 1 3000 false := fun _ _ => ⟨rfl, fun _ => rfl⟩
theorem mA_3 : mAr 3 2 3000 false := fun _ _ => ⟨rfl, fun _ => rfl⟩
theorem mA_4 : mAr 4 3 3000 false := fun _ _ => ⟨rfl, fun _ => rfl⟩
theorem mA_5 : mAr 5 4 3000 false := fun _ _ => ⟨rfl, fun _ => rfl⟩
theorem mA_6 : mAr 6 5 3000 false := fun _ _ => ⟨rfl, fun _ => rfl⟩
theorem mA_7 : mAr 7 6 3000 true := fun _ _ => ⟨rfl, fun _ => rfl⟩
theorem mA_8 : mAr 8 7 3000 false := fun _ _ => ⟨rfl, fun _ => rfl⟩
theorem mA_9 : mAr 9 8 3000 false := fun _ _ => ⟨rfl, fun _ => rfl⟩
theorem mA_10 : mAr 10 9 3000 false := fun _ _ => ⟨rfl, fun _ => rfl⟩
theorem mA_11 : mAr 11 10 3000 false := fun _ _ => ⟨rfl, fun _ => rfl⟩
theorem mA_12 : mAr 12 11 3000 false := fun _ _ => ⟨rfl, fun _ => rfl⟩
theorem mA_13 : mAr 13 12 12000 false := fun _ _ => ⟨rfl, fun _ => rfl⟩
theorem mA_14 : mAr 14 13 12000 true := fun _ _ => ⟨rfl, fun _ => rfl⟩
theorem mS_15 : mSc 15 := fun _ _ _ => rfl
theorem mA_16 : mAr 16 14 12000 false := fun _ _ => ⟨rfl, fun _ => rfl⟩
theorem mA_17 : mAr 17 15 12000 false := fun _ _ => ⟨rfl, fun _ => rfl⟩
theorem mA_18 : mAr 18 16 12000 false := fun _ _ => ⟨rfl, fun _ => rfl⟩
theorem mA_19 : mAr 19 17 12000 false := fun _ _ => ⟨rfl, fun _ => rfl⟩
theorem mA_20 : mAr 20 18 12000 false := fun _ _ => ⟨rfl, fun _ => rfl⟩
theorem mA_21 : mAr 21 19 12000 false := fun _ _ => ⟨rfl, fun _ => rfl⟩
theorem mS_22 : mSc 22 := fun _ _ _ => rfl
theorem mA_23 : mAr 23 20 24000 false := fun _ _ => ⟨rfl, fun _ => rfl⟩
theorem mA_24 : mAr 24 21 24000 false := fun _ _ => ⟨rfl, fun _ => rfl⟩
theorem mA_25 : mAr 25 22 24000 false := fun _ _ => ⟨rfl, fun _ => rfl⟩
theorem mA_26 : mAr 26 23 24000 false := fun _ _ => ⟨rfl, fun _ => rfl⟩
theorem mA_27 : mAr 27 24 24000 true := fun _ _ => ⟨rfl, fun _ => rfl⟩
theorem mA_28 : mAr 28 25 24000 true := fun _ _ => ⟨rfl, fun _ => rfl⟩
theorem mS_29 : mSc 29 := fun _ _ _ => rfl
theorem mS_30 : mSc 30 := fun _ _ _ => rfl
theorem mA_31 : mAr 31 26 1000 false := fun _ _ => ⟨rfl, fun _ => rfl⟩
theorem mA_32 : mAr 32 27 1000 false := fun _ _ => ⟨rfl, fun _ => rfl⟩
theorem mS_33 : mSc 33 := fun _ _ _ => rfl
theorem mA_34 : mAr 34 28 4200 false := fun _ _ => ⟨rfl, fun _ => rfl⟩
theorem mA_35 : mAr 35 29 4200 false := fun _ _ => ⟨rfl, fun _ => rfl⟩
theorem mS_36 : mSc 36 := fun _ _ _ => rfl
theorem mA_37 : mAr 37 30 200 false := fun _ _ => ⟨rfl, fun _ => rfl⟩
theorem mS_38 : mSc 38 := fun _ _ _ => rfl
theorem mA_39 : mAr 39 31 20000 false := fun _ _ => ⟨rfl, fun _ => rfl⟩
theorem mA_40 : mAr 40 32 20000 false := fun _ _ => ⟨rfl, fun _ => rfl⟩
theorem mA_41 : mAr 41 33 20000 true := fun _ _ => ⟨rfl, fun _ => rfl⟩
theorem mS_42 : mSc 42 := fun _ _ _ => rfl
theorem mA_43 : mAr 43 34 3000 false := fun _ _ => ⟨rfl, fun _ => rfl⟩
theorem mA_44 : mAr 44 35 3000 false := fun _ _ => ⟨rfl, fun _ => rfl⟩
theorem mA_45 : mAr 45 36 3000 false := fun _ _ => ⟨rfl, fun _ => rfl⟩
theorem mA_46 : mAr 46 37 3000 false := fun _ _ => ⟨rfl, fun _ => rfl⟩
theorem mA_47 : mAr 47 38 3000 false := fun _ _ => ⟨rfl, fun _ => rfl⟩
theorem mA_48 : mAr 48 39 3000 false := fun _ _ => ⟨rfl, fun _ => rfl⟩
theorem mA_49 : mAr 49 40 3000 false := fun _ _ => ⟨rfl, fun _ => rfl⟩
theorem mS_50 : mSc 50 := fun _ _ _ => rfl
theorem mS_51 : mSc 51 := fun _ _ _ => rfl
/-! the steps of a run that may fail -/
def chk {α : Type} (c : Prop) [Decidable c] (b : Option α) : Option α := if c then b else none
theorem chk_e {α : Type} {c : Prop} [Decidable c] {b : Option α} {x : α} (h : chk c b = some x) : c ∧ b = some x := by
  unfold chk at h
  split at h
  · exact ⟨‹_›, h⟩
  · cases h
theorem chk_i {α : Type} {c : Prop} [Decidable c] {b : Option α} (h : c) : chk c b = b := if_pos h
def lt9 {α β : Type} (a : α) (f : α → β) : β := f a
theorem lt9_u {α β : Type} {a y : α} {f : α → β} {x : β} (e : y = a) (h : lt9 a f = x) : f y = x := by rw [e]; exact h
def bnd {α β : Type} (a : Option α) (f : α → Option β) : Option β := match a with
  | some y => f y
  | none => none
theorem bnd_e {α β : Type} {a : Option α} {f : α → Option β} {x : β} (h : bnd a f = some x) : ∃ y, a = some y ∧ f y = some x := by
  cases a with
  | none => cases h
  | some y => exact ⟨y, rfl, h⟩
theorem if_y {α : Type} {c : Prop} [Decidable c] {a b x : α} (h : c) (e : (if c then a else b) = x) : a = x := by rw [if_pos h] at e; exact e
theorem if_n {α : Type} {c : Prop} [Decidable c] {a b x : α} (h : ¬ c) (e : (if c then a else b) = x) : b = x := by rw [if_neg h] at e; exact e
/-- i is a place among n -/
abbrev inb (i : Int32) (n : Nat) : Prop := 0 ≤ i.toInt ∧ i.toInt < n
abbrev isB (x : Int32) : Prop := x = 0 ∨ x = 1
theorem isB_nar {x : Int32} (h : isB x) : vp_nar .boolean x = x := by rcases h with rfl | rfl <;> rfl
theorem isB_narrow {x : Int32} (h : isB x) : narrow .boolean (.int x) = .int x := by rcases h with rfl | rfl <;> rfl
theorem isB_fits {x : Int32} (h : isB x) : fits .boolean (.int x) = true := by rcases h with rfl | rfl <;> rfl
section MR
variable {p : Program} {l : Launch} {e : Env} {R : Room} {s : State} {m : MethodId} {args : Array Value} {below : List Frame} {meth : Method} {c : Code} {H : Heap} {locs : List Loc} {Q : State → Prop}
variable {cc : ByteArray} {pc : Nat} {ls : Array Slot} {rest : List Value} {D : va_G} {A : Nat → Prop} {G : MG} {M : MS} {H0 : Heap} {w0 : Cond} {nL : Nat} {ret : Option FieldType}
/-- what holds in a method's body of the reference -/
def mB (p : Program) (s : State) (m : MethodId) (args : Array Value) (meth : Method) (c : Code) (D : va_G) (G : MG) (cc : ByteArray) (nL : Nat) (ret : Option FieldType) (w0 : Cond) : Prop :=
  p.tables.exec = Jvm.exec ∧ c.code = cc ∧ meth.sig.returnType = ret ∧ c.maxLocals = nL ∧ s.vm.findClass RX12 = some m.cls ∧ (∀ w ∈ w0 :: Tw, w.before args s = true) ∧ meth.locks = false ∧ va_K D vwCl (mT G) s
theorem m_get (B : mB p s m args meth c D G cc nL ret w0) (hW : mOK D A G M H0 H locs) (k : Nat) (hk : k < 52) {index : Nat} (hu : Cond.fieldLink RX12 index RX12 (TX12 k).2.1 (TX12 k).2.2.1 ∈ Tw) {v : Value} (hv : (mfs G M)[k]? = some v) (hdg : decode cc pc = .ok (.getfield index, 3))
    (kk : W p l e R s m args below meth c H locs 0 0 Q (F0 m (pc + 3) ls (v :: rest))) : W p l e R s m args below meth c H locs 0 0 Q (F0 m pc ls (.ref G.2.2.1 :: rest)) := by
  obtain ⟨hx, hb, -, -, hown, hts, -, hK⟩ := B
  exact va_get (D := D) (ci := 12) (v := v) (C := RX12) (T := TX12) (N := 52) hx hb hts (fun w h => List.mem_cons_of_mem _ (inT12 w h)) hown hK hW.1 0 rfl rfl k hk (hts _ (List.mem_cons_of_mem _ hu)) (fun _ h9 => by rw [TX12_cls] at h9; exact h9) hv hdg kk
theorem m_put (B : mB p s m args meth c D G cc nL ret w0) (hW : mOK D A G M H0 H locs) (k : Nat) (hk : k < 52) {index : Nat} (hu : Cond.fieldLink RX12 index RX12 (TX12 k).2.1 (TX12 k).2.2.1 ∈ Tw) (hS : mSc k) (hf : (TX12 k).2.2.2 = false) {ty : FieldType} {x : Int32} (hd : parseFieldDescriptor (TX12 k).2.2.1 = some ty) (hn : narrow ty (.int x) = .int x) (hfit : fits ty (.int x) = true) (hl : k < (mfs G M).length) (hdg : decode cc pc = .ok (.putfield index, 3))
    (kk : ∀ (H1 : Heap) (locs1 : List Loc) (M1 : MS), M1 = mput M k 0 x → mOK D A G M1 H0 H1 locs1 → W p l e R s m args below meth c H1 locs1 0 0 Q (F0 m (pc + 3) ls rest)) : W p l e R s m args below meth c H locs 0 0 Q (F0 m pc ls (.int x :: .ref G.2.2.1 :: rest)) := by
  obtain ⟨hx, hb, -, -, hown, hts, -, hK⟩ := B
  refine va_put (D := D) (ci := 12) (v := .int x) (ty := ty) (C := RX12) (T := TX12) (N := 52) hx hb hts (fun w h => List.mem_cons_of_mem _ (inT12 w h)) tyX12 tyX12_ok nmX12 hown hK hW.1 hW.2.1 hW.2.2 0 rfl rfl k hk (hts _ (List.mem_cons_of_mem _ hu)) (fun _ h9 => by rw [TX12_cls] at h9; exact h9) hf hd hn hfit hl hdg (fun H1 locs1 hP hD hS1 => ?_)
  rw [hS] at hP hD
  exact kk H1 locs1 _ rfl ⟨hP, hD, hS1⟩
theorem m_iald (B : mB p s m args meth c D G cc nL ret w0) (hW : mOK D A G M H0 H locs) {k pos n : Nat} (hA : mAr k pos n false) {i : Int32} (hin : inb i n) (hdg : decode cc pc = .ok (.iaload, 1))
    (kk : W p l e R s m args below meth c H locs 0 0 Q (F0 m (pc + 1) ls (.int (M k i.toNatClampNeg) :: rest))) : W p l e R s m args below meth c H locs 0 0 Q (F0 m pc ls (.int i :: .ref (G.2.2.2 k) :: rest)) := by
  obtain ⟨hx, hb, -, -, hown, hts, -, hK⟩ := B
  exact va_iald hx hb hK hW.1 pos 0 (hA G M).1 rfl (vp_in_iff.mpr hin) hdg kk
theorem m_zald (B : mB p s m args meth c D G cc nL ret w0) (hW : mOK D A G M H0 H locs) {k pos n : Nat} (hA : mAr k pos n true) {i : Int32} (hin : inb i n) (hdg : decode cc pc = .ok (.baload, 1))
    (kk : W p l e R s m args below meth c H locs 0 0 Q (F0 m (pc + 1) ls (.int (M k i.toNatClampNeg) :: rest))) : W p l e R s m args below meth c H locs 0 0 Q (F0 m pc ls (.int i :: .ref (G.2.2.2 k) :: rest)) := by
  obtain ⟨hx, hb, -, -, hown, hts, -, hK⟩ := B
  exact va_zald hx hb hK hW.1 pos 1 (hA G M).1 rfl (vp_in_iff.mpr hin) hdg kk
theorem m_iast (B : mB p s m args meth c D G cc nL ret w0) (hW : mOK D A G M H0 H locs) {k pos n : Nat} (hA : mAr k pos n false) {i x : Int32} (hin : inb i n) (hdg : decode cc pc = .ok (.iastore, 1))
    (kk : ∀ (H1 : Heap) (locs1 : List Loc) (M1 : MS), M1 = mput M k i.toNatClampNeg x → mOK D A G M1 H0 H1 locs1 → W p l e R s m args below meth c H1 locs1 0 0 Q (F0 m (pc + 1) ls rest)) : W p l e R s m args below meth c H locs 0 0 Q (F0 m pc ls (.int x :: .int i :: .ref (G.2.2.2 k) :: rest)) := by
  obtain ⟨hx, hb, -, -, hown, hts, -, hK⟩ := B
  refine va_iast hx hb hK hW.1 hW.2.1 hW.2.2 pos 0 (hA G M).1 rfl (vp_in_iff.mpr hin) hdg (fun H1 locs1 hP hD hS1 => ?_)
  have he := (hA G M).2 (upd (M k) i.toNatClampNeg x)
  refine kk H1 locs1 _ rfl ⟨?_, ?_, hS1⟩
  · exact he ▸ hP
  · exact he ▸ hD
theorem m_zast (B : mB p s m args meth c D G cc nL ret w0) (hW : mOK D A G M H0 H locs) {k pos n : Nat} (hA : mAr k pos n true) {i x : Int32} (hx1 : isB x) (hin : inb i n) (hdg : decode cc pc = .ok (.bastore, 1))
    (kk : ∀ (H1 : Heap) (locs1 : List Loc) (M1 : MS), M1 = mput M k i.toNatClampNeg x → mOK D A G M1 H0 H1 locs1 → W p l e R s m args below meth c H1 locs1 0 0 Q (F0 m (pc + 1) ls rest)) : W p l e R s m args below meth c H locs 0 0 Q (F0 m pc ls (.int x :: .int i :: .ref (G.2.2.2 k) :: rest)) := by
  obtain ⟨hx, hb, -, -, hown, hts, -, hK⟩ := B
  refine va_zast hx hb hK hW.1 hW.2.1 hW.2.2 pos 1 (hA G M).1 rfl (vp_in_iff.mpr hin) hdg (fun H1 locs1 hP hD hS1 => ?_)
  rw [isB_nar hx1] at hP hD
  have he := (hA G M).2 (upd (M k) i.toNatClampNeg x)
  refine kk H1 locs1 _ rfl ⟨?_, ?_, hS1⟩
  · exact he ▸ hP
  · exact he ▸ hD
abbrev mQi (D : va_G) (A : Nat → Prop) (G : MG) (r : Int32) (M' : MS) : Array Value → State → Outcome → State → Prop := va_Qi (fun r1 M1 => r1 = r ∧ M1 = M') (mPost D A G) A
abbrev mQv (D : va_G) (A : Nat → Prop) (G : MG) (M' : MS) : Array Value → State → Outcome → State → Prop := va_Qv (fun M1 => M1 = M') (mPost D A G) A
theorem m_iret {r x : Int32} {M' : MS} (B : mB p s m args meth c D G cc nL (some .int) w0) (hW : mOK D A G M s.heap H locs) (hq : some (x, M) = some (r, M')) (hdg : decode cc pc = .ok (.ireturn, 1)) :
    W p l e R s m args below meth c H locs 0 0 (MQ below (mQi D A G r M') args s 0 0 A) (F0 m pc ls [.int x]) := by
  obtain ⟨hx, hb, hr, -, hown, hts, hlocks, hK⟩ := B
  cases hq
  exact W.iret hx hb hr (fun t ht hWm => ⟨⟨_, _, rfl, ⟨rfl, rfl⟩, by rw [ht]; exact hW.1, va_K.moved hWm.alike hK, hW.2.1⟩, hW.2.2.F ht⟩) hW.2.2.2.2 hdg hlocks
theorem m_zret {r x : Int32} {M' : MS} (B : mB p s m args meth c D G cc nL (some .boolean) w0) (hW : mOK D A G M s.heap H locs) (hx1 : isB x) (hq : some (x, M) = some (r, M')) (hdg : decode cc pc = .ok (.ireturn, 1)) :
    W p l e R s m args below meth c H locs 0 0 (MQ below (mQi D A G r M') args s 0 0 A) (F0 m pc ls [.int x]) := by
  obtain ⟨hx, hb, hr, -, hown, hts, hlocks, hK⟩ := B
  cases hq
  exact W.zret hx hb hr (isB_narrow hx1) (fun t ht hWm => ⟨⟨_, _, rfl, ⟨rfl, rfl⟩, by rw [ht]; exact hW.1, va_K.moved hWm.alike hK, hW.2.1⟩, hW.2.2.F ht⟩) hW.2.2.2.2 hdg hlocks
theorem m_vret {M' : MS} (B : mB p s m args meth c D G cc nL none w0) (hW : mOK D A G M s.heap H locs) (hq : some M = some M') (hdg : decode cc pc = .ok (.return_, 1)) :
    W p l e R s m args below meth c H locs 0 0 (MQ below (mQv D A G M') args s 0 0 A) (F0 m pc ls []) := by
  obtain ⟨hx, hb, hr, -, hown, hts, hlocks, hK⟩ := B
  cases hq
  exact W.vret hx hb hr (fun t ht hWm => ⟨⟨_, rfl, rfl, by rw [ht]; exact hW.1, va_K.moved hWm.alike hK, hW.2.1⟩, hW.2.2.F ht⟩) hW.2.2.2.2 hdg hlocks
/-- what a call of one of the reference's own methods needs of its name -/
def mC (y : MethodName) (cy : ByteArray) (nY : Nat) (rY : Option FieldType) (idx n : Nat) : Prop :=
  (∀ w0 : Cond, GoodIn (w0 :: Tw) (wsV RX12 idx RX12 y (wM y cy nY rY))) ∧ (y.cls = RX12 ∧ y.cls ≠ "java/lang/invoke/MethodHandle" ∧ y.cls ≠ "java/lang/invoke/VarHandle" ∧ (parseMethodDescriptor y.desc).map (fun d => d.parameters.length) = some n)
theorem m_run {y : MethodName} {cy : ByteArray} {nY idx n : Nat} {rY : Option FieldType} {f L : Nat} {As : List Value} {Qc : Array Value → State → Outcome → State → Prop} (B : mB p s m args meth c D G cc nL ret w0) (hW : mOK D A G M H0 H locs) (hl : ls.size = nL) (hM : Met l y (wM y cy nY rY) (rM f L) (va_Pc (.ref G.2.2.1 :: As) (mPre D A G M)) Qc 0 0 A) (hC : mC y cy nY rY idx n) (hn : As.length = n) (hR : f + 1 ≤ R.frames ∧ 8 + (nY + 11) + L ≤ R.locals) {st : List Value} (hst : st = As.reverse ++ .ref G.2.2.1 :: rest) (hr8 : (rest.map fun v => v.category).sum ≤ 8) (hdg : decode cc pc = .ok (.invokevirtual idx, 3)) :
    va_Run p l e R s m args below meth c H locs 0 0 0 0 (F0 m pc ls st) rest (Qc (Value.ref G.2.2.1 :: As).toArray) A := by
  obtain ⟨hx, hb, -, hml, hown, hts, -, hK⟩ := B
  exact va_runV (As := As) (rest := rest) ⟨hx, hb, hml, hown, hts⟩ hM (cwV n hts (hC.1 w0) rfl rfl rfl hC.2 hR)
    ⟨fun a U g mk q => by obtain ⟨q0, qP, qK, qD⟩ := q; exact ⟨q0, qP, va_K.moved (u := U) (U := U.calling g mk a) (Vm.Alike.refl U.vm) qK, qD⟩, va_recv hK hW.1 (ci := 12) (q0 := 0) rfl rfl, fun U hU hWm => ⟨rfl, by rw [hU]; exact hW.1, va_K.moved hWm.alike hK, hW.2.1⟩⟩
    rfl hn hl hst (lv_room (m := m) (pc := pc) (ls := ls) (rest := rest) hr8) hdg ⟨Nat.zero_le _, Nat.zero_le _⟩
theorem m_calli {y : MethodName} {cy : ByteArray} {nY idx n : Nat} {rY : Option FieldType} {f L : Nat} {As : List Value} {r : Int32} {M1 : MS} (B : mB p s m args meth c D G cc nL ret w0) (hW : mOK D A G M H0 H locs) (hl : ls.size = nL) (hM : Met l y (wM y cy nY rY) (rM f L) (va_Pc (.ref G.2.2.1 :: As) (mPre D A G M)) (mQi D A G r M1) 0 0 A) (hC : mC y cy nY rY idx n) (hn : As.length = n) (hR : f + 1 ≤ R.frames ∧ 8 + (nY + 11) + L ≤ R.locals) {st : List Value} (hst : st = As.reverse ++ .ref G.2.2.1 :: rest) (hr8 : (rest.map fun v => v.category).sum ≤ 8) (hdg : decode cc pc = .ok (.invokevirtual idx, 3))
    (kk : ∀ (H1 : Heap) (locs1 : List Loc), mOK D A G M1 H0 H1 locs1 → W p l e R s m args below meth c H1 locs1 0 0 Q (F0 m (pc + 3) ls (.int r :: rest))) : W p l e R s m args below meth c H locs 0 0 Q (F0 m pc ls st) := by
  refine va_calli (m_run B hW hl hM hC hn hR hst hr8 hdg) hW.2.2 (fun _ _ h => h) (fun _ h => h) (fun r1 u t H1 locs1 ht hvm hw hB hz1 hk1 hS => ?_)
  obtain ⟨rfl, rfl⟩ := hw
  obtain ⟨hP1, -, hD1⟩ := hB
  rw [ht] at hP1
  exact kk H1 locs1 ⟨hP1, hD1, hS⟩
theorem m_callv {y : MethodName} {cy : ByteArray} {nY idx n : Nat} {rY : Option FieldType} {f L : Nat} {As : List Value} {M1 : MS} (B : mB p s m args meth c D G cc nL ret w0) (hW : mOK D A G M H0 H locs) (hl : ls.size = nL) (hM : Met l y (wM y cy nY rY) (rM f L) (va_Pc (.ref G.2.2.1 :: As) (mPre D A G M)) (mQv D A G M1) 0 0 A) (hC : mC y cy nY rY idx n) (hn : As.length = n) (hR : f + 1 ≤ R.frames ∧ 8 + (nY + 11) + L ≤ R.locals) {st : List Value} (hst : st = As.reverse ++ .ref G.2.2.1 :: rest) (hr8 : (rest.map fun v => v.category).sum ≤ 8) (hdg : decode cc pc = .ok (.invokevirtual idx, 3))
    (kk : ∀ (H1 : Heap) (locs1 : List Loc), mOK D A G M1 H0 H1 locs1 → W p l e R s m args below meth c H1 locs1 0 0 Q (F0 m (pc + 3) ls rest)) : W p l e R s m args below meth c H locs 0 0 Q (F0 m pc ls st) := by
  refine va_callv (m_run B hW hl hM hC hn hR hst hr8 hdg) hW.2.2 (fun _ _ h => h) (fun _ h => h) (fun u t H1 locs1 ht hvm hw hB hz1 hk1 hS => ?_)
  subst hw
  obtain ⟨hP1, -, hD1⟩ := hB
  rw [ht] at hP1
  exact kk H1 locs1 ⟨hP1, hD1, hS⟩
theorem m_head {y : MethodName} {cy : ByteArray} {nY : Nat} {rY : Option FieldType} {f L : Nat} {vs : List Value} {Qc : Array Value → State → Outcome → State → Prop} (hy : plainName y.cls = true) (hcls : y.cls = RX12) (hvs : (lg_sl vs).length ≤ nY)
    (body : ∀ p e s m args below meth c ls, mB p s m args meth c D G cy nY rY (Cond.code y cy nY rY) → mOK D A G M s.heap s.heap [] → lv_has ls nY (lv_args 0 vs) → W p l e (rM f L) s m args below meth c s.heap [] 0 0 (MQ below Qc args s 0 0 A) (F0 m 0 ls [])) :
    Met l y (wM y cy nY rY) (rM f L) (va_Pc vs (mPre D A G M)) Qc 0 0 A := by
  refine Met.ofW (cc := cy) (maxL := nY) (ret := rY) hy rfl ?_
  intro p e s m args below meth c s₁ B hml hv
  obtain ⟨rfl, hP, hK, hD⟩ := hv
  have hts := atoms_spec (ws := wM y cy nY rY) B.pre
  have hown : s.vm.findClass y.cls = some m.cls := findClass_of_methodNamed B.named
  rw [hcls] at hown
  rw [lg_entry_eq]
  exact body p e s m _ below meth c _ ⟨B.exec, B.bytes, B.returns, hml, hown, hts, B.notSynchronized, hK⟩ ⟨hP, hD, va_S.rf⟩ (lv_entry vs hvs)
end MR
end
section
def bnd2 {α β γ : Type} (a : Option (α × β)) (f : α → β → Option γ) : Option γ := match a with
  | some y => f y.1 y.2
  | none => none
theorem bnd2_e {α β γ : Type} {a : Option (α × β)} {f : α → β → Option γ} {x : γ} (h : bnd2 a f = some x) : ∃ r y, a = some (r, y) ∧ f r y = some x := by
  cases a with
  | none => cases h
  | some y => exact ⟨y.1, y.2, rfl, h⟩

-- thrown
def q_thrown (M : MS) : Option (Int32 × MS) := some (M 0 0, M)
-- newObject
def q_newObject (M : MS) (p1 : Int32) : Option (Int32 × MS) := lt9 (mput M 1 0 ((M 1 0) + 1)) (fun M1 => chk (inb (M 1 0) 3000) (lt9 (mput M1 2 (M 1 0).toNatClampNeg p1) (fun M2 => chk (inb (M 1 0) 3000) (lt9 (mput M2 3 (M 1 0).toNatClampNeg 0) (fun M3 => chk (inb (M 1 0) 3000) (lt9 (mput M3 4 (M 1 0).toNatClampNeg (-1)) (fun M4 => chk (inb (M 1 0) 3000) (lt9 (mput M4 5 (M 1 0).toNatClampNeg (-1)) (fun M5 => chk (inb (M 1 0) 3000) (lt9 (mput M5 6 (M 1 0).toNatClampNeg (-1)) (fun M6 => some (M 1 0, M6))))))))))))
-- record
def q_record (M : MS) (p1 : Int32) : Option (Int32 × MS) := lt9 (mput M 15 0 ((M 15 0) + 1)) (fun M1 => chk (inb (M 15 0) 12000) (lt9 (mput M1 13 (M 15 0).toNatClampNeg p1) (fun M2 => chk (inb (M 15 0) 12000) (chk (isB 0) (lt9 (mput M2 14 (M 15 0).toNatClampNeg 0) (fun M3 => some (M 15 0, M3)))))))
-- capability
def q_capability (M : MS) : Option (Int32 × MS) := bnd2 (q_newObject M 0) (fun r2 M1 => bnd2 (q_record M1 r2) (fun r4 M3 => some (r4, M3)))
-- fails
def q_fails (M : MS) (p1 : Int32) : Option (Int32 × MS) := lt9 (mput M 0 0 p1) (fun M1 => some (0, M1))
-- isFull
def q_isFull (M : MS) (p1 : Int32) : Option (Int32 × MS) := if p1 ≤ (3000 - (M 1 0)) then chk (isB 0) (some (0, M)) else chk (isB 1) (some (1, M))
-- promise
def q_promise (M : MS) : Option (Int32 × MS) := lt9 (mput M 0 0 0) (fun M1 => bnd2 (q_isFull M1 8) (fun r3 M2 => if r3 = 0 then bnd2 (q_capability M2 ) (fun r5 M4 => chk (inb r5 12000) (chk (inb (M4 13 r5.toNatClampNeg) 3000) (lt9 (mput M4 6 (M4 13 r5.toNatClampNeg).toNatClampNeg r5) (fun M6 => some (-2 - (M4 13 r5.toNatClampNeg), M6))))) else bnd2 (q_fails M2 1) (fun r8 M7 => some (r8, M7))))
-- isObject
def q_isObject (M : MS) (p1 : Int32) : Option (Int32 × MS) := if (-2) < p1 then chk (isB 0) (some (0, M)) else if (M 1 0) ≤ ((-2) - p1) then chk (isB 0) (some (0, M)) else if ((-2) - p1) < 0 then chk (isB 0) (some (0, M)) else chk (isB 1) (some (1, M))
-- isKind
def q_isKind (M : MS) (p1 p2 : Int32) : Option (Int32 × MS) := bnd2 (q_isObject M p1) (fun r2 M1 => if r2 = 0 then chk (isB 0) (some (0, M1)) else chk (inb ((-2) - p1) 3000) (if (M1 2 ((-2) - p1).toNatClampNeg) = p2 then chk (isB 1) (some (1, M1)) else chk (isB 0) (some (0, M1))))
-- isKept
def q_isKept (M : MS) (p1 : Int32) : Option (Int32 × MS) := bnd2 (q_isKind M p1 0) (fun r2 M1 => if r2 = 0 then chk (isB 0) (some (0, M1)) else chk (inb ((-2) - p1) 3000) (if (M1 6 ((-2) - p1).toNatClampNeg) < 0 then chk (isB 0) (some (0, M1)) else chk (isB 1) (some (1, M1))))
-- isValue
def q_isValue_12 (M : MS) (v1 : Int32) : Option (Int32 × MS) := bnd2 (q_isObject M v1) (fun r2 M1 => if r2 = 0 then chk (isB 0) (some (0, M1)) else chk (isB 1) (some (1, M1)))
def q_isValue (M : MS) (p1 : Int32) : Option (Int32 × MS) := if p1 < (-1) then q_isValue_12 M p1 else if p1 < 1000 then chk (isB 1) (some (1, M)) else q_isValue_12 M p1
-- handler
def q_handler_41 (M : MS) (v1 v2 : Int32) : Option (Int32 × MS) := if (M 33 0) = 1000 then bnd2 (q_fails M 2) (fun r14 M13 => some (r14, M13)) else chk (inb (M 33 0) 1000) (lt9 (mput M 31 (M 33 0).toNatClampNeg v1) (fun M10 => chk (inb (M10 33 0) 1000) (lt9 (mput M10 32 (M10 33 0).toNatClampNeg v2) (fun M11 => lt9 (mput M11 33 0 ((M11 33 0) + 1)) (fun M12 => some ((M12 33 0) - 1, M12))))))
def q_handler (M : MS) (p1 p2 : Int32) : Option (Int32 × MS) := lt9 (mput M 0 0 0) (fun M1 => if p1 < 0 then bnd2 (q_fails M1 1) (fun r3 M2 => some (r3, M2)) else if 5 < p1 then bnd2 (q_fails M1 1) (fun r5 M4 => some (r5, M4)) else bnd2 (q_isValue M1 p2) (fun r7 M6 => if r7 = 0 then bnd2 (q_fails M6 1) (fun r9 M8 => some (r9, M8)) else if p1 ≤ 3 then q_handler_41 M6 p1 p2 else bnd2 (q_isKept M6 p2) (fun r16 M15 => if r16 = 0 then bnd2 (q_fails M15 1) (fun r18 M17 => some (r18, M17)) else q_handler_41 M15 p1 p2)))
-- thenable
def q_thenable (M : MS) (p1 p2 p3 p4 p5 : Int32) : Option (Int32 × MS) := lt9 (mput M 0 0 0) (fun M1 => if p1 < 0 then bnd2 (q_fails M1 1) (fun r3 M2 => some (r3, M2)) else if 2 < p1 then bnd2 (q_fails M1 1) (fun r5 M4 => some (r5, M4)) else if p2 < 0 then bnd2 (q_fails M1 1) (fun r7 M6 => some (r7, M6)) else if 4 < p2 then bnd2 (q_fails M1 1) (fun r9 M8 => some (r9, M8)) else if p4 < 0 then bnd2 (q_fails M1 1) (fun r11 M10 => some (r11, M10)) else if 4 < p4 then bnd2 (q_fails M1 1) (fun r13 M12 => some (r13, M12)) else bnd2 (q_isValue M1 p3) (fun r15 M14 => if r15 = 0 then bnd2 (q_fails M14 1) (fun r17 M16 => some (r17, M16)) else bnd2 (q_isValue M14 p5) (fun r19 M18 => if r19 = 0 then bnd2 (q_fails M18 1) (fun r32 M31 => some (r32, M31)) else bnd2 (q_isFull M18 8) (fun r21 M20 => if r21 = 0 then bnd2 (q_newObject M20 1) (fun r23 M22 => chk (inb r23 3000) (lt9 (mput M22 8 r23.toNatClampNeg p1) (fun M24 => chk (inb r23 3000) (lt9 (mput M24 9 r23.toNatClampNeg p2) (fun M25 => chk (inb r23 3000) (lt9 (mput M25 10 r23.toNatClampNeg p3) (fun M26 => chk (inb r23 3000) (lt9 (mput M26 11 r23.toNatClampNeg p4) (fun M27 => chk (inb r23 3000) (lt9 (mput M27 12 r23.toNatClampNeg p5) (fun M28 => some (-2 - r23, M28)))))))))))) else bnd2 (q_fails M20 2) (fun r30 M29 => some (r30, M29))))))
-- react
def q_react_86 (M : MS) (v1 v3 z0 z1 : Int32) : Option MS := chk (inb z1 24000) (lt9 (mput M 24 z1.toNatClampNeg z0) (fun M4 => chk (inb v1 12000) (chk (inb (M4 30 0) 24000) (lt9 (mput M4 25 (M4 30 0).toNatClampNeg (M4 17 v1.toNatClampNeg)) (fun M5 => chk (inb (M5 30 0) 24000) (lt9 (mput M5 26 (M5 30 0).toNatClampNeg v3) (fun M6 => lt9 (mput M6 30 0 ((M6 30 0) + 1)) (fun M7 => some M7))))))))
def q_react_57 (M : MS) (v1 v2 v3 z0 z1 : Int32) : Option MS := chk (inb z1 24000) (lt9 (mput M 23 z1.toNatClampNeg z0) (fun M3 => if v2 = 2 then chk (inb v1 12000) (q_react_86 M3 v1 v3 (M3 21 v1.toNatClampNeg) (M3 30 0)) else chk (inb v1 12000) (q_react_86 M3 v1 v3 (M3 19 v1.toNatClampNeg) (M3 30 0))))
def q_react_28 (M : MS) (v1 v2 v3 z0 z1 : Int32) : Option MS := chk (inb z1 24000) (chk (isB z0) (lt9 (mput M 27 z1.toNatClampNeg z0) (fun M2 => if v2 = 2 then chk (inb v1 12000) (q_react_57 M2 v1 v2 v3 (M2 20 v1.toNatClampNeg) (M2 30 0)) else chk (inb v1 12000) (q_react_57 M2 v1 v2 v3 (M2 18 v1.toNatClampNeg) (M2 30 0)))))
def q_react (M : MS) (p1 p2 p3 : Int32) : Option MS := chk (inb (M 30 0) 24000) (chk (isB 0) (lt9 (mput M 28 (M 30 0).toNatClampNeg 0) (fun M1 => if p2 = 2 then q_react_28 M1 p1 p2 p3 1 (M1 30 0) else q_react_28 M1 p1 p2 p3 0 (M1 30 0))))
-- settle
def q_settle_22 : Nat → MS → Int32 → Int32 → Int32 → Int32 → Option MS
  | 0, _, _, _, _, _ => none
  | n + 1, M, v1, v2, v3, v4 => if v4 < 0 then chk (inb v1 3000) (lt9 (mput M 5 v1.toNatClampNeg (-1)) (fun M3 => some M3)) else bnd (q_react M v4 v2 v3) (fun M4 => chk (inb v4 12000) (q_settle_22 n M4 v1 v2 v3 (M4 16 v4.toNatClampNeg)))
def q_settle (n : Nat) (M : MS) (p1 p2 p3 : Int32) : Option MS := chk (inb p1 3000) (lt9 (mput M 3 p1.toNatClampNeg p2) (fun M1 => chk (inb p1 3000) (lt9 (mput M1 4 p1.toNatClampNeg p3) (fun M2 => chk (inb p1 3000) (q_settle_22 n M2 p1 p2 p3 (M2 5 p1.toNatClampNeg))))))
-- reject
def q_reject (n : Nat) (M : MS) (p1 p2 : Int32) : Option MS := chk (inb p1 12000) (if (M 14 p1.toNatClampNeg) = 0 then chk (inb p1 12000) (chk (isB 1) (lt9 (mput M 14 p1.toNatClampNeg 1) (fun M1 => chk (inb p1 12000) (bnd (q_settle n M1 (M1 13 p1.toNatClampNeg) 2 p2) (fun M2 => some M2))))) else some M)
-- resolve
def q_resolve_138 (n : Nat) (M : MS) (v3 v4 : Int32) : Option MS := chk (inb (M 30 0) 24000) (chk (isB 1) (lt9 (mput M 28 (M 30 0).toNatClampNeg 1) (fun M4 => chk (inb (M4 30 0) 24000) (lt9 (mput M4 24 (M4 30 0).toNatClampNeg v4) (fun M5 => chk (inb (M5 30 0) 24000) (lt9 (mput M5 25 (M5 30 0).toNatClampNeg v3) (fun M6 => lt9 (mput M6 30 0 ((M6 30 0) + 1)) (fun M7 => some M7))))))))
def q_resolve_107 (n : Nat) (M : MS) (v2 v3 v4 : Int32) : Option MS := chk (inb v4 3000) (if (M 2 v4.toNatClampNeg) = 0 then q_resolve_138 n M v3 v4 else chk (inb v4 3000) (if (M 2 v4.toNatClampNeg) = 1 then chk (inb v4 3000) (if (M 8 v4.toNatClampNeg) = 0 then q_resolve_138 n M v3 v4 else bnd (q_settle n M v3 1 v2) (fun M9 => some M9)) else bnd (q_settle n M v3 1 v2) (fun M8 => some M8)))
def q_resolve (n : Nat) (M : MS) (p1 p2 : Int32) : Option MS := chk (inb p1 12000) (if (M 14 p1.toNatClampNeg) = 0 then chk (inb p1 12000) (chk (isB 1) (lt9 (mput M 14 p1.toNatClampNeg 1) (fun M1 => chk (inb p1 12000) (if p2 = (-2 - (M1 13 p1.toNatClampNeg)) then bnd2 (q_newObject M1 2) (fun r13 M12 => bnd (q_settle n M12 (M1 13 p1.toNatClampNeg) 2 (-2 - r13)) (fun M14 => some M14)) else bnd2 (q_isObject M1 p2) (fun r3 M2 => if r3 = 0 then bnd (q_settle n M2 (M1 13 p1.toNatClampNeg) 1 p2) (fun M11 => some M11) else chk (inb ((-2) - p2) 3000) (if (M2 2 ((-2) - p2).toNatClampNeg) = 1 then chk (inb ((-2) - p2) 3000) (if (M2 8 ((-2) - p2).toNatClampNeg) = 1 then chk (inb ((-2) - p2) 3000) (bnd (q_settle n M2 (M1 13 p1.toNatClampNeg) 2 (M2 10 ((-2) - p2).toNatClampNeg)) (fun M10 => some M10)) else q_resolve_107 n M2 p2 (M1 13 p1.toNatClampNeg) ((-2) - p2)) else q_resolve_107 n M2 p2 (M1 13 p1.toNatClampNeg) ((-2) - p2))))))) else some M)
-- settle_
def q_settle__73 (n : Nat) (M : MS) (v2 v3 v4 z0 : Int32) : Option (Int32 × MS) := if v2 = 0 then bnd (q_resolve n M v4 v3) (fun M4 => chk (isB z0) (some (z0, M4))) else bnd (q_reject n M v4 v3) (fun M5 => chk (isB z0) (some (z0, M5)))
def q_settle__35 (n : Nat) (M : MS) (v1 v2 v3 z0 : Int32) : Option (Int32 × MS) := lt9 (mput M 0 0 z0) (fun M3 => if (M3 0 0) ≤ 0 then chk (inb ((-2) - v1) 3000) (chk (inb (M3 6 ((-2) - v1).toNatClampNeg) 12000) (if (M3 14 (M3 6 ((-2) - v1).toNatClampNeg).toNatClampNeg) = 0 then q_settle__73 n M3 v2 v3 (M3 6 ((-2) - v1).toNatClampNeg) 1 else q_settle__73 n M3 v2 v3 (M3 6 ((-2) - v1).toNatClampNeg) 0)) else chk (isB 0) (some (0, M3)))
def q_settle__17 (n : Nat) (M : MS) (v1 v2 v3 : Int32) : Option (Int32 × MS) := q_settle__35 n M v1 v2 v3 1
def q_settle_ (n : Nat) (M : MS) (p1 p2 p3 : Int32) : Option (Int32 × MS) := bnd2 (q_isKept M p1) (fun r2 M1 => if r2 = 0 then q_settle__17 n M1 p1 p2 p3 else bnd2 (q_isValue M1 p3) (fun r7 M6 => if r7 = 0 then q_settle__17 n M6 p1 p2 p3 else bnd2 (q_isFull M6 8) (fun r9 M8 => if r9 = 0 then q_settle__35 n M8 p1 p2 p3 0 else q_settle__35 n M8 p1 p2 p3 2)))
-- later
def q_later_99 (n : Nat) (M : MS) (v5 : Int32) : Option (Int32 × MS) := if v5 = 0 then some (0, M) else some (1, M)
def q_later_76 (n : Nat) (M : MS) (v2 v3 v4 z0 : Int32) : Option (Int32 × MS) := if v2 = 0 then bnd (q_resolve n M v4 v3) (fun M10 => q_later_99 n M10 z0) else bnd (q_reject n M v4 v3) (fun M11 => q_later_99 n M11 z0)
def q_later (n : Nat) (M : MS) (p1 p2 p3 : Int32) : Option (Int32 × MS) := lt9 (mput M 0 0 0) (fun M1 => bnd2 (q_isKind M1 p1 1) (fun r3 M2 => if r3 = 0 then bnd2 (q_fails M2 1) (fun r5 M4 => some (r5, M4)) else bnd2 (q_isValue M2 p3) (fun r7 M6 => if r7 = 0 then bnd2 (q_fails M6 1) (fun r15 M14 => some (r15, M14)) else bnd2 (q_isFull M6 8) (fun r9 M8 => if r9 = 0 then chk (inb ((-2) - p1) 3000) (if 0 ≤ (M8 6 ((-2) - p1).toNatClampNeg) then chk (inb (M8 6 ((-2) - p1).toNatClampNeg) 12000) (if (M8 14 (M8 6 ((-2) - p1).toNatClampNeg).toNatClampNeg) = 0 then q_later_76 n M8 p2 p3 (M8 6 ((-2) - p1).toNatClampNeg) 1 else q_later_76 n M8 p2 p3 (M8 6 ((-2) - p1).toNatClampNeg) 0) else some ((-1), M8)) else bnd2 (q_fails M8 2) (fun r13 M12 => some (r13, M12))))))
-- isHandler
def q_isHandler (M : MS) (p1 : Int32) : Option (Int32 × MS) := if p1 < 0 then chk (isB 0) (some (0, M)) else if (M 33 0) ≤ p1 then chk (isB 0) (some (0, M)) else chk (isB 1) (some (1, M))
-- performThen
def q_performThen_125 : Nat → MS → Int32 → Int32 → Int32 → Option MS
  | 0, _, _, _, _ => none
  | n + 1, M, v1, v7, v8 => chk (inb v8 12000) (if (M 16 v8.toNatClampNeg) < 0 then chk (inb v8 12000) (lt9 (mput M 16 v8.toNatClampNeg v7) (fun M8 => chk (inb v1 3000) (chk (isB 1) (lt9 (mput M8 7 v1.toNatClampNeg 1) (fun M9 => some M9))))) else chk (inb v8 12000) (q_performThen_125 n M v1 v7 (M 16 v8.toNatClampNeg)))
def q_performThen (n : Nat) (M : MS) (p1 p2 p3 p4 p5 p6 : Int32) : Option MS := lt9 (mput M 22 0 ((M 22 0) + 1)) (fun M1 => chk (inb (M 22 0) 12000) (lt9 (mput M1 16 (M 22 0).toNatClampNeg (-1)) (fun M2 => chk (inb (M 22 0) 12000) (lt9 (mput M2 17 (M 22 0).toNatClampNeg p6) (fun M3 => chk (inb (M 22 0) 12000) (lt9 (mput M3 18 (M 22 0).toNatClampNeg p2) (fun M4 => chk (inb (M 22 0) 12000) (lt9 (mput M4 19 (M 22 0).toNatClampNeg p3) (fun M5 => chk (inb (M 22 0) 12000) (lt9 (mput M5 20 (M 22 0).toNatClampNeg p4) (fun M6 => chk (inb (M 22 0) 12000) (lt9 (mput M6 21 (M 22 0).toNatClampNeg p5) (fun M7 => chk (inb p1 3000) (if (M7 3 p1.toNatClampNeg) = 0 then chk (inb p1 3000) (if 0 ≤ (M7 5 p1.toNatClampNeg) then chk (inb p1 3000) (q_performThen_125 n M7 p1 (M 22 0) (M7 5 p1.toNatClampNeg)) else chk (inb p1 3000) (lt9 (mput M7 5 p1.toNatClampNeg (M 22 0)) (fun M10 => chk (inb p1 3000) (chk (isB 1) (lt9 (mput M10 7 p1.toNatClampNeg 1) (fun M11 => some M11)))))) else chk (inb p1 3000) (chk (inb p1 3000) (bnd (q_react M7 (M 22 0) (M7 3 p1.toNatClampNeg) (M7 4 p1.toNatClampNeg)) (fun M12 => chk (inb p1 3000) (chk (isB 1) (lt9 (mput M12 7 p1.toNatClampNeg 1) (fun M13 => some M13))))))))))))))))))))
-- then
def q_then (n : Nat) (M : MS) (p1 p2 p3 p4 p5 : Int32) : Option (Int32 × MS) := bnd2 (q_capability M ) (fun r2 M1 => bnd (q_performThen n M1 p1 p2 p3 p4 p5 r2) (fun M3 => chk (inb r2 12000) (some (M3 13 r2.toNatClampNeg, M3))))
-- then_
def q_then__98 (n : Nat) (M : MS) (v2 v3 v5 z0 z1 : Int32) : Option (Int32 × MS) := if v5 = 0 then bnd2 (q_then n M z1 z0 v2 0 v3) (fun r9 M8 => some (-2 - r9, M8)) else bnd2 (q_then n M z1 z0 v2 1 v3) (fun r11 M10 => some (-2 - r11, M10))
def q_then__81 (n : Nat) (M : MS) (v1 v2 v3 z0 : Int32) : Option (Int32 × MS) := if v2 = (-1) then q_then__98 n M v2 v3 z0 0 ((-2) - v1) else q_then__98 n M v2 v3 z0 1 ((-2) - v1)
def q_then__80 (n : Nat) (M : MS) (v1 v2 v3 : Int32) : Option (Int32 × MS) := q_then__81 n M v1 v2 v3 0
def q_then__51 (n : Nat) (M : MS) (v1 v2 v3 v4 : Int32) : Option (Int32 × MS) := bnd2 (q_isFull M 8) (fun r7 M6 => if r7 = 0 then if v4 = 0 then q_then__80 n M6 v1 v2 v3 else if v3 = (-1) then q_then__80 n M6 v1 v2 v3 else q_then__81 n M6 v1 v2 v3 1 else bnd2 (q_fails M6 2) (fun r13 M12 => some (r13, M12)))
def q_then__27 (n : Nat) (M : MS) (v1 v2 v3 v4 : Int32) : Option (Int32 × MS) := if v4 = 0 then q_then__51 n M v1 v2 v3 v4 else if v3 = (-1) then q_then__51 n M v1 v2 v3 v4 else bnd2 (q_isHandler M v3) (fun r15 M14 => if r15 = 0 then bnd2 (q_fails M14 1) (fun r17 M16 => some (r17, M16)) else q_then__51 n M14 v1 v2 v3 v4)
def q_then_ (n : Nat) (M : MS) (p1 p2 p3 p4 : Int32) : Option (Int32 × MS) := lt9 (mput M 0 0 0) (fun M1 => bnd2 (q_isKind M1 p1 0) (fun r3 M2 => if r3 = 0 then bnd2 (q_fails M2 1) (fun r5 M4 => some (r5, M4)) else if p2 = (-1) then q_then__27 n M2 p1 p2 p3 p4 else bnd2 (q_isHandler M2 p2) (fun r19 M18 => if r19 = 0 then bnd2 (q_fails M18 1) (fun r21 M20 => some (r21, M20)) else q_then__27 n M18 p1 p2 p3 p4)))
-- lastly
def q_lastly_64 (n : Nat) (M : MS) (v2 z0 z1 : Int32) : Option (Int32 × MS) := if v2 = (-1) then bnd2 (q_then n M z1 z0 v2 0 v2) (fun r11 M10 => some (-2 - r11, M10)) else bnd2 (q_then n M z1 z0 v2 9 v2) (fun r9 M8 => some (-2 - r9, M8))
def q_lastly_33 (n : Nat) (M : MS) (v1 v2 : Int32) : Option (Int32 × MS) := bnd2 (q_isFull M 8) (fun r7 M6 => if r7 = 0 then if v2 = (-1) then q_lastly_64 n M6 v2 0 ((-2) - v1) else q_lastly_64 n M6 v2 8 ((-2) - v1) else bnd2 (q_fails M6 2) (fun r13 M12 => some (r13, M12)))
def q_lastly (n : Nat) (M : MS) (p1 p2 : Int32) : Option (Int32 × MS) := lt9 (mput M 0 0 0) (fun M1 => bnd2 (q_isKind M1 p1 0) (fun r3 M2 => if r3 = 0 then bnd2 (q_fails M2 1) (fun r5 M4 => some (r5, M4)) else if p2 = (-1) then q_lastly_33 n M2 p1 p2 else bnd2 (q_isHandler M2 p2) (fun r15 M14 => if r15 = 0 then bnd2 (q_fails M14 1) (fun r17 M16 => some (r17, M16)) else q_lastly_33 n M14 p1 p2)))
-- promiseOf
def q_promiseOf (n : Nat) (M : MS) (p1 : Int32) : Option (Int32 × MS) := bnd2 (q_isKind M p1 0) (fun r2 M1 => if r2 = 0 then bnd2 (q_capability M1 ) (fun r4 M3 => bnd (q_resolve n M3 r4 p1) (fun M5 => chk (inb r4 12000) (some (M5 13 r4.toNatClampNeg, M5)))) else some ((-2) - p1, M1))
-- wrap
def q_wrap (n : Nat) (M : MS) (p1 : Int32) : Option (Int32 × MS) := lt9 (mput M 0 0 0) (fun M1 => bnd2 (q_isValue M1 p1) (fun r3 M2 => if r3 = 0 then bnd2 (q_fails M2 1) (fun r11 M10 => some (r11, M10)) else bnd2 (q_isFull M2 8) (fun r5 M4 => if r5 = 0 then bnd2 (q_promiseOf n M4 p1) (fun r7 M6 => some (-2 - r7, M6)) else bnd2 (q_fails M4 2) (fun r9 M8 => some (r9, M8)))))
-- broken
def q_broken (n : Nat) (M : MS) (p1 : Int32) : Option (Int32 × MS) := lt9 (mput M 0 0 0) (fun M1 => bnd2 (q_isValue M1 p1) (fun r3 M2 => if r3 = 0 then bnd2 (q_fails M2 1) (fun r12 M11 => some (r12, M11)) else bnd2 (q_isFull M2 8) (fun r5 M4 => if r5 = 0 then bnd2 (q_capability M4 ) (fun r7 M6 => bnd (q_reject n M6 r7 p1) (fun M8 => chk (inb r7 12000) (some (-2 - (M8 13 r7.toNatClampNeg), M8)))) else bnd2 (q_fails M4 2) (fun r10 M9 => some (r10, M9)))))
-- item
def q_item (M : MS) (p1 : Int32) : Option (Int32 × MS) := lt9 (mput M 0 0 0) (fun M1 => bnd2 (q_isValue M1 p1) (fun r3 M2 => if r3 = 0 then bnd2 (q_fails M2 1) (fun r9 M8 => some (r9, M8)) else if (M2 38 0) = 200 then bnd2 (q_fails M2 2) (fun r7 M6 => some (r7, M6)) else chk (inb (M2 38 0) 200) (lt9 (mput M2 37 (M2 38 0).toNatClampNeg p1) (fun M4 => lt9 (mput M4 38 0 ((M4 38 0) + 1)) (fun M5 => some (M5 38 0, M5))))))
-- array
def q_array (M : MS) (p1 p2 : Int32) : Option (Int32 × MS) := bnd2 (q_newObject M p2) (fun r2 M1 => chk (inb p1 3000) (chk (inb r2 3000) (lt9 (mput M1 8 r2.toNatClampNeg (M1 43 p1.toNatClampNeg)) (fun M3 => chk (inb p1 3000) (chk (inb r2 3000) (lt9 (mput M3 9 r2.toNatClampNeg (M3 44 p1.toNatClampNeg)) (fun M4 => some (-2 - r2, M4))))))))
-- finish
def q_finish (n : Nat) (M : MS) (p1 p2 : Int32) : Option MS := if p2 = 0 then chk (inb p1 3000) (bnd2 (q_array M p1 4) (fun r2 M1 => bnd (q_resolve n M1 (M 46 p1.toNatClampNeg) r2) (fun M3 => some M3))) else bnd2 (q_array M p1 3) (fun r5 M4 => bnd2 (q_array M4 p1 4) (fun r7 M6 => chk (inb p1 3000) (bnd (q_reject n M6 (M6 46 p1.toNatClampNeg) r5) (fun M8 => some M8))))
-- group
def q_group_37 : Nat → MS → Int32 → Int32 → Option (Int32 × MS)
  | 0, _, _, _ => none
  | n + 1, M, v1, v2 => if (M 38 0) ≤ v2 then lt9 (mput M 38 0 0) (fun M4 => some (v1, M4)) else chk (inb v2 200) (chk (inb (M 42 0) 20000) (lt9 (mput M 39 (M 42 0).toNatClampNeg (M 37 v2.toNatClampNeg)) (fun M5 => chk (inb (M5 42 0) 20000) (lt9 (mput M5 40 (M5 42 0).toNatClampNeg v1) (fun M6 => chk (inb (M6 42 0) 20000) (chk (isB 0) (lt9 (mput M6 41 (M6 42 0).toNatClampNeg 0) (fun M7 => lt9 (mput M7 42 0 ((M7 42 0) + 1)) (fun M8 => q_group_37 n M8 v1 (v2 + 1))))))))))
def q_group (n : Nat) (M : MS) : Option (Int32 × MS) := lt9 (mput M 50 0 ((M 50 0) + 1)) (fun M1 => chk (inb (M 50 0) 3000) (lt9 (mput M1 43 (M 50 0).toNatClampNeg (M1 42 0)) (fun M2 => chk (inb (M 50 0) 3000) (lt9 (mput M2 44 (M 50 0).toNatClampNeg (M2 38 0)) (fun M3 => q_group_37 n M3 (M 50 0) 0)))))
-- combine
def q_combine_69 : Nat → MS → Int32 → Int32 → Int32 → Int32 → Option (Int32 × MS)
  | 0, _, _, _, _, _ => none
  | n + 1, M, v1, v2, v3, v4 => chk (inb v3 3000) (if (M 44 v3.toNatClampNeg) ≤ v4 then chk (inb v3 3000) (chk (inb v3 3000) (lt9 (mput M 45 v3.toNatClampNeg ((M 45 v3.toNatClampNeg) - 1)) (fun M12 => if 3 ≤ v1 then chk (inb v2 12000) (some (-2 - (M12 13 v2.toNatClampNeg), M12)) else chk (inb v3 3000) (if (M12 45 v3.toNatClampNeg) = 0 then if v1 = 2 then bnd (q_finish n M12 v3 1) (fun M14 => chk (inb v2 12000) (some (-2 - (M14 13 v2.toNatClampNeg), M14))) else bnd (q_finish n M12 v3 0) (fun M13 => chk (inb v2 12000) (some (-2 - (M13 13 v2.toNatClampNeg), M13))) else chk (inb v2 12000) (some (-2 - (M12 13 v2.toNatClampNeg), M12)))))) else chk (inb v3 3000) (chk (inb ((M 43 v3.toNatClampNeg) + v4) 20000) (bnd2 (q_promiseOf n M (M 39 ((M 43 v3.toNatClampNeg) + v4).toNatClampNeg)) (fun r16 M15 => if 3 ≤ v1 then if v1 = 0 then bnd2 (q_then n M15 r16 4 ((M 43 v3.toNatClampNeg) + v4) 3 v2) (fun r24 M23 => q_combine_69 n M23 v1 v2 v3 (v4 + 1)) else if v1 = 1 then bnd2 (q_then n M15 r16 5 ((M 43 v3.toNatClampNeg) + v4) 6 ((M 43 v3.toNatClampNeg) + v4)) (fun r22 M21 => q_combine_69 n M21 v1 v2 v3 (v4 + 1)) else if v1 = 2 then bnd2 (q_then n M15 r16 2 v2 7 ((M 43 v3.toNatClampNeg) + v4)) (fun r20 M19 => q_combine_69 n M19 v1 v2 v3 (v4 + 1)) else bnd2 (q_then n M15 r16 2 v2 3 v2) (fun r18 M17 => q_combine_69 n M17 v1 v2 v3 (v4 + 1)) else chk (inb ((M 43 v3.toNatClampNeg) + v4) 20000) (lt9 (mput M15 39 ((M 43 v3.toNatClampNeg) + v4).toNatClampNeg (-1)) (fun M25 => chk (inb v3 3000) (chk (inb v3 3000) (lt9 (mput M25 45 v3.toNatClampNeg ((M25 45 v3.toNatClampNeg) + 1)) (fun M26 => if v1 = 0 then bnd2 (q_then n M26 r16 4 ((M 43 v3.toNatClampNeg) + v4) 3 v2) (fun r34 M33 => q_combine_69 n M33 v1 v2 v3 (v4 + 1)) else if v1 = 1 then bnd2 (q_then n M26 r16 5 ((M 43 v3.toNatClampNeg) + v4) 6 ((M 43 v3.toNatClampNeg) + v4)) (fun r32 M31 => q_combine_69 n M31 v1 v2 v3 (v4 + 1)) else if v1 = 2 then bnd2 (q_then n M26 r16 2 v2 7 ((M 43 v3.toNatClampNeg) + v4)) (fun r30 M29 => q_combine_69 n M29 v1 v2 v3 (v4 + 1)) else bnd2 (q_then n M26 r16 2 v2 3 v2) (fun r28 M27 => q_combine_69 n M27 v1 v2 v3 (v4 + 1)))))))))))
def q_combine (n : Nat) (M : MS) (p1 : Int32) : Option (Int32 × MS) := lt9 (mput M 0 0 0) (fun M1 => if p1 < 0 then bnd2 (q_fails M1 1) (fun r3 M2 => some (r3, M2)) else if p1 ≤ 3 then bnd2 (q_isFull M1 (8 + (2 * (M1 38 0)))) (fun r5 M4 => if r5 = 0 then bnd2 (q_capability M4 ) (fun r7 M6 => bnd2 (q_group n M6 ) (fun r9 M8 => chk (inb r9 3000) (lt9 (mput M8 46 r9.toNatClampNeg r7) (fun M10 => chk (inb r9 3000) (lt9 (mput M10 45 r9.toNatClampNeg 1) (fun M11 => q_combine_69 n M11 p1 r7 r9 0)))))) else bnd2 (q_fails M4 2) (fun r36 M35 => some (r36, M35))) else bnd2 (q_fails M1 1) (fun r38 M37 => some (r38, M37)))
-- goOn
def q_goOn (n : Nat) (M : MS) (p1 : Int32) : Option MS := chk (inb p1 3000) (chk (inb p1 3000) (if (M 49 p1.toNatClampNeg) = (M 44 p1.toNatClampNeg) then chk (inb p1 3000) (chk (inb p1 3000) (bnd (q_resolve n M (M 46 p1.toNatClampNeg) (M 47 p1.toNatClampNeg)) (fun M5 => some M5))) else chk (inb p1 3000) (chk (inb p1 3000) (chk (inb ((M 43 p1.toNatClampNeg) + (M 49 p1.toNatClampNeg)) 20000) (chk (inb p1 3000) (chk (inb p1 3000) (lt9 (mput M 49 p1.toNatClampNeg ((M 49 p1.toNatClampNeg) + 1)) (fun M1 => bnd2 (q_promiseOf n M1 (M 39 ((M 43 p1.toNatClampNeg) + (M 49 p1.toNatClampNeg)).toNatClampNeg)) (fun r3 M2 => bnd (q_performThen n M2 r3 12 p1 13 p1 (-1)) (fun M4 => some M4))))))))))
-- async
def q_async_32 (n : Nat) (M : MS) (v1 v2 : Int32) : Option (Int32 × MS) := bnd2 (q_isFull M 8) (fun r7 M6 => if r7 = 0 then bnd2 (q_capability M6 ) (fun r9 M8 => bnd2 (q_group n M8 ) (fun r11 M10 => chk (inb r11 3000) (lt9 (mput M10 46 r11.toNatClampNeg r9) (fun M12 => chk (inb r11 3000) (lt9 (mput M12 49 r11.toNatClampNeg 0) (fun M13 => chk (inb r11 3000) (lt9 (mput M13 47 r11.toNatClampNeg v1) (fun M14 => chk (inb r11 3000) (lt9 (mput M14 48 r11.toNatClampNeg v2) (fun M15 => bnd (q_goOn n M15 r11) (fun M16 => chk (inb r9 12000) (some (-2 - (M16 13 r9.toNatClampNeg), M16))))))))))))) else bnd2 (q_fails M6 2) (fun r18 M17 => some (r18, M17)))
def q_async (n : Nat) (M : MS) (p1 p2 : Int32) : Option (Int32 × MS) := lt9 (mput M 0 0 0) (fun M1 => bnd2 (q_isValue M1 p1) (fun r3 M2 => if r3 = 0 then bnd2 (q_fails M2 1) (fun r5 M4 => some (r5, M4)) else if p2 = (-1) then q_async_32 n M2 p1 p2 else bnd2 (q_isHandler M2 p2) (fun r20 M19 => if r20 = 0 then bnd2 (q_fails M19 1) (fun r22 M21 => some (r22, M21)) else q_async_32 n M19 p1 p2)))
-- element
def q_element_86 (n : Nat) (M : MS) (v1 v4 : Int32) : Option MS := chk (inb v4 3000) (chk (inb v4 3000) (lt9 (mput M 45 v4.toNatClampNeg ((M 45 v4.toNatClampNeg) - 1)) (fun M8 => chk (inb v4 3000) (if (M8 45 v4.toNatClampNeg) = 0 then if v1 = 7 then bnd (q_finish n M8 v4 1) (fun M10 => some M10) else bnd (q_finish n M8 v4 0) (fun M9 => some M9) else some M8))))
def q_element_66 (n : Nat) (M : MS) (v1 v2 v3 v4 v5 z0 z1 : Int32) : Option MS := chk (inb z1 3000) (lt9 (mput M 8 z1.toNatClampNeg z0) (fun M5 => chk (inb v5 3000) (lt9 (mput M5 9 v5.toNatClampNeg v3) (fun M6 => chk (inb v2 20000) (lt9 (mput M6 39 v2.toNatClampNeg (-2 - v5)) (fun M7 => q_element_86 n M7 v1 v4))))))
def q_element_43 (n : Nat) (M : MS) (v1 v2 v3 v4 : Int32) : Option MS := bnd2 (q_newObject M 5) (fun r4 M3 => if v1 = 5 then q_element_66 n M3 v1 v2 v3 v4 r4 1 r4 else q_element_66 n M3 v1 v2 v3 v4 r4 0 r4)
def q_element (n : Nat) (M : MS) (p1 p2 p3 : Int32) : Option MS := chk (inb p2 20000) (if (M 41 p2.toNatClampNeg) = 0 then chk (inb p2 20000) (chk (isB 1) (lt9 (mput M 41 p2.toNatClampNeg 1) (fun M1 => chk (inb p2 20000) (chk (inb p2 20000) (lt9 (mput M1 39 p2.toNatClampNeg p3) (fun M2 => if p1 = 5 then q_element_43 n M2 p1 p2 p3 (M1 40 p2.toNatClampNeg) else if p1 = 6 then q_element_43 n M2 p1 p2 p3 (M1 40 p2.toNatClampNeg) else q_element_86 n M2 p1 (M1 40 p2.toNatClampNeg))))))) else some M)
-- note
def q_note (M : MS) (p1 p2 : Int32) : Option MS := chk (inb (M 36 0) 4200) (lt9 (mput M 34 (M 36 0).toNatClampNeg p1) (fun M1 => chk (inb (M1 36 0) 4200) (lt9 (mput M1 35 (M1 36 0).toNatClampNeg p2) (fun M2 => lt9 (mput M2 36 0 ((M2 36 0) + 1)) (fun M3 => some M3)))))
-- handle
def q_handle_32 (n : Nat) (M : MS) (v1 v2 z0 : Int32) : Option (Int32 × MS) := chk (isB z0) (lt9 (mput M 51 0 z0) (fun M2 => chk (inb v1 1000) (if (M2 31 v1.toNatClampNeg) = 0 then chk (inb v1 1000) (some (M2 32 v1.toNatClampNeg, M2)) else if (M2 31 v1.toNatClampNeg) = 1 then some (v2, M2) else if (M2 31 v1.toNatClampNeg) = 2 then chk (inb v1 1000) (some (M2 32 v1.toNatClampNeg, M2)) else if (M2 31 v1.toNatClampNeg) = 3 then some (v2, M2) else chk (inb v1 1000) (chk (inb ((-2) - (M2 32 v1.toNatClampNeg)) 3000) (chk (inb v1 1000) (if (M2 31 v1.toNatClampNeg) = 4 then bnd (q_resolve n M2 (M2 6 ((-2) - (M2 32 v1.toNatClampNeg)).toNatClampNeg) v2) (fun M5 => chk (isB 0) (lt9 (mput M5 51 0 0) (fun M6 => some ((-1), M6)))) else bnd (q_reject n M2 (M2 6 ((-2) - (M2 32 v1.toNatClampNeg)).toNatClampNeg) v2) (fun M3 => chk (isB 0) (lt9 (mput M3 51 0 0) (fun M4 => some ((-1), M4))))))))))
def q_handle_27 (n : Nat) (M : MS) (v1 v2 : Int32) : Option (Int32 × MS) := q_handle_32 n M v1 v2 1
def q_handle (n : Nat) (M : MS) (p1 p2 : Int32) : Option (Int32 × MS) := bnd (q_note M p1 p2) (fun M1 => chk (inb p1 1000) (if (M1 31 p1.toNatClampNeg) = 2 then q_handle_27 n M1 p1 p2 else chk (inb p1 1000) (if (M1 31 p1.toNatClampNeg) = 3 then q_handle_27 n M1 p1 p2 else q_handle_32 n M1 p1 p2 0)))
-- last
def q_last_66 (n : Nat) (M : MS) (v6 z0 z1 : Int32) : Option (Int32 × MS) := bnd2 (q_then n M z1 z0 v6 0 0) (fun r8 M7 => chk (isB 0) (lt9 (mput M7 51 0 0) (fun M9 => some (-2 - r8, M9))))
def q_last (n : Nat) (M : MS) (p1 p2 p3 : Int32) : Option (Int32 × MS) := bnd2 (q_handle n M p2 (-1)) (fun r2 M1 => if (M1 51 0) = 0 then bnd2 (q_promiseOf n M1 r2) (fun r4 M3 => lt9 (mput M3 42 0 ((M3 42 0) + 1)) (fun M5 => chk (inb (M3 42 0) 20000) (lt9 (mput M5 39 (M3 42 0).toNatClampNeg p3) (fun M6 => if p1 = 8 then q_last_66 n M6 (M3 42 0) 10 r4 else q_last_66 n M6 (M3 42 0) 11 r4)))) else some (r2, M1))
-- resume
def q_resume (n : Nat) (M : MS) (p1 p2 : Int32) : Option MS := chk (inb p1 3000) (if (M 48 p1.toNatClampNeg) < 0 then bnd (q_goOn n M p1) (fun M1 => chk (isB 0) (lt9 (mput M1 51 0 0) (fun M2 => some M2))) else chk (inb p1 3000) (bnd2 (q_handle n M (M 48 p1.toNatClampNeg) p2) (fun r4 M3 => if (M3 51 0) = 0 then bnd (q_goOn n M3 p1) (fun M5 => chk (isB 0) (lt9 (mput M5 51 0 0) (fun M6 => some M6))) else chk (isB 0) (lt9 (mput M3 51 0 0) (fun M7 => chk (inb p1 3000) (bnd (q_reject n M7 (M7 46 p1.toNatClampNeg) r4) (fun M8 => some M8)))))))
-- call
def q_call (n : Nat) (M : MS) (p1 p2 p3 : Int32) : Option (Int32 × MS) := chk (isB 0) (lt9 (mput M 51 0 0) (fun M1 => if p1 = 1 then bnd2 (q_handle n M1 p2 p3) (fun r4 M3 => some (r4, M3)) else if p1 = 2 then bnd (q_resolve n M1 p2 p3) (fun M5 => some ((-1), M5)) else if p1 = 3 then bnd (q_reject n M1 p2 p3) (fun M6 => some ((-1), M6)) else if p1 = 4 then bnd (q_element n M1 p1 p2 p3) (fun M7 => some ((-1), M7)) else if p1 = 5 then bnd (q_element n M1 p1 p2 p3) (fun M8 => some ((-1), M8)) else if p1 = 6 then bnd (q_element n M1 p1 p2 p3) (fun M9 => some ((-1), M9)) else if p1 = 7 then bnd (q_element n M1 p1 p2 p3) (fun M10 => some ((-1), M10)) else if p1 = 8 then bnd2 (q_last n M1 p1 p2 p3) (fun r12 M11 => some (r12, M11)) else if p1 = 9 then bnd2 (q_last n M1 p1 p2 p3) (fun r14 M13 => some (r14, M13)) else if p1 = 10 then chk (inb p2 20000) (some (M1 39 p2.toNatClampNeg, M1)) else if p1 = 11 then chk (isB 1) (lt9 (mput M1 51 0 1) (fun M15 => chk (inb p2 20000) (some (M15 39 p2.toNatClampNeg, M15)))) else if p1 = 12 then bnd (q_resume n M1 p2 p3) (fun M16 => some ((-1), M16)) else chk (inb p2 3000) (bnd (q_reject n M1 (M1 46 p2.toNatClampNeg) p3) (fun M2 => some ((-1), M2)))))
-- does
def q_does_58 (n : Nat) (M : MS) (v2 : Int32) : Option (Int32 × MS) := if v2 = 3 then chk (isB 1) (some (1, M)) else chk (isB 0) (some (0, M))
def q_does (n : Nat) (M : MS) (p1 p2 p3 p4 : Int32) : Option (Int32 × MS) := if p2 = 1 then bnd (q_resolve n M p4 p3) (fun M4 => q_does_58 n M4 p2) else if p2 = 2 then bnd (q_reject n M p4 p3) (fun M3 => q_does_58 n M3 p2) else if p2 = 3 then bnd (q_reject n M p4 p3) (fun M2 => q_does_58 n M2 p2) else if p2 = 4 then chk (inb p1 3000) (lt9 (mput M 6 p1.toNatClampNeg p4) (fun M1 => q_does_58 n M1 p2)) else q_does_58 n M p2
-- thenJob
def q_thenJob (n : Nat) (M : MS) (p1 p2 : Int32) : Option MS := bnd2 (q_record M p2) (fun r2 M1 => chk (inb p1 3000) (if (M1 2 p1.toNatClampNeg) = 0 then bnd2 (q_then n M1 p1 2 r2 3 r2) (fun r9 M8 => some M8) else bnd (q_note M1 (-2 - p1) (-1)) (fun M3 => chk (inb p1 3000) (chk (inb p1 3000) (bnd2 (q_does n M3 p1 (M3 9 p1.toNatClampNeg) (M3 10 p1.toNatClampNeg) r2) (fun r5 M4 => if r5 = 0 then chk (inb p1 3000) (chk (inb p1 3000) (bnd2 (q_does n M4 p1 (M4 11 p1.toNatClampNeg) (M4 12 p1.toNatClampNeg) r2) (fun r7 M6 => some M6))) else some M4))))))
-- job
def q_job_85 (n : Nat) (M : MS) (v1 v2 : Int32) : Option MS := chk (inb v1 24000) (if 0 ≤ (M 25 v1.toNatClampNeg) then if (M 51 0) = 0 then chk (inb v1 24000) (bnd (q_resolve n M (M 25 v1.toNatClampNeg) v2) (fun M3 => some M3)) else chk (inb v1 24000) (bnd (q_reject n M (M 25 v1.toNatClampNeg) v2) (fun M4 => some M4)) else some M)
def q_job (n : Nat) (M : MS) : Option MS := lt9 (mput M 29 0 ((M 29 0) + 1)) (fun M1 => chk (inb (M 29 0) 24000) (if (M1 28 (M 29 0).toNatClampNeg) = 0 then chk (inb (M 29 0) 24000) (chk (isB (M1 27 (M 29 0).toNatClampNeg)) (lt9 (mput M1 51 0 (M1 27 (M 29 0).toNatClampNeg)) (fun M2 => chk (inb (M 29 0) 24000) (chk (inb (M 29 0) 24000) (if (M2 23 (M 29 0).toNatClampNeg) = 0 then q_job_85 n M2 (M 29 0) (M2 26 (M 29 0).toNatClampNeg) else chk (inb (M 29 0) 24000) (chk (inb (M 29 0) 24000) (bnd2 (q_call n M2 (M2 23 (M 29 0).toNatClampNeg) (M2 24 (M 29 0).toNatClampNeg) (M2 26 (M 29 0).toNatClampNeg)) (fun r6 M5 => q_job_85 n M5 (M 29 0) r6)))))))) else chk (inb (M 29 0) 24000) (chk (inb (M 29 0) 24000) (bnd (q_thenJob n M1 (M1 24 (M 29 0).toNatClampNeg) (M1 25 (M 29 0).toNatClampNeg)) (fun M7 => some M7)))))
-- jobs
def q_jobs_7 : Nat → MS → Int32 → Int32 → Option (Int32 × MS)
  | 0, _, _, _ => none
  | n + 1, M, v1, v2 => if v1 ≤ v2 then some (v2, M) else if (M 30 0) ≤ (M 29 0) then some (v2, M) else bnd2 (q_isFull M 8) (fun r3 M2 => if r3 = 0 then if (M2 36 0) < 4000 then bnd (q_job n M2 ) (fun M6 => q_jobs_7 n M6 v1 (v2 + 1)) else bnd2 (q_fails M2 1) (fun r8 M7 => some (r8, M7)) else bnd2 (q_fails M2 1) (fun r5 M4 => some (r5, M4)))
def q_jobs (n : Nat) (M : MS) (p1 : Int32) : Option (Int32 × MS) := lt9 (mput M 0 0 0) (fun M1 => q_jobs_7 n M1 p1 0)
-- state
def q_state (M : MS) (p1 : Int32) : Option (Int32 × MS) := lt9 (mput M 0 0 0) (fun M1 => bnd2 (q_isKind M1 p1 0) (fun r3 M2 => if r3 = 0 then bnd2 (q_fails M2 1) (fun r5 M4 => some (r5, M4)) else chk (inb ((-2) - p1) 3000) (chk (inb ((-2) - p1) 3000) (if (M2 7 ((-2) - p1).toNatClampNeg) = 0 then some ((M2 3 ((-2) - p1).toNatClampNeg) + 0, M2) else some ((M2 3 ((-2) - p1).toNatClampNeg) + 4, M2)))))
-- result
def q_result (M : MS) (p1 : Int32) : Option (Int32 × MS) := lt9 (mput M 0 0 0) (fun M1 => bnd2 (q_isKind M1 p1 0) (fun r3 M2 => if r3 = 0 then bnd2 (q_fails M2 1) (fun r5 M4 => some (r5, M4)) else chk (inb ((-2) - p1) 3000) (some (M2 4 ((-2) - p1).toNatClampNeg, M2))))
-- kind
def q_kind (M : MS) (p1 : Int32) : Option (Int32 × MS) := lt9 (mput M 0 0 0) (fun M1 => bnd2 (q_isObject M1 p1) (fun r3 M2 => if r3 = 0 then bnd2 (q_fails M2 1) (fun r5 M4 => some (r5, M4)) else chk (inb ((-2) - p1) 3000) (some (M2 2 ((-2) - p1).toNatClampNeg, M2))))
-- part
def q_part_96 (M : MS) (v2 v3 : Int32) : Option (Int32 × MS) := if v2 < (-1) then bnd2 (q_fails M 1) (fun r5 M4 => some (r5, M4)) else chk (inb v3 3000) (if v2 < (M 9 v3.toNatClampNeg) then if v2 = (-1) then chk (inb v3 3000) (some (M 9 v3.toNatClampNeg, M)) else chk (inb v3 3000) (chk (inb ((M 8 v3.toNatClampNeg) + v2) 20000) (some (M 39 ((M 8 v3.toNatClampNeg) + v2).toNatClampNeg, M))) else bnd2 (q_fails M 1) (fun r7 M6 => some (r7, M6)))
def q_part (M : MS) (p1 p2 : Int32) : Option (Int32 × MS) := lt9 (mput M 0 0 0) (fun M1 => bnd2 (q_isObject M1 p1) (fun r3 M2 => if r3 = 0 then bnd2 (q_fails M2 1) (fun r13 M12 => some (r13, M12)) else chk (inb ((-2) - p1) 3000) (if (M2 2 ((-2) - p1).toNatClampNeg) = 5 then if p2 = (-1) then some (2, M2) else if p2 = 0 then chk (inb ((-2) - p1) 3000) (some (M2 8 ((-2) - p1).toNatClampNeg, M2)) else if p2 = 1 then chk (inb ((-2) - p1) 3000) (some (M2 9 ((-2) - p1).toNatClampNeg, M2)) else bnd2 (q_fails M2 1) (fun r11 M10 => some (r11, M10)) else chk (inb ((-2) - p1) 3000) (if (M2 2 ((-2) - p1).toNatClampNeg) = 4 then q_part_96 M2 p2 ((-2) - p1) else chk (inb ((-2) - p1) 3000) (if (M2 2 ((-2) - p1).toNatClampNeg) = 3 then q_part_96 M2 p2 ((-2) - p1) else bnd2 (q_fails M2 1) (fun r9 M8 => some (r9, M8)))))))
-- log
def q_log (M : MS) (p1 p2 : Int32) : Option (Int32 × MS) := lt9 (mput M 0 0 0) (fun M1 => if p1 < 0 then some ((-1000000), M1) else if p1 < (M1 36 0) then if p2 = 0 then chk (inb p1 4200) (some (M1 34 p1.toNatClampNeg, M1)) else chk (inb p1 4200) (some (M1 35 p1.toNatClampNeg, M1)) else some ((-1000000), M1))
-- count
def q_count (M : MS) (p1 : Int32) : Option (Int32 × MS) := lt9 (mput M 0 0 0) (fun M1 => if p1 = 0 then some (M1 1 0, M1) else if p1 = 1 then some ((M1 30 0) - (M1 29 0), M1) else if p1 = 2 then some (M1 36 0, M1) else if p1 = 3 then some (M1 38 0, M1) else if p1 = 4 then some (M1 33 0, M1) else bnd2 (q_fails M1 1) (fun r3 M2 => some (r3, M2)))
end
section
theorem c_valueOf {l : Launch} {D : va_G} {A : Nat → Prop} {G : MG} (M : MS) (p1 : Int32) : Met l yX12_valueOf (wM yX12_valueOf cX12_valueOf 1 (some .int)) (rM 0 0) (va_Pc [.int p1] (mPre D A G M)) (mQi D A G (-2 - p1) M) 0 0 A := by
  refine m_head (by decide) rfl (Nat.le_of_ble_eq_true rfl) ?_
  intro p e s m args below meth c ls B hW hl
  have hx := B.1
  have hb := B.2.1
  have hl : lv_has ls 1 [(0, .int p1)] := hl
  refine lv_bipush (v := (-2)) hx hb dX12_valueOf_0 (by decide) ?_
  refine lv_iload_n hx hb dX12_valueOf_2 rfl (lv_at hl 0 rfl) ?_
  refine lv_isub hx hb dX12_valueOf_3 ?_
  exact m_iret B hW rfl dX12_valueOf_4
theorem m_valueOf {p : Program} {l : Launch} {e : Env} {R : Room} {s : State} {m : MethodId} {args : Array Value} {below : List Frame} {meth : Method} {c : Code} {H : Heap} {locs : List Loc} {Q : State → Prop} {cc : ByteArray} {pc : Nat} {ls : Array Slot} {rest : List Value} {D : va_G} {A : Nat → Prop} {G : MG} {M : MS} {H0 : Heap} {w0 : Cond} {nL : Nat} {ret : Option FieldType} {p1 : Int32} (B : mB p s m args meth c D G cc nL ret w0) (hW : mOK D A G M H0 H locs) (hl : ls.size = nL) (hR : 1 ≤ R.frames ∧ 20 ≤ R.locals) (hr8 : (rest.map fun v => v.category).sum ≤ 8) (hdg : decode cc pc = .ok (.invokestatic 155, 3))
    (kk : ∀ (H1 : Heap) (locs1 : List Loc), mOK D A G M H0 H1 locs1 → W p l e R s m args below meth c H1 locs1 0 0 Q (F0 m (pc + 3) ls (.int (-2 - p1) :: rest))) : W p l e R s m args below meth c H locs 0 0 Q (F0 m pc ls (.int p1 :: rest)) := by
  obtain ⟨hx, hb, -, hml, hown, hts, -, hK⟩ := B
  refine va_calli (va_runS (As := [.int p1]) (rest := rest) ⟨hx, hb, hml, hown, hts⟩ (c_valueOf (l := l) (D := D) (A := A) (G := G) M p1) (va_cwS 1 hts (g_S u_1028 u_1029 u_5 u_1030) rfl rfl rfl (by decide +kernel) hR) ⟨fun a U g mk q => by obtain ⟨q0, qP, qK, qD⟩ := q; exact ⟨q0, qP, va_K.moved (u := U) (U := U.calling g mk a) (Vm.Alike.refl U.vm) qK, qD⟩, fun U hU hWm => ⟨rfl, by rw [hU]; exact hW.1, va_K.moved hWm.alike hK, hW.2.1⟩⟩ rfl rfl hl rfl (lv_room (m := m) (pc := pc) (ls := ls) (rest := rest) hr8) hdg ⟨Nat.zero_le _, Nat.zero_le _⟩) hW.2.2 (fun _ _ h => h) (fun _ h => h) (fun r1 u t H1 locs1 ht hvm hw hB hz1 hk1 hS => ?_)
  obtain ⟨rfl, rfl⟩ := hw
  obtain ⟨hP1, -, hD1⟩ := hB
  rw [ht] at hP1
  exact kk H1 locs1 ⟨hP1, hD1, hS⟩
set_option maxHeartbeats 4000000 in
set_option maxRecDepth 100000 in
theorem c_thrown {l : Launch} {D : va_G} {A : Nat → Prop} {G : MG} (M : MS) {r : Int32} {M' : MS} (hq : q_thrown M = some (r, M')) : Met l yX12_thrown (wM yX12_thrown prog_14_method_2_code 1 (some .int)) (rM 0 0) (va_Pc [.ref G.2.2.1] (mPre D A G M)) (mQi D A G r M') 0 0 A := by
  refine m_head (by decide) rfl (Nat.le_of_ble_eq_true rfl) ?_
  intro p e s m args below meth c ls B hW hl
  have hx := B.1
  have hb := B.2.1
  have hl : lv_has ls 1 [(0, .ref G.2.2.1)] := hl
  unfold q_thrown at hq
  refine lv_aload_n hx hb dX12_thrown_0 rfl (lv_at hl 0 rfl) ?_
  refine m_get B hW 0 (by decide) u_842 (v := .int (M 0 0)) rfl dX12_thrown_1 ?_
  exact m_iret B hW hq dX12_thrown_4
set_option maxHeartbeats 4000000 in
set_option maxRecDepth 100000 in
theorem c_newObject {l : Launch} {D : va_G} {A : Nat → Prop} {G : MG} (M : MS) (p1 : Int32) {r : Int32} {M' : MS} (hq : q_newObject M p1 = some (r, M')) : Met l yX12_newObject (wM yX12_newObject prog_14_method_10_code 3 (some .int)) (rM 0 0) (va_Pc [.ref G.2.2.1, .int p1] (mPre D A G M)) (mQi D A G r M') 0 0 A := by
  refine m_head (by decide) rfl (Nat.le_of_ble_eq_true rfl) ?_
  intro p e s m args below meth c ls B hW hl
  have hx := B.1
  have hb := B.2.1
  have hl : lv_has ls 3 [(0, .ref G.2.2.1), (1, .int p1)] := hl
  unfold q_newObject at hq
  refine lv_aload_n hx hb dX12_newObject_0 rfl (lv_at hl 0 rfl) ?_
  refine m_get B hW 1 (by decide) u_843 (v := .int (M 1 0)) rfl dX12_newObject_1 ?_
  refine lv_istore_n (lv' := [(2, .int (M 1 0)), (0, .ref G.2.2.1), (1, .int p1)]) hx hb dX12_newObject_4 rfl hl (by decide) rfl (fun ls hl => ?_)
  refine lv_aload_n hx hb dX12_newObject_5 rfl (lv_at hl 1 rfl) ?_
  refine lv_dup hx hb dX12_newObject_6 rfl ?_
  refine m_get B hW 1 (by decide) u_843 (v := .int (M 1 0)) rfl dX12_newObject_7 ?_
  refine lv_iconst (v := 1) hx hb dX12_newObject_10 (by decide) ?_
  refine lv_iadd hx hb dX12_newObject_11 ?_
  refine m_put B hW 1 (by decide) u_843 mS_1 rfl (ty := .int) (tyX12_ok 1 (by decide)) rfl rfl (Nat.le_of_ble_eq_true rfl) dX12_newObject_12 (fun H locs M1 eM hW => ?_)
  replace hq := lt9_u eM hq
  clear eM
  refine lv_aload_n hx hb dX12_newObject_15 rfl (lv_at hl 1 rfl) ?_
  refine m_get B hW 2 (by decide) u_844 (v := .ref (G.2.2.2 2)) rfl dX12_newObject_16 ?_
  refine lv_iload_n hx hb dX12_newObject_19 rfl (lv_at hl 0 rfl) ?_
  refine lv_iload_n hx hb dX12_newObject_20 rfl (lv_at hl 2 rfl) ?_
  obtain ⟨hc, hq⟩ := chk_e hq
  refine m_iast B hW mA_2 hc dX12_newObject_21 (fun H locs M2 eM hW => ?_)
  replace hq := lt9_u eM hq
  clear eM
  refine lv_aload_n hx hb dX12_newObject_22 rfl (lv_at hl 1 rfl) ?_
  refine m_get B hW 3 (by decide) u_845 (v := .ref (G.2.2.2 3)) rfl dX12_newObject_23 ?_
  refine lv_iload_n hx hb dX12_newObject_26 rfl (lv_at hl 0 rfl) ?_
  refine lv_iconst (v := 0) hx hb dX12_newObject_27 (by decide) ?_
  obtain ⟨hc, hq⟩ := chk_e hq
  refine m_iast B hW mA_3 hc dX12_newObject_28 (fun H locs M3 eM hW => ?_)
  replace hq := lt9_u eM hq
  clear eM
  refine lv_aload_n hx hb dX12_newObject_29 rfl (lv_at hl 1 rfl) ?_
  refine m_get B hW 4 (by decide) u_846 (v := .ref (G.2.2.2 4)) rfl dX12_newObject_30 ?_
  refine lv_iload_n hx hb dX12_newObject_33 rfl (lv_at hl 0 rfl) ?_
  refine lv_iconst (v := (-1)) hx hb dX12_newObject_34 (by decide) ?_
  obtain ⟨hc, hq⟩ := chk_e hq
  refine m_iast B hW mA_4 hc dX12_newObject_35 (fun H locs M4 eM hW => ?_)
  replace hq := lt9_u eM hq
  clear eM
  refine lv_aload_n hx hb dX12_newObject_36 rfl (lv_at hl 1 rfl) ?_
  refine m_get B hW 5 (by decide) u_847 (v := .ref (G.2.2.2 5)) rfl dX12_newObject_37 ?_
  refine lv_iload_n hx hb dX12_newObject_40 rfl (lv_at hl 0 rfl) ?_
  refine lv_iconst (v := (-1)) hx hb dX12_newObject_41 (by decide) ?_
  obtain ⟨hc, hq⟩ := chk_e hq
  refine m_iast B hW mA_5 hc dX12_newObject_42 (fun H locs M5 eM hW => ?_)
  replace hq := lt9_u eM hq
  clear eM
  refine lv_aload_n hx hb dX12_newObject_43 rfl (lv_at hl 1 rfl) ?_
  refine m_get B hW 6 (by decide) u_848 (v := .ref (G.2.2.2 6)) rfl dX12_newObject_44 ?_
  refine lv_iload_n hx hb dX12_newObject_47 rfl (lv_at hl 0 rfl) ?_
  refine lv_iconst (v := (-1)) hx hb dX12_newObject_48 (by decide) ?_
  obtain ⟨hc, hq⟩ := chk_e hq
  refine m_iast B hW mA_6 hc dX12_newObject_49 (fun H locs M6 eM hW => ?_)
  replace hq := lt9_u eM hq
  clear eM
  refine lv_iload_n hx hb dX12_newObject_50 rfl (lv_at hl 0 rfl) ?_
  exact m_iret B hW hq dX12_newObject_51
theorem mC_newObject : mC yX12_newObject prog_14_method_10_code 3 (some .int) 148 1 := ⟨fun _ => g_V u_1020 u_1022 us_42 u_5 u_1023, by decide +kernel⟩
set_option maxHeartbeats 4000000 in
set_option maxRecDepth 100000 in
theorem c_record {l : Launch} {D : va_G} {A : Nat → Prop} {G : MG} (M : MS) (p1 : Int32) {r : Int32} {M' : MS} (hq : q_record M p1 = some (r, M')) : Met l yX12_record (wM yX12_record prog_14_method_11_code 3 (some .int)) (rM 0 0) (va_Pc [.ref G.2.2.1, .int p1] (mPre D A G M)) (mQi D A G r M') 0 0 A := by
  refine m_head (by decide) rfl (Nat.le_of_ble_eq_true rfl) ?_
  intro p e s m args below meth c ls B hW hl
  have hx := B.1
  have hb := B.2.1
  have hl : lv_has ls 3 [(0, .ref G.2.2.1), (1, .int p1)] := hl
  unfold q_record at hq
  refine lv_aload_n hx hb dX12_record_0 rfl (lv_at hl 0 rfl) ?_
  refine m_get B hW 15 (by decide) u_857 (v := .int (M 15 0)) rfl dX12_record_1 ?_
  refine lv_istore_n (lv' := [(2, .int (M 15 0)), (0, .ref G.2.2.1), (1, .int p1)]) hx hb dX12_record_4 rfl hl (by decide) rfl (fun ls hl => ?_)
  refine lv_aload_n hx hb dX12_record_5 rfl (lv_at hl 1 rfl) ?_
  refine lv_dup hx hb dX12_record_6 rfl ?_
  refine m_get B hW 15 (by decide) u_857 (v := .int (M 15 0)) rfl dX12_record_7 ?_
  refine lv_iconst (v := 1) hx hb dX12_record_10 (by decide) ?_
  refine lv_iadd hx hb dX12_record_11 ?_
  refine m_put B hW 15 (by decide) u_857 mS_15 rfl (ty := .int) (tyX12_ok 15 (by decide)) rfl rfl (Nat.le_of_ble_eq_true rfl) dX12_record_12 (fun H locs M1 eM hW => ?_)
  replace hq := lt9_u eM hq
  clear eM
  refine lv_aload_n hx hb dX12_record_15 rfl (lv_at hl 1 rfl) ?_
  refine m_get B hW 13 (by decide) u_855 (v := .ref (G.2.2.2 13)) rfl dX12_record_16 ?_
  refine lv_iload_n hx hb dX12_record_19 rfl (lv_at hl 0 rfl) ?_
  refine lv_iload_n hx hb dX12_record_20 rfl (lv_at hl 2 rfl) ?_
  obtain ⟨hc, hq⟩ := chk_e hq
  refine m_iast B hW mA_13 hc dX12_record_21 (fun H locs M2 eM hW => ?_)
  replace hq := lt9_u eM hq
  clear eM
  refine lv_aload_n hx hb dX12_record_22 rfl (lv_at hl 1 rfl) ?_
  refine m_get B hW 14 (by decide) u_856 (v := .ref (G.2.2.2 14)) rfl dX12_record_23 ?_
  refine lv_iload_n hx hb dX12_record_26 rfl (lv_at hl 0 rfl) ?_
  refine lv_iconst (v := 0) hx hb dX12_record_27 (by decide) ?_
  obtain ⟨hc, hq⟩ := chk_e hq
  obtain ⟨hc2, hq⟩ := chk_e hq
  refine m_zast B hW mA_14 hc2 hc dX12_record_28 (fun H locs M3 eM hW => ?_)
  replace hq := lt9_u eM hq
  clear eM
  refine lv_iload_n hx hb dX12_record_29 rfl (lv_at hl 0 rfl) ?_
  exact m_iret B hW hq dX12_record_30
theorem mC_record : mC yX12_record prog_14_method_11_code 3 (some .int) 152 1 := ⟨fun _ => g_V u_1024 u_1026 us_43 u_5 u_1027, by decide +kernel⟩
set_option maxHeartbeats 4000000 in
set_option maxRecDepth 100000 in
theorem c_capability {l : Launch} {D : va_G} {A : Nat → Prop} {G : MG} (M : MS) {r : Int32} {M' : MS} (hq : q_capability M = some (r, M')) : Met l yX12_capability (wM yX12_capability prog_14_method_12_code 1 (some .int)) (rM 1 22) (va_Pc [.ref G.2.2.1] (mPre D A G M)) (mQi D A G r M') 0 0 A := by
  refine m_head (by decide) rfl (Nat.le_of_ble_eq_true rfl) ?_
  intro p e s m args below meth c ls B hW hl
  have hx := B.1
  have hb := B.2.1
  have hl : lv_has ls 1 [(0, .ref G.2.2.1)] := hl
  unfold q_capability at hq
  refine lv_aload_n hx hb dX12_capability_0 rfl (lv_at hl 0 rfl) ?_
  refine lv_aload_n hx hb dX12_capability_1 rfl (lv_at hl 0 rfl) ?_
  refine lv_iconst (v := 0) hx hb dX12_capability_2 (by decide) ?_
  obtain ⟨r2, M1, hg, hq⟩ := bnd2_e hq
  refine m_calli (As := [.int 0]) (rest := [.ref G.2.2.1]) B hW hl.1 (c_newObject M 0 hg) mC_newObject rfl ⟨by decide, by decide⟩ rfl (Nat.le_of_ble_eq_true rfl) dX12_capability_3 (fun H locs hW => ?_)
  clear hg
  obtain ⟨r4, M3, hg, hq⟩ := bnd2_e hq
  refine m_calli (As := [.int r2]) (rest := []) B hW hl.1 (c_record M1 r2 hg) mC_record rfl ⟨by decide, by decide⟩ rfl (Nat.le_of_ble_eq_true rfl) dX12_capability_6 (fun H locs hW => ?_)
  clear hg
  exact m_iret B hW hq dX12_capability_9
theorem mC_capability : mC yX12_capability prog_14_method_12_code 1 (some .int) 171 0 := ⟨fun _ => g_V u_1016 u_1018 us_41 u_5 u_1019, by decide +kernel⟩
set_option maxHeartbeats 4000000 in
set_option maxRecDepth 100000 in
theorem c_fails {l : Launch} {D : va_G} {A : Nat → Prop} {G : MG} (M : MS) (p1 : Int32) {r : Int32} {M' : MS} (hq : q_fails M p1 = some (r, M')) : Met l yX12_fails (wM yX12_fails prog_14_method_3_code 2 (some .int)) (rM 0 0) (va_Pc [.ref G.2.2.1, .int p1] (mPre D A G M)) (mQi D A G r M') 0 0 A := by
  refine m_head (by decide) rfl (Nat.le_of_ble_eq_true rfl) ?_
  intro p e s m args below meth c ls B hW hl
  have hx := B.1
  have hb := B.2.1
  have hl : lv_has ls 2 [(0, .ref G.2.2.1), (1, .int p1)] := hl
  unfold q_fails at hq
  refine lv_aload_n hx hb dX12_fails_0 rfl (lv_at hl 0 rfl) ?_
  refine lv_iload_n hx hb dX12_fails_1 rfl (lv_at hl 1 rfl) ?_
  refine m_put B hW 0 (by decide) u_842 mS_0 rfl (ty := .int) (tyX12_ok 0 (by decide)) rfl rfl (Nat.le_of_ble_eq_true rfl) dX12_fails_2 (fun H locs M1 eM hW => ?_)
  replace hq := lt9_u eM hq
  clear eM
  refine lv_iconst (v := 0) hx hb dX12_fails_5 (by decide) ?_
  exact m_iret B hW hq dX12_fails_6
theorem mC_fails : mC yX12_fails prog_14_method_3_code 2 (some .int) 257 1 := ⟨fun _ => g_V u_1012 u_1014 us_40 u_5 u_1015, by decide +kernel⟩
set_option maxHeartbeats 4000000 in
set_option maxRecDepth 100000 in
theorem c_isFull {l : Launch} {D : va_G} {A : Nat → Prop} {G : MG} (M : MS) (p1 : Int32) {r : Int32} {M' : MS} (hq : q_isFull M p1 = some (r, M')) : Met l yX12_isFull (wM yX12_isFull prog_14_method_9_code 2 (some .boolean)) (rM 0 0) (va_Pc [.ref G.2.2.1, .int p1] (mPre D A G M)) (mQi D A G r M') 0 0 A := by
  refine m_head (by decide) rfl (Nat.le_of_ble_eq_true rfl) ?_
  intro p e s m args below meth c ls B hW hl
  have hx := B.1
  have hb := B.2.1
  have hl : lv_has ls 2 [(0, .ref G.2.2.1), (1, .int p1)] := hl
  unfold q_isFull at hq
  refine lv_sipush (v := 3000) hx hb dX12_isFull_0 (by decide) ?_
  refine lv_aload_n hx hb dX12_isFull_3 rfl (lv_at hl 0 rfl) ?_
  refine m_get B hW 1 (by decide) u_843 (v := .int (M 1 0)) rfl dX12_isFull_4 ?_
  refine lv_isub hx hb dX12_isFull_7 ?_
  refine lv_iload_n hx hb dX12_isFull_8 rfl (lv_at hl 1 rfl) ?_
  refine lv_icmp_ge (tgt := 16) hx hb dX12_isFull_9 (by decide) (fun hc => ?_) (fun hc => ?_)
  · replace hq := if_y hc hq
    refine lv_iconst (v := 0) hx hb dX12_isFull_16 (by decide) ?_
    obtain ⟨hc, hq⟩ := chk_e hq
    exact m_zret B hW hc hq dX12_isFull_17
  · replace hq := if_n hc hq
    refine lv_iconst (v := 1) hx hb dX12_isFull_12 (by decide) ?_
    refine lv_goto (tgt := 17) hx hb dX12_isFull_13 (by decide) ?_
    obtain ⟨hc, hq⟩ := chk_e hq
    exact m_zret B hW hc hq dX12_isFull_17
theorem mC_isFull : mC yX12_isFull prog_14_method_9_code 2 (some .boolean) 254 1 := ⟨fun _ => g_V u_1008 u_1010 us_39 u_5 u_1011, by decide +kernel⟩
set_option maxHeartbeats 4000000 in
set_option maxRecDepth 100000 in
theorem c_promise {l : Launch} {D : va_G} {A : Nat → Prop} {G : MG} (M : MS) {r : Int32} {M' : MS} (hq : q_promise M = some (r, M')) : Met l yX12_promise (wM yX12_promise prog_14_method_33_code 3 (some .int)) (rM 2 42) (va_Pc [.ref G.2.2.1] (mPre D A G M)) (mQi D A G r M') 0 0 A := by
  refine m_head (by decide) rfl (Nat.le_of_ble_eq_true rfl) ?_
  intro p e s m args below meth c ls B hW hl
  have hx := B.1
  have hb := B.2.1
  have hl : lv_has ls 3 [(0, .ref G.2.2.1)] := hl
  unfold q_promise at hq
  refine lv_aload_n hx hb dX12_promise_0 rfl (lv_at hl 0 rfl) ?_
  refine lv_iconst (v := 0) hx hb dX12_promise_1 (by decide) ?_
  refine m_put B hW 0 (by decide) u_842 mS_0 rfl (ty := .int) (tyX12_ok 0 (by decide)) rfl rfl (Nat.le_of_ble_eq_true rfl) dX12_promise_2 (fun H locs M1 eM hW => ?_)
  replace hq := lt9_u eM hq
  clear eM
  refine lv_aload_n hx hb dX12_promise_5 rfl (lv_at hl 0 rfl) ?_
  refine lv_bipush (v := 8) hx hb dX12_promise_6 (by decide) ?_
  obtain ⟨r3, M2, hg, hq⟩ := bnd2_e hq
  refine m_calli (As := [.int 8]) (rest := []) B hW hl.1 (c_isFull M1 8 hg) mC_isFull rfl ⟨by decide, by decide⟩ rfl (Nat.le_of_ble_eq_true rfl) dX12_promise_8 (fun H locs hW => ?_)
  clear hg
  refine lv_if_eq (tgt := 20) hx hb dX12_promise_11 (by decide) (fun hc => ?_) (fun hc => ?_)
  · replace hq := if_y hc hq
    refine lv_aload_n hx hb dX12_promise_20 rfl (lv_at hl 0 rfl) ?_
    obtain ⟨r5, M4, hg, hq⟩ := bnd2_e hq
    refine m_calli (As := []) (rest := []) B hW hl.1 (c_capability M2 hg) mC_capability rfl ⟨by decide, by decide⟩ rfl (Nat.le_of_ble_eq_true rfl) dX12_promise_21 (fun H locs hW => ?_)
    clear hg
    refine lv_istore_n (lv' := [(1, .int r5), (0, .ref G.2.2.1)]) hx hb dX12_promise_24 rfl hl (by decide) rfl (fun ls hl => ?_)
    refine lv_aload_n hx hb dX12_promise_25 rfl (lv_at hl 1 rfl) ?_
    refine m_get B hW 13 (by decide) u_855 (v := .ref (G.2.2.2 13)) rfl dX12_promise_26 ?_
    refine lv_iload_n hx hb dX12_promise_29 rfl (lv_at hl 0 rfl) ?_
    obtain ⟨hc, hq⟩ := chk_e hq
    refine m_iald B hW mA_13 hc dX12_promise_30 ?_
    refine lv_istore_n (lv' := [(2, .int (M4 13 r5.toNatClampNeg)), (1, .int r5), (0, .ref G.2.2.1)]) hx hb dX12_promise_31 rfl hl (by decide) rfl (fun ls hl => ?_)
    refine lv_aload_n hx hb dX12_promise_32 rfl (lv_at hl 2 rfl) ?_
    refine m_get B hW 6 (by decide) u_848 (v := .ref (G.2.2.2 6)) rfl dX12_promise_33 ?_
    refine lv_iload_n hx hb dX12_promise_36 rfl (lv_at hl 0 rfl) ?_
    refine lv_iload_n hx hb dX12_promise_37 rfl (lv_at hl 1 rfl) ?_
    obtain ⟨hc, hq⟩ := chk_e hq
    refine m_iast B hW mA_6 hc dX12_promise_38 (fun H locs M6 eM hW => ?_)
    replace hq := lt9_u eM hq
    clear eM
    refine lv_iload_n hx hb dX12_promise_39 rfl (lv_at hl 0 rfl) ?_
    refine m_valueOf (rest := []) B hW hl.1 ⟨by decide, by decide⟩ (Nat.le_of_ble_eq_true rfl) dX12_promise_40 (fun H locs hW => ?_)
    exact m_iret B hW hq dX12_promise_43
  · replace hq := if_n hc hq
    refine lv_aload_n hx hb dX12_promise_14 rfl (lv_at hl 0 rfl) ?_
    refine lv_iconst (v := 1) hx hb dX12_promise_15 (by decide) ?_
    obtain ⟨r8, M7, hg, hq⟩ := bnd2_e hq
    refine m_calli (As := [.int 1]) (rest := []) B hW hl.1 (c_fails M2 1 hg) mC_fails rfl ⟨by decide, by decide⟩ rfl (Nat.le_of_ble_eq_true rfl) dX12_promise_16 (fun H locs hW => ?_)
    clear hg
    exact m_iret B hW hq dX12_promise_19
set_option maxHeartbeats 4000000 in
set_option maxRecDepth 100000 in
theorem c_isObject {l : Launch} {D : va_G} {A : Nat → Prop} {G : MG} (M : MS) (p1 : Int32) {r : Int32} {M' : MS} (hq : q_isObject M p1 = some (r, M')) : Met l yX12_isObject (wM yX12_isObject prog_14_method_5_code 2 (some .boolean)) (rM 0 0) (va_Pc [.ref G.2.2.1, .int p1] (mPre D A G M)) (mQi D A G r M') 0 0 A := by
  refine m_head (by decide) rfl (Nat.le_of_ble_eq_true rfl) ?_
  intro p e s m args below meth c ls B hW hl
  have hx := B.1
  have hb := B.2.1
  have hl : lv_has ls 2 [(0, .ref G.2.2.1), (1, .int p1)] := hl
  unfold q_isObject at hq
  refine lv_iload_n hx hb dX12_isObject_0 rfl (lv_at hl 1 rfl) ?_
  refine lv_bipush (v := (-2)) hx hb dX12_isObject_1 (by decide) ?_
  refine lv_icmp_gt (tgt := 28) hx hb dX12_isObject_3 (by decide) (fun hc => ?_) (fun hc => ?_)
  · replace hq := if_y hc hq
    refine lv_iconst (v := 0) hx hb dX12_isObject_28 (by decide) ?_
    obtain ⟨hc, hq⟩ := chk_e hq
    exact m_zret B hW hc hq dX12_isObject_29
  · replace hq := if_n hc hq
    refine lv_bipush (v := (-2)) hx hb dX12_isObject_6 (by decide) ?_
    refine lv_iload_n hx hb dX12_isObject_8 rfl (lv_at hl 1 rfl) ?_
    refine lv_isub hx hb dX12_isObject_9 ?_
    refine lv_aload_n hx hb dX12_isObject_10 rfl (lv_at hl 0 rfl) ?_
    refine m_get B hW 1 (by decide) u_843 (v := .int (M 1 0)) rfl dX12_isObject_11 ?_
    refine lv_icmp_ge (tgt := 28) hx hb dX12_isObject_14 (by decide) (fun hc => ?_) (fun hc => ?_)
    · replace hq := if_y hc hq
      refine lv_iconst (v := 0) hx hb dX12_isObject_28 (by decide) ?_
      obtain ⟨hc, hq⟩ := chk_e hq
      exact m_zret B hW hc hq dX12_isObject_29
    · replace hq := if_n hc hq
      refine lv_bipush (v := (-2)) hx hb dX12_isObject_17 (by decide) ?_
      refine lv_iload_n hx hb dX12_isObject_19 rfl (lv_at hl 1 rfl) ?_
      refine lv_isub hx hb dX12_isObject_20 ?_
      refine lv_if_lt (tgt := 28) hx hb dX12_isObject_21 (by decide) (fun hc => ?_) (fun hc => ?_)
      · replace hq := if_y hc hq
        refine lv_iconst (v := 0) hx hb dX12_isObject_28 (by decide) ?_
        obtain ⟨hc, hq⟩ := chk_e hq
        exact m_zret B hW hc hq dX12_isObject_29
      · replace hq := if_n hc hq
        refine lv_iconst (v := 1) hx hb dX12_isObject_24 (by decide) ?_
        refine lv_goto (tgt := 29) hx hb dX12_isObject_25 (by decide) ?_
        obtain ⟨hc, hq⟩ := chk_e hq
        exact m_zret B hW hc hq dX12_isObject_29
theorem mC_isObject : mC yX12_isObject prog_14_method_5_code 2 (some .boolean) 138 1 := ⟨fun _ => g_V u_1039 u_1041 us_45 u_5 u_1042, by decide +kernel⟩
set_option maxHeartbeats 4000000 in
set_option maxRecDepth 100000 in
theorem c_isKind {l : Launch} {D : va_G} {A : Nat → Prop} {G : MG} (M : MS) (p1 p2 : Int32) {r : Int32} {M' : MS} (hq : q_isKind M p1 p2 = some (r, M')) : Met l yX12_isKind (wM yX12_isKind prog_14_method_7_code 3 (some .boolean)) (rM 1 21) (va_Pc [.ref G.2.2.1, .int p1, .int p2] (mPre D A G M)) (mQi D A G r M') 0 0 A := by
  refine m_head (by decide) rfl (Nat.le_of_ble_eq_true rfl) ?_
  intro p e s m args below meth c ls B hW hl
  have hx := B.1
  have hb := B.2.1
  have hl : lv_has ls 3 [(0, .ref G.2.2.1), (1, .int p1), (2, .int p2)] := hl
  unfold q_isKind at hq
  refine lv_aload_n hx hb dX12_isKind_0 rfl (lv_at hl 0 rfl) ?_
  refine lv_iload_n hx hb dX12_isKind_1 rfl (lv_at hl 1 rfl) ?_
  obtain ⟨r2, M1, hg, hq⟩ := bnd2_e hq
  refine m_calli (As := [.int p1]) (rest := []) B hW hl.1 (c_isObject M p1 hg) mC_isObject rfl ⟨by decide, by decide⟩ rfl (Nat.le_of_ble_eq_true rfl) dX12_isKind_2 (fun H locs hW => ?_)
  clear hg
  refine lv_if_eq (tgt := 25) hx hb dX12_isKind_5 (by decide) (fun hc => ?_) (fun hc => ?_)
  · replace hq := if_y hc hq
    refine lv_iconst (v := 0) hx hb dX12_isKind_25 (by decide) ?_
    obtain ⟨hc, hq⟩ := chk_e hq
    exact m_zret B hW hc hq dX12_isKind_26
  · replace hq := if_n hc hq
    refine lv_aload_n hx hb dX12_isKind_8 rfl (lv_at hl 0 rfl) ?_
    refine m_get B hW 2 (by decide) u_844 (v := .ref (G.2.2.2 2)) rfl dX12_isKind_9 ?_
    refine lv_bipush (v := (-2)) hx hb dX12_isKind_12 (by decide) ?_
    refine lv_iload_n hx hb dX12_isKind_14 rfl (lv_at hl 1 rfl) ?_
    refine lv_isub hx hb dX12_isKind_15 ?_
    obtain ⟨hc, hq⟩ := chk_e hq
    refine m_iald B hW mA_2 hc dX12_isKind_16 ?_
    refine lv_iload_n hx hb dX12_isKind_17 rfl (lv_at hl 2 rfl) ?_
    refine lv_icmp_ne (tgt := 25) hx hb dX12_isKind_18 (by decide) (fun hc => ?_) (fun hc => ?_)
    · replace hq := if_n hc hq
      refine lv_iconst (v := 0) hx hb dX12_isKind_25 (by decide) ?_
      obtain ⟨hc, hq⟩ := chk_e hq
      exact m_zret B hW hc hq dX12_isKind_26
    · replace hq := if_y hc hq
      refine lv_iconst (v := 1) hx hb dX12_isKind_21 (by decide) ?_
      refine lv_goto (tgt := 26) hx hb dX12_isKind_22 (by decide) ?_
      obtain ⟨hc, hq⟩ := chk_e hq
      exact m_zret B hW hc hq dX12_isKind_26
theorem mC_isKind : mC yX12_isKind prog_14_method_7_code 3 (some .boolean) 179 2 := ⟨fun _ => g_V u_1047 u_1049 us_47 u_5 u_1050, by decide +kernel⟩
set_option maxHeartbeats 4000000 in
set_option maxRecDepth 100000 in
theorem c_isKept {l : Launch} {D : va_G} {A : Nat → Prop} {G : MG} (M : MS) (p1 : Int32) {r : Int32} {M' : MS} (hq : q_isKept M p1 = some (r, M')) : Met l yX12_isKept (wM yX12_isKept prog_14_method_34_code 2 (some .boolean)) (rM 2 43) (va_Pc [.ref G.2.2.1, .int p1] (mPre D A G M)) (mQi D A G r M') 0 0 A := by
  refine m_head (by decide) rfl (Nat.le_of_ble_eq_true rfl) ?_
  intro p e s m args below meth c ls B hW hl
  have hx := B.1
  have hb := B.2.1
  have hl : lv_has ls 2 [(0, .ref G.2.2.1), (1, .int p1)] := hl
  unfold q_isKept at hq
  refine lv_aload_n hx hb dX12_isKept_0 rfl (lv_at hl 0 rfl) ?_
  refine lv_iload_n hx hb dX12_isKept_1 rfl (lv_at hl 1 rfl) ?_
  refine lv_iconst (v := 0) hx hb dX12_isKept_2 (by decide) ?_
  obtain ⟨r2, M1, hg, hq⟩ := bnd2_e hq
  refine m_calli (As := [.int p1, .int 0]) (rest := []) B hW hl.1 (c_isKind M p1 0 hg) mC_isKind rfl ⟨by decide, by decide⟩ rfl (Nat.le_of_ble_eq_true rfl) dX12_isKept_3 (fun H locs hW => ?_)
  clear hg
  refine lv_if_eq (tgt := 25) hx hb dX12_isKept_6 (by decide) (fun hc => ?_) (fun hc => ?_)
  · replace hq := if_y hc hq
    refine lv_iconst (v := 0) hx hb dX12_isKept_25 (by decide) ?_
    obtain ⟨hc, hq⟩ := chk_e hq
    exact m_zret B hW hc hq dX12_isKept_26
  · replace hq := if_n hc hq
    refine lv_aload_n hx hb dX12_isKept_9 rfl (lv_at hl 0 rfl) ?_
    refine m_get B hW 6 (by decide) u_848 (v := .ref (G.2.2.2 6)) rfl dX12_isKept_10 ?_
    refine lv_bipush (v := (-2)) hx hb dX12_isKept_13 (by decide) ?_
    refine lv_iload_n hx hb dX12_isKept_15 rfl (lv_at hl 1 rfl) ?_
    refine lv_isub hx hb dX12_isKept_16 ?_
    obtain ⟨hc, hq⟩ := chk_e hq
    refine m_iald B hW mA_6 hc dX12_isKept_17 ?_
    refine lv_if_lt (tgt := 25) hx hb dX12_isKept_18 (by decide) (fun hc => ?_) (fun hc => ?_)
    · replace hq := if_y hc hq
      refine lv_iconst (v := 0) hx hb dX12_isKept_25 (by decide) ?_
      obtain ⟨hc, hq⟩ := chk_e hq
      exact m_zret B hW hc hq dX12_isKept_26
    · replace hq := if_n hc hq
      refine lv_iconst (v := 1) hx hb dX12_isKept_21 (by decide) ?_
      refine lv_goto (tgt := 26) hx hb dX12_isKept_22 (by decide) ?_
      obtain ⟨hc, hq⟩ := chk_e hq
      exact m_zret B hW hc hq dX12_isKept_26
theorem mC_isKept : mC yX12_isKept prog_14_method_34_code 2 (some .boolean) 263 1 := ⟨fun _ => g_V u_1043 u_1045 us_46 u_5 u_1046, by decide +kernel⟩
set_option maxHeartbeats 4000000 in
set_option maxRecDepth 100000 in
theorem k_isValue_12 {p : Program} {l : Launch} {e : Env} {s : State} {m : MethodId} {args : Array Value} {below : List Frame} {meth : Method} {c : Code} {D : va_G} {A : Nat → Prop} {G : MG} {r : Int32} {M' : MS} (B : mB p s m args meth c D G prog_14_method_6_code 2 (some .boolean) (Cond.code yX12_isValue prog_14_method_6_code 2 (some .boolean))) :
    ∀ (M : MS) (v1 : Int32), q_isValue_12 M v1 = some (r, M') → ∀ (H : Heap) (locs : List Loc) (ls : Array Slot), mOK D A G M s.heap H locs → lv_has ls 2 [(0, .ref G.2.2.1), (1, .int v1)] → W p l e (rM 1 21) s m args below meth c H locs 0 0 (MQ below (mQi D A G r M') args s 0 0 A) (F0 m 12 ls []) := by
  have hx := B.1
  have hb := B.2.1
  intro M v1 hq _ _ ls hW hl
  unfold q_isValue_12 at hq
  refine lv_aload_n hx hb dX12_isValue_12 rfl (lv_at hl 0 rfl) ?_
  refine lv_iload_n hx hb dX12_isValue_13 rfl (lv_at hl 1 rfl) ?_
  obtain ⟨r2, M1, hg, hq⟩ := bnd2_e hq
  refine m_calli (As := [.int v1]) (rest := []) B hW hl.1 (c_isObject M v1 hg) mC_isObject rfl ⟨by decide, by decide⟩ rfl (Nat.le_of_ble_eq_true rfl) dX12_isValue_14 (fun H locs hW => ?_)
  clear hg
  refine lv_if_eq (tgt := 24) hx hb dX12_isValue_17 (by decide) (fun hc => ?_) (fun hc => ?_)
  · replace hq := if_y hc hq
    refine lv_iconst (v := 0) hx hb dX12_isValue_24 (by decide) ?_
    obtain ⟨hc, hq⟩ := chk_e hq
    exact m_zret B hW hc hq dX12_isValue_25
  · replace hq := if_n hc hq
    refine lv_iconst (v := 1) hx hb dX12_isValue_20 (by decide) ?_
    refine lv_goto (tgt := 25) hx hb dX12_isValue_21 (by decide) ?_
    obtain ⟨hc, hq⟩ := chk_e hq
    exact m_zret B hW hc hq dX12_isValue_25
set_option maxHeartbeats 4000000 in
set_option maxRecDepth 100000 in
theorem c_isValue {l : Launch} {D : va_G} {A : Nat → Prop} {G : MG} (M : MS) (p1 : Int32) {r : Int32} {M' : MS} (hq : q_isValue M p1 = some (r, M')) : Met l yX12_isValue (wM yX12_isValue prog_14_method_6_code 2 (some .boolean)) (rM 1 21) (va_Pc [.ref G.2.2.1, .int p1] (mPre D A G M)) (mQi D A G r M') 0 0 A := by
  refine m_head (by decide) rfl (Nat.le_of_ble_eq_true rfl) ?_
  intro p e s m args below meth c ls B hW hl
  have hx := B.1
  have hb := B.2.1
  have hl : lv_has ls 2 [(0, .ref G.2.2.1), (1, .int p1)] := hl
  unfold q_isValue at hq
  refine lv_iload_n hx hb dX12_isValue_0 rfl (lv_at hl 1 rfl) ?_
  refine lv_iconst (v := (-1)) hx hb dX12_isValue_1 (by decide) ?_
  refine lv_icmp_lt (tgt := 12) hx hb dX12_isValue_2 (by decide) (fun hc => ?_) (fun hc => ?_)
  · replace hq := if_y hc hq
    exact k_isValue_12 B M p1 hq _ _ ls hW (lv_sub hl [0, 1] rfl)
  · replace hq := if_n hc hq
    refine lv_iload_n hx hb dX12_isValue_5 rfl (lv_at hl 1 rfl) ?_
    refine lv_sipush (v := 1000) hx hb dX12_isValue_6 (by decide) ?_
    refine lv_icmp_lt (tgt := 20) hx hb dX12_isValue_9 (by decide) (fun hc => ?_) (fun hc => ?_)
    · replace hq := if_y hc hq
      refine lv_iconst (v := 1) hx hb dX12_isValue_20 (by decide) ?_
      refine lv_goto (tgt := 25) hx hb dX12_isValue_21 (by decide) ?_
      obtain ⟨hc, hq⟩ := chk_e hq
      exact m_zret B hW hc hq dX12_isValue_25
    · replace hq := if_n hc hq
      exact k_isValue_12 B M p1 hq _ _ ls hW (lv_sub hl [0, 1] rfl)
theorem mC_isValue : mC yX12_isValue prog_14_method_6_code 2 (some .boolean) 260 1 := ⟨fun _ => g_V u_1035 u_1037 us_44 u_5 u_1038, by decide +kernel⟩
set_option maxHeartbeats 4000000 in
set_option maxRecDepth 100000 in
theorem k_handler_41 {p : Program} {l : Launch} {e : Env} {s : State} {m : MethodId} {args : Array Value} {below : List Frame} {meth : Method} {c : Code} {D : va_G} {A : Nat → Prop} {G : MG} {r : Int32} {M' : MS} (B : mB p s m args meth c D G prog_14_method_35_code 3 (some .int) (Cond.code yX12_handler prog_14_method_35_code 3 (some .int))) :
    ∀ (M : MS) (v1 v2 : Int32), q_handler_41 M v1 v2 = some (r, M') → ∀ (H : Heap) (locs : List Loc) (ls : Array Slot), mOK D A G M s.heap H locs → lv_has ls 3 [(0, .ref G.2.2.1), (1, .int v1), (2, .int v2)] → W p l e (rM 3 64) s m args below meth c H locs 0 0 (MQ below (mQi D A G r M') args s 0 0 A) (F0 m 41 ls []) := by
  have hx := B.1
  have hb := B.2.1
  intro M v1 v2 hq _ _ ls hW hl
  unfold q_handler_41 at hq
  refine lv_aload_n hx hb dX12_handler_41 rfl (lv_at hl 0 rfl) ?_
  refine m_get B hW 33 (by decide) u_875 (v := .int (M 33 0)) rfl dX12_handler_42 ?_
  refine lv_sipush (v := 1000) hx hb dX12_handler_45 (by decide) ?_
  refine lv_icmp_ne (tgt := 57) hx hb dX12_handler_48 (by decide) (fun hc => ?_) (fun hc => ?_)
  · replace hq := if_n hc hq
    refine lv_aload_n hx hb dX12_handler_57 rfl (lv_at hl 0 rfl) ?_
    refine m_get B hW 31 (by decide) u_873 (v := .ref (G.2.2.2 31)) rfl dX12_handler_58 ?_
    refine lv_aload_n hx hb dX12_handler_61 rfl (lv_at hl 0 rfl) ?_
    refine m_get B hW 33 (by decide) u_875 (v := .int (M 33 0)) rfl dX12_handler_62 ?_
    refine lv_iload_n hx hb dX12_handler_65 rfl (lv_at hl 1 rfl) ?_
    obtain ⟨hc, hq⟩ := chk_e hq
    refine m_iast B hW mA_31 hc dX12_handler_66 (fun H locs M10 eM hW => ?_)
    replace hq := lt9_u eM hq
    clear eM
    refine lv_aload_n hx hb dX12_handler_67 rfl (lv_at hl 0 rfl) ?_
    refine m_get B hW 32 (by decide) u_874 (v := .ref (G.2.2.2 32)) rfl dX12_handler_68 ?_
    refine lv_aload_n hx hb dX12_handler_71 rfl (lv_at hl 0 rfl) ?_
    refine m_get B hW 33 (by decide) u_875 (v := .int (M10 33 0)) rfl dX12_handler_72 ?_
    refine lv_iload_n hx hb dX12_handler_75 rfl (lv_at hl 2 rfl) ?_
    obtain ⟨hc, hq⟩ := chk_e hq
    refine m_iast B hW mA_32 hc dX12_handler_76 (fun H locs M11 eM hW => ?_)
    replace hq := lt9_u eM hq
    clear eM
    refine lv_aload_n hx hb dX12_handler_77 rfl (lv_at hl 0 rfl) ?_
    refine lv_dup hx hb dX12_handler_78 rfl ?_
    refine m_get B hW 33 (by decide) u_875 (v := .int (M11 33 0)) rfl dX12_handler_79 ?_
    refine lv_iconst (v := 1) hx hb dX12_handler_82 (by decide) ?_
    refine lv_iadd hx hb dX12_handler_83 ?_
    refine m_put B hW 33 (by decide) u_875 mS_33 rfl (ty := .int) (tyX12_ok 33 (by decide)) rfl rfl (Nat.le_of_ble_eq_true rfl) dX12_handler_84 (fun H locs M12 eM hW => ?_)
    replace hq := lt9_u eM hq
    clear eM
    refine lv_aload_n hx hb dX12_handler_87 rfl (lv_at hl 0 rfl) ?_
    refine m_get B hW 33 (by decide) u_875 (v := .int (M12 33 0)) rfl dX12_handler_88 ?_
    refine lv_iconst (v := 1) hx hb dX12_handler_91 (by decide) ?_
    refine lv_isub hx hb dX12_handler_92 ?_
    exact m_iret B hW hq dX12_handler_93
  · replace hq := if_y hc hq
    refine lv_aload_n hx hb dX12_handler_51 rfl (lv_at hl 0 rfl) ?_
    refine lv_iconst (v := 2) hx hb dX12_handler_52 (by decide) ?_
    obtain ⟨r14, M13, hg, hq⟩ := bnd2_e hq
    refine m_calli (As := [.int 2]) (rest := []) B hW hl.1 (c_fails M 2 hg) mC_fails rfl ⟨by decide, by decide⟩ rfl (Nat.le_of_ble_eq_true rfl) dX12_handler_53 (fun H locs hW => ?_)
    clear hg
    exact m_iret B hW hq dX12_handler_56
set_option maxHeartbeats 4000000 in
set_option maxRecDepth 100000 in
theorem c_handler {l : Launch} {D : va_G} {A : Nat → Prop} {G : MG} (M : MS) (p1 p2 : Int32) {r : Int32} {M' : MS} (hq : q_handler M p1 p2 = some (r, M')) : Met l yX12_handler (wM yX12_handler prog_14_method_35_code 3 (some .int)) (rM 3 64) (va_Pc [.ref G.2.2.1, .int p1, .int p2] (mPre D A G M)) (mQi D A G r M') 0 0 A := by
  refine m_head (by decide) rfl (Nat.le_of_ble_eq_true rfl) ?_
  intro p e s m args below meth c ls B hW hl
  have hx := B.1
  have hb := B.2.1
  have hl : lv_has ls 3 [(0, .ref G.2.2.1), (1, .int p1), (2, .int p2)] := hl
  unfold q_handler at hq
  refine lv_aload_n hx hb dX12_handler_0 rfl (lv_at hl 0 rfl) ?_
  refine lv_iconst (v := 0) hx hb dX12_handler_1 (by decide) ?_
  refine m_put B hW 0 (by decide) u_842 mS_0 rfl (ty := .int) (tyX12_ok 0 (by decide)) rfl rfl (Nat.le_of_ble_eq_true rfl) dX12_handler_2 (fun H locs M1 eM hW => ?_)
  replace hq := lt9_u eM hq
  clear eM
  refine lv_iload_n hx hb dX12_handler_5 rfl (lv_at hl 1 rfl) ?_
  refine lv_if_lt (tgt := 35) hx hb dX12_handler_6 (by decide) (fun hc => ?_) (fun hc => ?_)
  · replace hq := if_y hc hq
    refine lv_aload_n hx hb dX12_handler_35 rfl (lv_at hl 0 rfl) ?_
    refine lv_iconst (v := 1) hx hb dX12_handler_36 (by decide) ?_
    obtain ⟨r3, M2, hg, hq⟩ := bnd2_e hq
    refine m_calli (As := [.int 1]) (rest := []) B hW hl.1 (c_fails M1 1 hg) mC_fails rfl ⟨by decide, by decide⟩ rfl (Nat.le_of_ble_eq_true rfl) dX12_handler_37 (fun H locs hW => ?_)
    clear hg
    exact m_iret B hW hq dX12_handler_40
  · replace hq := if_n hc hq
    refine lv_iload_n hx hb dX12_handler_9 rfl (lv_at hl 1 rfl) ?_
    refine lv_iconst (v := 5) hx hb dX12_handler_10 (by decide) ?_
    refine lv_icmp_gt (tgt := 35) hx hb dX12_handler_11 (by decide) (fun hc => ?_) (fun hc => ?_)
    · replace hq := if_y hc hq
      refine lv_aload_n hx hb dX12_handler_35 rfl (lv_at hl 0 rfl) ?_
      refine lv_iconst (v := 1) hx hb dX12_handler_36 (by decide) ?_
      obtain ⟨r5, M4, hg, hq⟩ := bnd2_e hq
      refine m_calli (As := [.int 1]) (rest := []) B hW hl.1 (c_fails M1 1 hg) mC_fails rfl ⟨by decide, by decide⟩ rfl (Nat.le_of_ble_eq_true rfl) dX12_handler_37 (fun H locs hW => ?_)
      clear hg
      exact m_iret B hW hq dX12_handler_40
    · replace hq := if_n hc hq
      refine lv_aload_n hx hb dX12_handler_14 rfl (lv_at hl 0 rfl) ?_
      refine lv_iload_n hx hb dX12_handler_15 rfl (lv_at hl 2 rfl) ?_
      obtain ⟨r7, M6, hg, hq⟩ := bnd2_e hq
      refine m_calli (As := [.int p2]) (rest := []) B hW hl.1 (c_isValue M1 p2 hg) mC_isValue rfl ⟨by decide, by decide⟩ rfl (Nat.le_of_ble_eq_true rfl) dX12_handler_16 (fun H locs hW => ?_)
      clear hg
      refine lv_if_eq (tgt := 35) hx hb dX12_handler_19 (by decide) (fun hc => ?_) (fun hc => ?_)
      · replace hq := if_y hc hq
        refine lv_aload_n hx hb dX12_handler_35 rfl (lv_at hl 0 rfl) ?_
        refine lv_iconst (v := 1) hx hb dX12_handler_36 (by decide) ?_
        obtain ⟨r9, M8, hg, hq⟩ := bnd2_e hq
        refine m_calli (As := [.int 1]) (rest := []) B hW hl.1 (c_fails M6 1 hg) mC_fails rfl ⟨by decide, by decide⟩ rfl (Nat.le_of_ble_eq_true rfl) dX12_handler_37 (fun H locs hW => ?_)
        clear hg
        exact m_iret B hW hq dX12_handler_40
      · replace hq := if_n hc hq
        refine lv_iload_n hx hb dX12_handler_22 rfl (lv_at hl 1 rfl) ?_
        refine lv_iconst (v := 3) hx hb dX12_handler_23 (by decide) ?_
        refine lv_icmp_le (tgt := 41) hx hb dX12_handler_24 (by decide) (fun hc => ?_) (fun hc => ?_)
        · replace hq := if_y hc hq
          exact k_handler_41 B M6 p1 p2 hq _ _ ls hW (lv_sub hl [0, 1, 2] rfl)
        · replace hq := if_n hc hq
          refine lv_aload_n hx hb dX12_handler_27 rfl (lv_at hl 0 rfl) ?_
          refine lv_iload_n hx hb dX12_handler_28 rfl (lv_at hl 2 rfl) ?_
          obtain ⟨r16, M15, hg, hq⟩ := bnd2_e hq
          refine m_calli (As := [.int p2]) (rest := []) B hW hl.1 (c_isKept M6 p2 hg) mC_isKept rfl ⟨by decide, by decide⟩ rfl (Nat.le_of_ble_eq_true rfl) dX12_handler_29 (fun H locs hW => ?_)
          clear hg
          refine lv_if_ne (tgt := 41) hx hb dX12_handler_32 (by decide) (fun hc => ?_) (fun hc => ?_)
          · replace hq := if_n hc hq
            exact k_handler_41 B M15 p1 p2 hq _ _ ls hW (lv_sub hl [0, 1, 2] rfl)
          · replace hq := if_y hc hq
            refine lv_aload_n hx hb dX12_handler_35 rfl (lv_at hl 0 rfl) ?_
            refine lv_iconst (v := 1) hx hb dX12_handler_36 (by decide) ?_
            obtain ⟨r18, M17, hg, hq⟩ := bnd2_e hq
            refine m_calli (As := [.int 1]) (rest := []) B hW hl.1 (c_fails M15 1 hg) mC_fails rfl ⟨by decide, by decide⟩ rfl (Nat.le_of_ble_eq_true rfl) dX12_handler_37 (fun H locs hW => ?_)
            clear hg
            exact m_iret B hW hq dX12_handler_40
set_option maxHeartbeats 4000000 in
set_option maxRecDepth 100000 in
theorem c_thenable {l : Launch} {D : va_G} {A : Nat → Prop} {G : MG} (M : MS) (p1 p2 p3 p4 p5 : Int32) {r : Int32} {M' : MS} (hq : q_thenable M p1 p2 p3 p4 p5 = some (r, M')) : Met l yX12_thenable (wM yX12_thenable prog_14_method_36_code 7 (some .int)) (rM 2 42) (va_Pc [.ref G.2.2.1, .int p1, .int p2, .int p3, .int p4, .int p5] (mPre D A G M)) (mQi D A G r M') 0 0 A := by
  refine m_head (by decide) rfl (Nat.le_of_ble_eq_true rfl) ?_
  intro p e s m args below meth c ls B hW hl
  have hx := B.1
  have hb := B.2.1
  have hl : lv_has ls 7 [(0, .ref G.2.2.1), (1, .int p1), (2, .int p2), (3, .int p3), (4, .int p4), (5, .int p5)] := hl
  unfold q_thenable at hq
  refine lv_aload_n hx hb dX12_thenable_0 rfl (lv_at hl 0 rfl) ?_
  refine lv_iconst (v := 0) hx hb dX12_thenable_1 (by decide) ?_
  refine m_put B hW 0 (by decide) u_842 mS_0 rfl (ty := .int) (tyX12_ok 0 (by decide)) rfl rfl (Nat.le_of_ble_eq_true rfl) dX12_thenable_2 (fun H locs M1 eM hW => ?_)
  replace hq := lt9_u eM hq
  clear eM
  refine lv_iload_n hx hb dX12_thenable_5 rfl (lv_at hl 1 rfl) ?_
  refine lv_if_lt (tgt := 51) hx hb dX12_thenable_6 (by decide) (fun hc => ?_) (fun hc => ?_)
  · replace hq := if_y hc hq
    refine lv_aload_n hx hb dX12_thenable_51 rfl (lv_at hl 0 rfl) ?_
    refine lv_iconst (v := 1) hx hb dX12_thenable_52 (by decide) ?_
    obtain ⟨r3, M2, hg, hq⟩ := bnd2_e hq
    refine m_calli (As := [.int 1]) (rest := []) B hW hl.1 (c_fails M1 1 hg) mC_fails rfl ⟨by decide, by decide⟩ rfl (Nat.le_of_ble_eq_true rfl) dX12_thenable_53 (fun H locs hW => ?_)
    clear hg
    exact m_iret B hW hq dX12_thenable_56
  · replace hq := if_n hc hq
    refine lv_iload_n hx hb dX12_thenable_9 rfl (lv_at hl 1 rfl) ?_
    refine lv_iconst (v := 2) hx hb dX12_thenable_10 (by decide) ?_
    refine lv_icmp_gt (tgt := 51) hx hb dX12_thenable_11 (by decide) (fun hc => ?_) (fun hc => ?_)
    · replace hq := if_y hc hq
      refine lv_aload_n hx hb dX12_thenable_51 rfl (lv_at hl 0 rfl) ?_
      refine lv_iconst (v := 1) hx hb dX12_thenable_52 (by decide) ?_
      obtain ⟨r5, M4, hg, hq⟩ := bnd2_e hq
      refine m_calli (As := [.int 1]) (rest := []) B hW hl.1 (c_fails M1 1 hg) mC_fails rfl ⟨by decide, by decide⟩ rfl (Nat.le_of_ble_eq_true rfl) dX12_thenable_53 (fun H locs hW => ?_)
      clear hg
      exact m_iret B hW hq dX12_thenable_56
    · replace hq := if_n hc hq
      refine lv_iload_n hx hb dX12_thenable_14 rfl (lv_at hl 2 rfl) ?_
      refine lv_if_lt (tgt := 51) hx hb dX12_thenable_15 (by decide) (fun hc => ?_) (fun hc => ?_)
      · replace hq := if_y hc hq
        refine lv_aload_n hx hb dX12_thenable_51 rfl (lv_at hl 0 rfl) ?_
        refine lv_iconst (v := 1) hx hb dX12_thenable_52 (by decide) ?_
        obtain ⟨r7, M6, hg, hq⟩ := bnd2_e hq
        refine m_calli (As := [.int 1]) (rest := []) B hW hl.1 (c_fails M1 1 hg) mC_fails rfl ⟨by decide, by decide⟩ rfl (Nat.le_of_ble_eq_true rfl) dX12_thenable_53 (fun H locs hW => ?_)
        clear hg
        exact m_iret B hW hq dX12_thenable_56
      · replace hq := if_n hc hq
        refine lv_iload_n hx hb dX12_thenable_18 rfl (lv_at hl 2 rfl) ?_
        refine lv_iconst (v := 4) hx hb dX12_thenable_19 (by decide) ?_
        refine lv_icmp_gt (tgt := 51) hx hb dX12_thenable_20 (by decide) (fun hc => ?_) (fun hc => ?_)
        · replace hq := if_y hc hq
          refine lv_aload_n hx hb dX12_thenable_51 rfl (lv_at hl 0 rfl) ?_
          refine lv_iconst (v := 1) hx hb dX12_thenable_52 (by decide) ?_
          obtain ⟨r9, M8, hg, hq⟩ := bnd2_e hq
          refine m_calli (As := [.int 1]) (rest := []) B hW hl.1 (c_fails M1 1 hg) mC_fails rfl ⟨by decide, by decide⟩ rfl (Nat.le_of_ble_eq_true rfl) dX12_thenable_53 (fun H locs hW => ?_)
          clear hg
          exact m_iret B hW hq dX12_thenable_56
        · replace hq := if_n hc hq
          refine lv_iload hx hb dX12_thenable_23 (lv_at hl 4 rfl) ?_
          refine lv_if_lt (tgt := 51) hx hb dX12_thenable_25 (by decide) (fun hc => ?_) (fun hc => ?_)
          · replace hq := if_y hc hq
            refine lv_aload_n hx hb dX12_thenable_51 rfl (lv_at hl 0 rfl) ?_
            refine lv_iconst (v := 1) hx hb dX12_thenable_52 (by decide) ?_
            obtain ⟨r11, M10, hg, hq⟩ := bnd2_e hq
            refine m_calli (As := [.int 1]) (rest := []) B hW hl.1 (c_fails M1 1 hg) mC_fails rfl ⟨by decide, by decide⟩ rfl (Nat.le_of_ble_eq_true rfl) dX12_thenable_53 (fun H locs hW => ?_)
            clear hg
            exact m_iret B hW hq dX12_thenable_56
          · replace hq := if_n hc hq
            refine lv_iload hx hb dX12_thenable_28 (lv_at hl 4 rfl) ?_
            refine lv_iconst (v := 4) hx hb dX12_thenable_30 (by decide) ?_
            refine lv_icmp_gt (tgt := 51) hx hb dX12_thenable_31 (by decide) (fun hc => ?_) (fun hc => ?_)
            · replace hq := if_y hc hq
              refine lv_aload_n hx hb dX12_thenable_51 rfl (lv_at hl 0 rfl) ?_
              refine lv_iconst (v := 1) hx hb dX12_thenable_52 (by decide) ?_
              obtain ⟨r13, M12, hg, hq⟩ := bnd2_e hq
              refine m_calli (As := [.int 1]) (rest := []) B hW hl.1 (c_fails M1 1 hg) mC_fails rfl ⟨by decide, by decide⟩ rfl (Nat.le_of_ble_eq_true rfl) dX12_thenable_53 (fun H locs hW => ?_)
              clear hg
              exact m_iret B hW hq dX12_thenable_56
            · replace hq := if_n hc hq
              refine lv_aload_n hx hb dX12_thenable_34 rfl (lv_at hl 0 rfl) ?_
              refine lv_iload_n hx hb dX12_thenable_35 rfl (lv_at hl 3 rfl) ?_
              obtain ⟨r15, M14, hg, hq⟩ := bnd2_e hq
              refine m_calli (As := [.int p3]) (rest := []) B hW hl.1 (c_isValue M1 p3 hg) mC_isValue rfl ⟨by decide, by decide⟩ rfl (Nat.le_of_ble_eq_true rfl) dX12_thenable_36 (fun H locs hW => ?_)
              clear hg
              refine lv_if_eq (tgt := 51) hx hb dX12_thenable_39 (by decide) (fun hc => ?_) (fun hc => ?_)
              · replace hq := if_y hc hq
                refine lv_aload_n hx hb dX12_thenable_51 rfl (lv_at hl 0 rfl) ?_
                refine lv_iconst (v := 1) hx hb dX12_thenable_52 (by decide) ?_
                obtain ⟨r17, M16, hg, hq⟩ := bnd2_e hq
                refine m_calli (As := [.int 1]) (rest := []) B hW hl.1 (c_fails M14 1 hg) mC_fails rfl ⟨by decide, by decide⟩ rfl (Nat.le_of_ble_eq_true rfl) dX12_thenable_53 (fun H locs hW => ?_)
                clear hg
                exact m_iret B hW hq dX12_thenable_56
              · replace hq := if_n hc hq
                refine lv_aload_n hx hb dX12_thenable_42 rfl (lv_at hl 0 rfl) ?_
                refine lv_iload hx hb dX12_thenable_43 (lv_at hl 5 rfl) ?_
                obtain ⟨r19, M18, hg, hq⟩ := bnd2_e hq
                refine m_calli (As := [.int p5]) (rest := []) B hW hl.1 (c_isValue M14 p5 hg) mC_isValue rfl ⟨by decide, by decide⟩ rfl (Nat.le_of_ble_eq_true rfl) dX12_thenable_45 (fun H locs hW => ?_)
                clear hg
                refine lv_if_ne (tgt := 57) hx hb dX12_thenable_48 (by decide) (fun hc => ?_) (fun hc => ?_)
                · replace hq := if_n hc hq
                  refine lv_aload_n hx hb dX12_thenable_57 rfl (lv_at hl 0 rfl) ?_
                  refine lv_bipush (v := 8) hx hb dX12_thenable_58 (by decide) ?_
                  obtain ⟨r21, M20, hg, hq⟩ := bnd2_e hq
                  refine m_calli (As := [.int 8]) (rest := []) B hW hl.1 (c_isFull M18 8 hg) mC_isFull rfl ⟨by decide, by decide⟩ rfl (Nat.le_of_ble_eq_true rfl) dX12_thenable_60 (fun H locs hW => ?_)
                  clear hg
                  refine lv_if_eq (tgt := 72) hx hb dX12_thenable_63 (by decide) (fun hc => ?_) (fun hc => ?_)
                  · replace hq := if_y hc hq
                    refine lv_aload_n hx hb dX12_thenable_72 rfl (lv_at hl 0 rfl) ?_
                    refine lv_iconst (v := 1) hx hb dX12_thenable_73 (by decide) ?_
                    obtain ⟨r23, M22, hg, hq⟩ := bnd2_e hq
                    refine m_calli (As := [.int 1]) (rest := []) B hW hl.1 (c_newObject M20 1 hg) mC_newObject rfl ⟨by decide, by decide⟩ rfl (Nat.le_of_ble_eq_true rfl) dX12_thenable_74 (fun H locs hW => ?_)
                    clear hg
                    refine lv_istore (lv' := [(6, .int r23), (0, .ref G.2.2.1), (1, .int p1), (2, .int p2), (3, .int p3), (4, .int p4), (5, .int p5)]) hx hb dX12_thenable_77 hl (by decide) rfl (fun ls hl => ?_)
                    refine lv_aload_n hx hb dX12_thenable_79 rfl (lv_at hl 1 rfl) ?_
                    refine m_get B hW 8 (by decide) u_850 (v := .ref (G.2.2.2 8)) rfl dX12_thenable_80 ?_
                    refine lv_iload hx hb dX12_thenable_83 (lv_at hl 0 rfl) ?_
                    refine lv_iload_n hx hb dX12_thenable_85 rfl (lv_at hl 2 rfl) ?_
                    obtain ⟨hc, hq⟩ := chk_e hq
                    refine m_iast B hW mA_8 hc dX12_thenable_86 (fun H locs M24 eM hW => ?_)
                    replace hq := lt9_u eM hq
                    clear eM
                    refine lv_aload_n hx hb dX12_thenable_87 rfl (lv_at hl 1 rfl) ?_
                    refine m_get B hW 9 (by decide) u_851 (v := .ref (G.2.2.2 9)) rfl dX12_thenable_88 ?_
                    refine lv_iload hx hb dX12_thenable_91 (lv_at hl 0 rfl) ?_
                    refine lv_iload_n hx hb dX12_thenable_93 rfl (lv_at hl 3 rfl) ?_
                    obtain ⟨hc, hq⟩ := chk_e hq
                    refine m_iast B hW mA_9 hc dX12_thenable_94 (fun H locs M25 eM hW => ?_)
                    replace hq := lt9_u eM hq
                    clear eM
                    refine lv_aload_n hx hb dX12_thenable_95 rfl (lv_at hl 1 rfl) ?_
                    refine m_get B hW 10 (by decide) u_852 (v := .ref (G.2.2.2 10)) rfl dX12_thenable_96 ?_
                    refine lv_iload hx hb dX12_thenable_99 (lv_at hl 0 rfl) ?_
                    refine lv_iload_n hx hb dX12_thenable_101 rfl (lv_at hl 4 rfl) ?_
                    obtain ⟨hc, hq⟩ := chk_e hq
                    refine m_iast B hW mA_10 hc dX12_thenable_102 (fun H locs M26 eM hW => ?_)
                    replace hq := lt9_u eM hq
                    clear eM
                    refine lv_aload_n hx hb dX12_thenable_103 rfl (lv_at hl 1 rfl) ?_
                    refine m_get B hW 11 (by decide) u_853 (v := .ref (G.2.2.2 11)) rfl dX12_thenable_104 ?_
                    refine lv_iload hx hb dX12_thenable_107 (lv_at hl 0 rfl) ?_
                    refine lv_iload hx hb dX12_thenable_109 (lv_at hl 5 rfl) ?_
                    obtain ⟨hc, hq⟩ := chk_e hq
                    refine m_iast B hW mA_11 hc dX12_thenable_111 (fun H locs M27 eM hW => ?_)
                    replace hq := lt9_u eM hq
                    clear eM
                    refine lv_aload_n hx hb dX12_thenable_112 rfl (lv_at hl 1 rfl) ?_
                    refine m_get B hW 12 (by decide) u_854 (v := .ref (G.2.2.2 12)) rfl dX12_thenable_113 ?_
                    refine lv_iload hx hb dX12_thenable_116 (lv_at hl 0 rfl) ?_
                    refine lv_iload hx hb dX12_thenable_118 (lv_at hl 6 rfl) ?_
                    obtain ⟨hc, hq⟩ := chk_e hq
                    refine m_iast B hW mA_12 hc dX12_thenable_120 (fun H locs M28 eM hW => ?_)
                    replace hq := lt9_u eM hq
                    clear eM
                    refine lv_iload hx hb dX12_thenable_121 (lv_at hl 0 rfl) ?_
                    refine m_valueOf (rest := []) B hW hl.1 ⟨by decide, by decide⟩ (Nat.le_of_ble_eq_true rfl) dX12_thenable_123 (fun H locs hW => ?_)
                    exact m_iret B hW hq dX12_thenable_126
                  · replace hq := if_n hc hq
                    refine lv_aload_n hx hb dX12_thenable_66 rfl (lv_at hl 0 rfl) ?_
                    refine lv_iconst (v := 2) hx hb dX12_thenable_67 (by decide) ?_
                    obtain ⟨r30, M29, hg, hq⟩ := bnd2_e hq
                    refine m_calli (As := [.int 2]) (rest := []) B hW hl.1 (c_fails M20 2 hg) mC_fails rfl ⟨by decide, by decide⟩ rfl (Nat.le_of_ble_eq_true rfl) dX12_thenable_68 (fun H locs hW => ?_)
                    clear hg
                    exact m_iret B hW hq dX12_thenable_71
                · replace hq := if_y hc hq
                  refine lv_aload_n hx hb dX12_thenable_51 rfl (lv_at hl 0 rfl) ?_
                  refine lv_iconst (v := 1) hx hb dX12_thenable_52 (by decide) ?_
                  obtain ⟨r32, M31, hg, hq⟩ := bnd2_e hq
                  refine m_calli (As := [.int 1]) (rest := []) B hW hl.1 (c_fails M18 1 hg) mC_fails rfl ⟨by decide, by decide⟩ rfl (Nat.le_of_ble_eq_true rfl) dX12_thenable_53 (fun H locs hW => ?_)
                  clear hg
                  exact m_iret B hW hq dX12_thenable_56
set_option maxHeartbeats 4000000 in
set_option maxRecDepth 100000 in
theorem k_react_86 {p : Program} {l : Launch} {e : Env} {s : State} {m : MethodId} {args : Array Value} {below : List Frame} {meth : Method} {c : Code} {D : va_G} {A : Nat → Prop} {G : MG} {M' : MS} (B : mB p s m args meth c D G prog_14_method_16_code 4 none (Cond.code yX12_react prog_14_method_16_code 4 none)) :
    ∀ (M : MS) (v1 v3 z0 z1 : Int32), q_react_86 M v1 v3 z0 z1 = some M' → ∀ (H : Heap) (locs : List Loc) (ls : Array Slot), mOK D A G M s.heap H locs → lv_has ls 4 [(0, .ref G.2.2.1), (1, .int v1), (3, .int v3)] → W p l e (rM 0 0) s m args below meth c H locs 0 0 (MQ below (mQv D A G M') args s 0 0 A) (F0 m 86 ls [.int z0, .int z1, .ref (G.2.2.2 24)]) := by
  have hx := B.1
  have hb := B.2.1
  intro M v1 v3 z0 z1 hq _ _ ls hW hl
  unfold q_react_86 at hq
  obtain ⟨hc, hq⟩ := chk_e hq
  refine m_iast B hW mA_24 hc dX12_react_86 (fun H locs M4 eM hW => ?_)
  replace hq := lt9_u eM hq
  clear eM
  refine lv_aload_n hx hb dX12_react_87 rfl (lv_at hl 0 rfl) ?_
  refine m_get B hW 25 (by decide) u_867 (v := .ref (G.2.2.2 25)) rfl dX12_react_88 ?_
  refine lv_aload_n hx hb dX12_react_91 rfl (lv_at hl 0 rfl) ?_
  refine m_get B hW 30 (by decide) u_872 (v := .int (M4 30 0)) rfl dX12_react_92 ?_
  refine lv_aload_n hx hb dX12_react_95 rfl (lv_at hl 0 rfl) ?_
  refine m_get B hW 17 (by decide) u_859 (v := .ref (G.2.2.2 17)) rfl dX12_react_96 ?_
  refine lv_iload_n hx hb dX12_react_99 rfl (lv_at hl 1 rfl) ?_
  obtain ⟨hc, hq⟩ := chk_e hq
  refine m_iald B hW mA_17 hc dX12_react_100 ?_
  obtain ⟨hc, hq⟩ := chk_e hq
  refine m_iast B hW mA_25 hc dX12_react_101 (fun H locs M5 eM hW => ?_)
  replace hq := lt9_u eM hq
  clear eM
  refine lv_aload_n hx hb dX12_react_102 rfl (lv_at hl 0 rfl) ?_
  refine m_get B hW 26 (by decide) u_868 (v := .ref (G.2.2.2 26)) rfl dX12_react_103 ?_
  refine lv_aload_n hx hb dX12_react_106 rfl (lv_at hl 0 rfl) ?_
  refine m_get B hW 30 (by decide) u_872 (v := .int (M5 30 0)) rfl dX12_react_107 ?_
  refine lv_iload_n hx hb dX12_react_110 rfl (lv_at hl 2 rfl) ?_
  obtain ⟨hc, hq⟩ := chk_e hq
  refine m_iast B hW mA_26 hc dX12_react_111 (fun H locs M6 eM hW => ?_)
  replace hq := lt9_u eM hq
  clear eM
  refine lv_aload_n hx hb dX12_react_112 rfl (lv_at hl 0 rfl) ?_
  refine lv_dup hx hb dX12_react_113 rfl ?_
  refine m_get B hW 30 (by decide) u_872 (v := .int (M6 30 0)) rfl dX12_react_114 ?_
  refine lv_iconst (v := 1) hx hb dX12_react_117 (by decide) ?_
  refine lv_iadd hx hb dX12_react_118 ?_
  refine m_put B hW 30 (by decide) u_872 mS_30 rfl (ty := .int) (tyX12_ok 30 (by decide)) rfl rfl (Nat.le_of_ble_eq_true rfl) dX12_react_119 (fun H locs M7 eM hW => ?_)
  replace hq := lt9_u eM hq
  clear eM
  exact m_vret B hW hq dX12_react_122
set_option maxHeartbeats 4000000 in
set_option maxRecDepth 100000 in
theorem k_react_57 {p : Program} {l : Launch} {e : Env} {s : State} {m : MethodId} {args : Array Value} {below : List Frame} {meth : Method} {c : Code} {D : va_G} {A : Nat → Prop} {G : MG} {M' : MS} (B : mB p s m args meth c D G prog_14_method_16_code 4 none (Cond.code yX12_react prog_14_method_16_code 4 none)) :
    ∀ (M : MS) (v1 v2 v3 z0 z1 : Int32), q_react_57 M v1 v2 v3 z0 z1 = some M' → ∀ (H : Heap) (locs : List Loc) (ls : Array Slot), mOK D A G M s.heap H locs → lv_has ls 4 [(0, .ref G.2.2.1), (1, .int v1), (2, .int v2), (3, .int v3)] → W p l e (rM 0 0) s m args below meth c H locs 0 0 (MQ below (mQv D A G M') args s 0 0 A) (F0 m 57 ls [.int z0, .int z1, .ref (G.2.2.2 23)]) := by
  have hx := B.1
  have hb := B.2.1
  intro M v1 v2 v3 z0 z1 hq _ _ ls hW hl
  unfold q_react_57 at hq
  obtain ⟨hc, hq⟩ := chk_e hq
  refine m_iast B hW mA_23 hc dX12_react_57 (fun H locs M3 eM hW => ?_)
  replace hq := lt9_u eM hq
  clear eM
  refine lv_aload_n hx hb dX12_react_58 rfl (lv_at hl 0 rfl) ?_
  refine m_get B hW 24 (by decide) u_866 (v := .ref (G.2.2.2 24)) rfl dX12_react_59 ?_
  refine lv_aload_n hx hb dX12_react_62 rfl (lv_at hl 0 rfl) ?_
  refine m_get B hW 30 (by decide) u_872 (v := .int (M3 30 0)) rfl dX12_react_63 ?_
  refine lv_iload_n hx hb dX12_react_66 rfl (lv_at hl 2 rfl) ?_
  refine lv_iconst (v := 2) hx hb dX12_react_67 (by decide) ?_
  refine lv_icmp_ne (tgt := 80) hx hb dX12_react_68 (by decide) (fun hc => ?_) (fun hc => ?_)
  · replace hq := if_n hc hq
    refine lv_aload_n hx hb dX12_react_80 rfl (lv_at hl 0 rfl) ?_
    refine m_get B hW 19 (by decide) u_861 (v := .ref (G.2.2.2 19)) rfl dX12_react_81 ?_
    refine lv_iload_n hx hb dX12_react_84 rfl (lv_at hl 1 rfl) ?_
    obtain ⟨hc, hq⟩ := chk_e hq
    refine m_iald B hW mA_19 hc dX12_react_85 ?_
    exact k_react_86 B M3 v1 v3 (M3 19 v1.toNatClampNeg) (M3 30 0) hq _ _ ls hW (lv_sub hl [0, 1, 3] rfl)
  · replace hq := if_y hc hq
    refine lv_aload_n hx hb dX12_react_71 rfl (lv_at hl 0 rfl) ?_
    refine m_get B hW 21 (by decide) u_863 (v := .ref (G.2.2.2 21)) rfl dX12_react_72 ?_
    refine lv_iload_n hx hb dX12_react_75 rfl (lv_at hl 1 rfl) ?_
    obtain ⟨hc, hq⟩ := chk_e hq
    refine m_iald B hW mA_21 hc dX12_react_76 ?_
    refine lv_goto (tgt := 86) hx hb dX12_react_77 (by decide) ?_
    exact k_react_86 B M3 v1 v3 (M3 21 v1.toNatClampNeg) (M3 30 0) hq _ _ ls hW (lv_sub hl [0, 1, 3] rfl)
set_option maxHeartbeats 4000000 in
set_option maxRecDepth 100000 in
theorem k_react_28 {p : Program} {l : Launch} {e : Env} {s : State} {m : MethodId} {args : Array Value} {below : List Frame} {meth : Method} {c : Code} {D : va_G} {A : Nat → Prop} {G : MG} {M' : MS} (B : mB p s m args meth c D G prog_14_method_16_code 4 none (Cond.code yX12_react prog_14_method_16_code 4 none)) :
    ∀ (M : MS) (v1 v2 v3 z0 z1 : Int32), q_react_28 M v1 v2 v3 z0 z1 = some M' → ∀ (H : Heap) (locs : List Loc) (ls : Array Slot), mOK D A G M s.heap H locs → lv_has ls 4 [(0, .ref G.2.2.1), (1, .int v1), (2, .int v2), (3, .int v3)] → W p l e (rM 0 0) s m args below meth c H locs 0 0 (MQ below (mQv D A G M') args s 0 0 A) (F0 m 28 ls [.int z0, .int z1, .ref (G.2.2.2 27)]) := by
  have hx := B.1
  have hb := B.2.1
  intro M v1 v2 v3 z0 z1 hq _ _ ls hW hl
  unfold q_react_28 at hq
  obtain ⟨hc, hq⟩ := chk_e hq
  obtain ⟨hc2, hq⟩ := chk_e hq
  refine m_zast B hW mA_27 hc2 hc dX12_react_28 (fun H locs M2 eM hW => ?_)
  replace hq := lt9_u eM hq
  clear eM
  refine lv_aload_n hx hb dX12_react_29 rfl (lv_at hl 0 rfl) ?_
  refine m_get B hW 23 (by decide) u_865 (v := .ref (G.2.2.2 23)) rfl dX12_react_30 ?_
  refine lv_aload_n hx hb dX12_react_33 rfl (lv_at hl 0 rfl) ?_
  refine m_get B hW 30 (by decide) u_872 (v := .int (M2 30 0)) rfl dX12_react_34 ?_
  refine lv_iload_n hx hb dX12_react_37 rfl (lv_at hl 2 rfl) ?_
  refine lv_iconst (v := 2) hx hb dX12_react_38 (by decide) ?_
  refine lv_icmp_ne (tgt := 51) hx hb dX12_react_39 (by decide) (fun hc => ?_) (fun hc => ?_)
  · replace hq := if_n hc hq
    refine lv_aload_n hx hb dX12_react_51 rfl (lv_at hl 0 rfl) ?_
    refine m_get B hW 18 (by decide) u_860 (v := .ref (G.2.2.2 18)) rfl dX12_react_52 ?_
    refine lv_iload_n hx hb dX12_react_55 rfl (lv_at hl 1 rfl) ?_
    obtain ⟨hc, hq⟩ := chk_e hq
    refine m_iald B hW mA_18 hc dX12_react_56 ?_
    exact k_react_57 B M2 v1 v2 v3 (M2 18 v1.toNatClampNeg) (M2 30 0) hq _ _ ls hW (lv_sub hl [0, 1, 2, 3] rfl)
  · replace hq := if_y hc hq
    refine lv_aload_n hx hb dX12_react_42 rfl (lv_at hl 0 rfl) ?_
    refine m_get B hW 20 (by decide) u_862 (v := .ref (G.2.2.2 20)) rfl dX12_react_43 ?_
    refine lv_iload_n hx hb dX12_react_46 rfl (lv_at hl 1 rfl) ?_
    obtain ⟨hc, hq⟩ := chk_e hq
    refine m_iald B hW mA_20 hc dX12_react_47 ?_
    refine lv_goto (tgt := 57) hx hb dX12_react_48 (by decide) ?_
    exact k_react_57 B M2 v1 v2 v3 (M2 20 v1.toNatClampNeg) (M2 30 0) hq _ _ ls hW (lv_sub hl [0, 1, 2, 3] rfl)
set_option maxHeartbeats 4000000 in
set_option maxRecDepth 100000 in
theorem c_react {l : Launch} {D : va_G} {A : Nat → Prop} {G : MG} (M : MS) (p1 p2 p3 : Int32) {M' : MS} (hq : q_react M p1 p2 p3 = some M') : Met l yX12_react (wM yX12_react prog_14_method_16_code 4 none) (rM 0 0) (va_Pc [.ref G.2.2.1, .int p1, .int p2, .int p3] (mPre D A G M)) (mQv D A G M') 0 0 A := by
  refine m_head (by decide) rfl (Nat.le_of_ble_eq_true rfl) ?_
  intro p e s m args below meth c ls B hW hl
  have hx := B.1
  have hb := B.2.1
  have hl : lv_has ls 4 [(0, .ref G.2.2.1), (1, .int p1), (2, .int p2), (3, .int p3)] := hl
  unfold q_react at hq
  refine lv_aload_n hx hb dX12_react_0 rfl (lv_at hl 0 rfl) ?_
  refine m_get B hW 28 (by decide) u_870 (v := .ref (G.2.2.2 28)) rfl dX12_react_1 ?_
  refine lv_aload_n hx hb dX12_react_4 rfl (lv_at hl 0 rfl) ?_
  refine m_get B hW 30 (by decide) u_872 (v := .int (M 30 0)) rfl dX12_react_5 ?_
  refine lv_iconst (v := 0) hx hb dX12_react_8 (by decide) ?_
  obtain ⟨hc, hq⟩ := chk_e hq
  obtain ⟨hc2, hq⟩ := chk_e hq
  refine m_zast B hW mA_28 hc2 hc dX12_react_9 (fun H locs M1 eM hW => ?_)
  replace hq := lt9_u eM hq
  clear eM
  refine lv_aload_n hx hb dX12_react_10 rfl (lv_at hl 0 rfl) ?_
  refine m_get B hW 27 (by decide) u_869 (v := .ref (G.2.2.2 27)) rfl dX12_react_11 ?_
  refine lv_aload_n hx hb dX12_react_14 rfl (lv_at hl 0 rfl) ?_
  refine m_get B hW 30 (by decide) u_872 (v := .int (M1 30 0)) rfl dX12_react_15 ?_
  refine lv_iload_n hx hb dX12_react_18 rfl (lv_at hl 2 rfl) ?_
  refine lv_iconst (v := 2) hx hb dX12_react_19 (by decide) ?_
  refine lv_icmp_ne (tgt := 27) hx hb dX12_react_20 (by decide) (fun hc => ?_) (fun hc => ?_)
  · replace hq := if_n hc hq
    refine lv_iconst (v := 0) hx hb dX12_react_27 (by decide) ?_
    exact k_react_28 B M1 p1 p2 p3 0 (M1 30 0) hq _ _ ls hW (lv_sub hl [0, 1, 2, 3] rfl)
  · replace hq := if_y hc hq
    refine lv_iconst (v := 1) hx hb dX12_react_23 (by decide) ?_
    refine lv_goto (tgt := 28) hx hb dX12_react_24 (by decide) ?_
    exact k_react_28 B M1 p1 p2 p3 1 (M1 30 0) hq _ _ ls hW (lv_sub hl [0, 1, 2, 3] rfl)
theorem mC_react : mC yX12_react prog_14_method_16_code 4 none 165 3 := ⟨fun _ => g_V u_1067 u_1069 us_50 u_5 u_1070, by decide +kernel⟩
set_option maxHeartbeats 4000000 in
set_option maxRecDepth 100000 in
theorem k_settle_22 {p : Program} {l : Launch} {e : Env} {s : State} {m : MethodId} {args : Array Value} {below : List Frame} {meth : Method} {c : Code} {D : va_G} {A : Nat → Prop} {G : MG} {M' : MS} (B : mB p s m args meth c D G prog_14_method_15_code 5 none (Cond.code yX12_settle prog_14_method_15_code 5 none)) :
    ∀ (n : Nat) (M : MS) (v1 v2 v3 v4 : Int32), q_settle_22 n M v1 v2 v3 v4 = some M' → ∀ (H : Heap) (locs : List Loc) (ls : Array Slot), mOK D A G M s.heap H locs → lv_has ls 5 [(0, .ref G.2.2.1), (1, .int v1), (2, .int v2), (3, .int v3), (4, .int v4)] → W p l e (rM 1 23) s m args below meth c H locs 0 0 (MQ below (mQv D A G M') args s 0 0 A) (F0 m 22 ls []) := by
  have hx := B.1
  have hb := B.2.1
  intro n
  induction n with
  | zero => intro M v1 v2 v3 v4 hq; cases hq
  | succ n ih =>
    intro M v1 v2 v3 v4 hq _ _ ls hW hl
    replace hq : (if v4 < 0 then chk (inb v1 3000) (lt9 (mput M 5 v1.toNatClampNeg (-1)) (fun M3 => some M3)) else bnd (q_react M v4 v2 v3) (fun M4 => chk (inb v4 12000) (q_settle_22 n M4 v1 v2 v3 (M4 16 v4.toNatClampNeg)))) = some M' := hq
    refine lv_iload hx hb dX12_settle_22 (lv_at hl 4 rfl) ?_
    refine lv_if_lt (tgt := 47) hx hb dX12_settle_24 (by decide) (fun hc => ?_) (fun hc => ?_)
    · replace hq := if_y hc hq
      refine lv_aload_n hx hb dX12_settle_47 rfl (lv_at hl 0 rfl) ?_
      refine m_get B hW 5 (by decide) u_847 (v := .ref (G.2.2.2 5)) rfl dX12_settle_48 ?_
      refine lv_iload_n hx hb dX12_settle_51 rfl (lv_at hl 1 rfl) ?_
      refine lv_iconst (v := (-1)) hx hb dX12_settle_52 (by decide) ?_
      obtain ⟨hc, hq⟩ := chk_e hq
      refine m_iast B hW mA_5 hc dX12_settle_53 (fun H locs M3 eM hW => ?_)
      replace hq := lt9_u eM hq
      clear eM
      exact m_vret B hW hq dX12_settle_54
    · replace hq := if_n hc hq
      refine lv_aload_n hx hb dX12_settle_27 rfl (lv_at hl 0 rfl) ?_
      refine lv_iload hx hb dX12_settle_28 (lv_at hl 4 rfl) ?_
      refine lv_iload_n hx hb dX12_settle_30 rfl (lv_at hl 2 rfl) ?_
      refine lv_iload_n hx hb dX12_settle_31 rfl (lv_at hl 3 rfl) ?_
      obtain ⟨M4, hg, hq⟩ := bnd_e hq
      refine m_callv (As := [.int v4, .int v2, .int v3]) (rest := []) B hW hl.1 (c_react M v4 v2 v3 hg) mC_react rfl ⟨by decide, by decide⟩ rfl (Nat.le_of_ble_eq_true rfl) dX12_settle_32 (fun H locs hW => ?_)
      clear hg
      refine lv_aload_n hx hb dX12_settle_35 rfl (lv_at hl 0 rfl) ?_
      refine m_get B hW 16 (by decide) u_858 (v := .ref (G.2.2.2 16)) rfl dX12_settle_36 ?_
      refine lv_iload hx hb dX12_settle_39 (lv_at hl 4 rfl) ?_
      obtain ⟨hc, hq⟩ := chk_e hq
      refine m_iald B hW mA_16 hc dX12_settle_41 ?_
      refine lv_istore (lv' := [(4, .int (M4 16 v4.toNatClampNeg)), (0, .ref G.2.2.1), (1, .int v1), (2, .int v2), (3, .int v3)]) hx hb dX12_settle_42 hl (by decide) rfl (fun ls hl => ?_)
      refine lv_goto (tgt := 22) hx hb dX12_settle_44 (by decide) ?_
      exact ih M4 v1 v2 v3 (M4 16 v4.toNatClampNeg) hq _ _ ls hW (lv_sub hl [1, 2, 3, 4, 0] rfl)
set_option maxHeartbeats 4000000 in
set_option maxRecDepth 100000 in
theorem c_settle {l : Launch} {D : va_G} {A : Nat → Prop} {G : MG} (n : Nat) (M : MS) (p1 p2 p3 : Int32) {M' : MS} (hq : q_settle n M p1 p2 p3 = some M') : Met l yX12_settle (wM yX12_settle prog_14_method_15_code 5 none) (rM 1 23) (va_Pc [.ref G.2.2.1, .int p1, .int p2, .int p3] (mPre D A G M)) (mQv D A G M') 0 0 A := by
  refine m_head (by decide) rfl (Nat.le_of_ble_eq_true rfl) ?_
  intro p e s m args below meth c ls B hW hl
  have hx := B.1
  have hb := B.2.1
  have hl : lv_has ls 5 [(0, .ref G.2.2.1), (1, .int p1), (2, .int p2), (3, .int p3)] := hl
  unfold q_settle at hq
  refine lv_aload_n hx hb dX12_settle_0 rfl (lv_at hl 0 rfl) ?_
  refine m_get B hW 3 (by decide) u_845 (v := .ref (G.2.2.2 3)) rfl dX12_settle_1 ?_
  refine lv_iload_n hx hb dX12_settle_4 rfl (lv_at hl 1 rfl) ?_
  refine lv_iload_n hx hb dX12_settle_5 rfl (lv_at hl 2 rfl) ?_
  obtain ⟨hc, hq⟩ := chk_e hq
  refine m_iast B hW mA_3 hc dX12_settle_6 (fun H locs M1 eM hW => ?_)
  replace hq := lt9_u eM hq
  clear eM
  refine lv_aload_n hx hb dX12_settle_7 rfl (lv_at hl 0 rfl) ?_
  refine m_get B hW 4 (by decide) u_846 (v := .ref (G.2.2.2 4)) rfl dX12_settle_8 ?_
  refine lv_iload_n hx hb dX12_settle_11 rfl (lv_at hl 1 rfl) ?_
  refine lv_iload_n hx hb dX12_settle_12 rfl (lv_at hl 3 rfl) ?_
  obtain ⟨hc, hq⟩ := chk_e hq
  refine m_iast B hW mA_4 hc dX12_settle_13 (fun H locs M2 eM hW => ?_)
  replace hq := lt9_u eM hq
  clear eM
  refine lv_aload_n hx hb dX12_settle_14 rfl (lv_at hl 0 rfl) ?_
  refine m_get B hW 5 (by decide) u_847 (v := .ref (G.2.2.2 5)) rfl dX12_settle_15 ?_
  refine lv_iload_n hx hb dX12_settle_18 rfl (lv_at hl 1 rfl) ?_
  obtain ⟨hc, hq⟩ := chk_e hq
  refine m_iald B hW mA_5 hc dX12_settle_19 ?_
  refine lv_istore (lv' := [(4, .int (M2 5 p1.toNatClampNeg)), (0, .ref G.2.2.1), (1, .int p1), (2, .int p2), (3, .int p3)]) hx hb dX12_settle_20 hl (by decide) rfl (fun ls hl => ?_)
  exact k_settle_22 B n M2 p1 p2 p3 (M2 5 p1.toNatClampNeg) hq _ _ ls hW (lv_sub hl [1, 2, 3, 4, 0] rfl)
theorem mC_settle : mC yX12_settle prog_14_method_15_code 5 none 158 3 := ⟨fun _ => g_V u_1063 u_1065 us_49 u_5 u_1066, by decide +kernel⟩
end
section
set_option maxHeartbeats 4000000 in
set_option maxRecDepth 100000 in
theorem c_reject {l : Launch} {D : va_G} {A : Nat → Prop} {G : MG} (n : Nat) (M : MS) (p1 p2 : Int32) {M' : MS} (hq : q_reject n M p1 p2 = some M') : Met l yX12_reject (wM yX12_reject prog_14_method_14_code 3 none) (rM 2 47) (va_Pc [.ref G.2.2.1, .int p1, .int p2] (mPre D A G M)) (mQv D A G M') 0 0 A := by
  refine m_head (by decide) rfl (Nat.le_of_ble_eq_true rfl) ?_
  intro p e s m args below meth c ls B hW hl
  have hx := B.1
  have hb := B.2.1
  have hl : lv_has ls 3 [(0, .ref G.2.2.1), (1, .int p1), (2, .int p2)] := hl
  unfold q_reject at hq
  refine lv_aload_n hx hb dX12_reject_0 rfl (lv_at hl 0 rfl) ?_
  refine m_get B hW 14 (by decide) u_856 (v := .ref (G.2.2.2 14)) rfl dX12_reject_1 ?_
  refine lv_iload_n hx hb dX12_reject_4 rfl (lv_at hl 1 rfl) ?_
  obtain ⟨hc, hq⟩ := chk_e hq
  refine m_zald B hW mA_14 hc dX12_reject_5 ?_
  refine lv_if_eq (tgt := 10) hx hb dX12_reject_6 (by decide) (fun hc => ?_) (fun hc => ?_)
  · replace hq := if_y hc hq
    refine lv_aload_n hx hb dX12_reject_10 rfl (lv_at hl 0 rfl) ?_
    refine m_get B hW 14 (by decide) u_856 (v := .ref (G.2.2.2 14)) rfl dX12_reject_11 ?_
    refine lv_iload_n hx hb dX12_reject_14 rfl (lv_at hl 1 rfl) ?_
    refine lv_iconst (v := 1) hx hb dX12_reject_15 (by decide) ?_
    obtain ⟨hc, hq⟩ := chk_e hq
    obtain ⟨hc2, hq⟩ := chk_e hq
    refine m_zast B hW mA_14 hc2 hc dX12_reject_16 (fun H locs M1 eM hW => ?_)
    replace hq := lt9_u eM hq
    clear eM
    refine lv_aload_n hx hb dX12_reject_17 rfl (lv_at hl 0 rfl) ?_
    refine lv_aload_n hx hb dX12_reject_18 rfl (lv_at hl 0 rfl) ?_
    refine m_get B hW 13 (by decide) u_855 (v := .ref (G.2.2.2 13)) rfl dX12_reject_19 ?_
    refine lv_iload_n hx hb dX12_reject_22 rfl (lv_at hl 1 rfl) ?_
    obtain ⟨hc, hq⟩ := chk_e hq
    refine m_iald B hW mA_13 hc dX12_reject_23 ?_
    refine lv_iconst (v := 2) hx hb dX12_reject_24 (by decide) ?_
    refine lv_iload_n hx hb dX12_reject_25 rfl (lv_at hl 2 rfl) ?_
    obtain ⟨M2, hg, hq⟩ := bnd_e hq
    refine m_callv (As := [.int (M1 13 p1.toNatClampNeg), .int 2, .int p2]) (rest := []) B hW hl.1 (c_settle n M1 (M1 13 p1.toNatClampNeg) 2 p2 hg) mC_settle rfl ⟨by decide, by decide⟩ rfl (Nat.le_of_ble_eq_true rfl) dX12_reject_26 (fun H locs hW => ?_)
    clear hg
    exact m_vret B hW hq dX12_reject_29
  · replace hq := if_n hc hq
    exact m_vret B hW hq dX12_reject_9
theorem mC_reject : mC yX12_reject prog_14_method_14_code 3 none 197 2 := ⟨fun _ => g_V u_1059 u_1061 us_48 u_5 u_1062, by decide +kernel⟩
set_option maxHeartbeats 4000000 in
set_option maxRecDepth 100000 in
theorem k_resolve_138 {p : Program} {l : Launch} {e : Env} {s : State} {m : MethodId} {args : Array Value} {below : List Frame} {meth : Method} {c : Code} {D : va_G} {A : Nat → Prop} {G : MG} {M' : MS} (B : mB p s m args meth c D G prog_14_method_13_code 5 none (Cond.code yX12_resolve prog_14_method_13_code 5 none)) :
    ∀ (n : Nat) (M : MS) (v3 v4 : Int32), q_resolve_138 n M v3 v4 = some M' → ∀ (H : Heap) (locs : List Loc) (ls : Array Slot), mOK D A G M s.heap H locs → lv_has ls 5 [(0, .ref G.2.2.1), (3, .int v3), (4, .int v4)] → W p l e (rM 2 47) s m args below meth c H locs 0 0 (MQ below (mQv D A G M') args s 0 0 A) (F0 m 138 ls []) := by
  have hx := B.1
  have hb := B.2.1
  intro n M v3 v4 hq _ _ ls hW hl
  unfold q_resolve_138 at hq
  refine lv_aload_n hx hb dX12_resolve_138 rfl (lv_at hl 0 rfl) ?_
  refine m_get B hW 28 (by decide) u_870 (v := .ref (G.2.2.2 28)) rfl dX12_resolve_139 ?_
  refine lv_aload_n hx hb dX12_resolve_142 rfl (lv_at hl 0 rfl) ?_
  refine m_get B hW 30 (by decide) u_872 (v := .int (M 30 0)) rfl dX12_resolve_143 ?_
  refine lv_iconst (v := 1) hx hb dX12_resolve_146 (by decide) ?_
  obtain ⟨hc, hq⟩ := chk_e hq
  obtain ⟨hc2, hq⟩ := chk_e hq
  refine m_zast B hW mA_28 hc2 hc dX12_resolve_147 (fun H locs M4 eM hW => ?_)
  replace hq := lt9_u eM hq
  clear eM
  refine lv_aload_n hx hb dX12_resolve_148 rfl (lv_at hl 0 rfl) ?_
  refine m_get B hW 24 (by decide) u_866 (v := .ref (G.2.2.2 24)) rfl dX12_resolve_149 ?_
  refine lv_aload_n hx hb dX12_resolve_152 rfl (lv_at hl 0 rfl) ?_
  refine m_get B hW 30 (by decide) u_872 (v := .int (M4 30 0)) rfl dX12_resolve_153 ?_
  refine lv_iload hx hb dX12_resolve_156 (lv_at hl 2 rfl) ?_
  obtain ⟨hc, hq⟩ := chk_e hq
  refine m_iast B hW mA_24 hc dX12_resolve_158 (fun H locs M5 eM hW => ?_)
  replace hq := lt9_u eM hq
  clear eM
  refine lv_aload_n hx hb dX12_resolve_159 rfl (lv_at hl 0 rfl) ?_
  refine m_get B hW 25 (by decide) u_867 (v := .ref (G.2.2.2 25)) rfl dX12_resolve_160 ?_
  refine lv_aload_n hx hb dX12_resolve_163 rfl (lv_at hl 0 rfl) ?_
  refine m_get B hW 30 (by decide) u_872 (v := .int (M5 30 0)) rfl dX12_resolve_164 ?_
  refine lv_iload_n hx hb dX12_resolve_167 rfl (lv_at hl 1 rfl) ?_
  obtain ⟨hc, hq⟩ := chk_e hq
  refine m_iast B hW mA_25 hc dX12_resolve_168 (fun H locs M6 eM hW => ?_)
  replace hq := lt9_u eM hq
  clear eM
  refine lv_aload_n hx hb dX12_resolve_169 rfl (lv_at hl 0 rfl) ?_
  refine lv_dup hx hb dX12_resolve_170 rfl ?_
  refine m_get B hW 30 (by decide) u_872 (v := .int (M6 30 0)) rfl dX12_resolve_171 ?_
  refine lv_iconst (v := 1) hx hb dX12_resolve_174 (by decide) ?_
  refine lv_iadd hx hb dX12_resolve_175 ?_
  refine m_put B hW 30 (by decide) u_872 mS_30 rfl (ty := .int) (tyX12_ok 30 (by decide)) rfl rfl (Nat.le_of_ble_eq_true rfl) dX12_resolve_176 (fun H locs M7 eM hW => ?_)
  replace hq := lt9_u eM hq
  clear eM
  refine lv_goto (tgt := 189) hx hb dX12_resolve_179 (by decide) ?_
  exact m_vret B hW hq dX12_resolve_189
set_option maxHeartbeats 4000000 in
set_option maxRecDepth 100000 in
theorem k_resolve_107 {p : Program} {l : Launch} {e : Env} {s : State} {m : MethodId} {args : Array Value} {below : List Frame} {meth : Method} {c : Code} {D : va_G} {A : Nat → Prop} {G : MG} {M' : MS} (B : mB p s m args meth c D G prog_14_method_13_code 5 none (Cond.code yX12_resolve prog_14_method_13_code 5 none)) :
    ∀ (n : Nat) (M : MS) (v2 v3 v4 : Int32), q_resolve_107 n M v2 v3 v4 = some M' → ∀ (H : Heap) (locs : List Loc) (ls : Array Slot), mOK D A G M s.heap H locs → lv_has ls 5 [(0, .ref G.2.2.1), (2, .int v2), (3, .int v3), (4, .int v4)] → W p l e (rM 2 47) s m args below meth c H locs 0 0 (MQ below (mQv D A G M') args s 0 0 A) (F0 m 107 ls []) := by
  have hx := B.1
  have hb := B.2.1
  intro n M v2 v3 v4 hq _ _ ls hW hl
  unfold q_resolve_107 at hq
  refine lv_aload_n hx hb dX12_resolve_107 rfl (lv_at hl 0 rfl) ?_
  refine m_get B hW 2 (by decide) u_844 (v := .ref (G.2.2.2 2)) rfl dX12_resolve_108 ?_
  refine lv_iload hx hb dX12_resolve_111 (lv_at hl 3 rfl) ?_
  obtain ⟨hc, hq⟩ := chk_e hq
  refine m_iald B hW mA_2 hc dX12_resolve_113 ?_
  refine lv_if_eq (tgt := 138) hx hb dX12_resolve_114 (by decide) (fun hc => ?_) (fun hc => ?_)
  · replace hq := if_y hc hq
    exact k_resolve_138 B n M v3 v4 hq _ _ ls hW (lv_sub hl [0, 2, 3] rfl)
  · replace hq := if_n hc hq
    refine lv_aload_n hx hb dX12_resolve_117 rfl (lv_at hl 0 rfl) ?_
    refine m_get B hW 2 (by decide) u_844 (v := .ref (G.2.2.2 2)) rfl dX12_resolve_118 ?_
    refine lv_iload hx hb dX12_resolve_121 (lv_at hl 3 rfl) ?_
    obtain ⟨hc, hq⟩ := chk_e hq
    refine m_iald B hW mA_2 hc dX12_resolve_123 ?_
    refine lv_iconst (v := 1) hx hb dX12_resolve_124 (by decide) ?_
    refine lv_icmp_ne (tgt := 182) hx hb dX12_resolve_125 (by decide) (fun hc => ?_) (fun hc => ?_)
    · replace hq := if_n hc hq
      refine lv_aload_n hx hb dX12_resolve_182 rfl (lv_at hl 0 rfl) ?_
      refine lv_iload_n hx hb dX12_resolve_183 rfl (lv_at hl 2 rfl) ?_
      refine lv_iconst (v := 1) hx hb dX12_resolve_184 (by decide) ?_
      refine lv_iload_n hx hb dX12_resolve_185 rfl (lv_at hl 1 rfl) ?_
      obtain ⟨M8, hg, hq⟩ := bnd_e hq
      refine m_callv (As := [.int v3, .int 1, .int v2]) (rest := []) B hW hl.1 (c_settle n M v3 1 v2 hg) mC_settle rfl ⟨by decide, by decide⟩ rfl (Nat.le_of_ble_eq_true rfl) dX12_resolve_186 (fun H locs hW => ?_)
      clear hg
      exact m_vret B hW hq dX12_resolve_189
    · replace hq := if_y hc hq
      refine lv_aload_n hx hb dX12_resolve_128 rfl (lv_at hl 0 rfl) ?_
      refine m_get B hW 8 (by decide) u_850 (v := .ref (G.2.2.2 8)) rfl dX12_resolve_129 ?_
      refine lv_iload hx hb dX12_resolve_132 (lv_at hl 3 rfl) ?_
      obtain ⟨hc, hq⟩ := chk_e hq
      refine m_iald B hW mA_8 hc dX12_resolve_134 ?_
      refine lv_if_ne (tgt := 182) hx hb dX12_resolve_135 (by decide) (fun hc => ?_) (fun hc => ?_)
      · replace hq := if_n hc hq
        refine lv_aload_n hx hb dX12_resolve_182 rfl (lv_at hl 0 rfl) ?_
        refine lv_iload_n hx hb dX12_resolve_183 rfl (lv_at hl 2 rfl) ?_
        refine lv_iconst (v := 1) hx hb dX12_resolve_184 (by decide) ?_
        refine lv_iload_n hx hb dX12_resolve_185 rfl (lv_at hl 1 rfl) ?_
        obtain ⟨M9, hg, hq⟩ := bnd_e hq
        refine m_callv (As := [.int v3, .int 1, .int v2]) (rest := []) B hW hl.1 (c_settle n M v3 1 v2 hg) mC_settle rfl ⟨by decide, by decide⟩ rfl (Nat.le_of_ble_eq_true rfl) dX12_resolve_186 (fun H locs hW => ?_)
        clear hg
        exact m_vret B hW hq dX12_resolve_189
      · replace hq := if_y hc hq
        exact k_resolve_138 B n M v3 v4 hq _ _ ls hW (lv_sub hl [0, 2, 3] rfl)
set_option maxHeartbeats 4000000 in
set_option maxRecDepth 100000 in
theorem c_resolve {l : Launch} {D : va_G} {A : Nat → Prop} {G : MG} (n : Nat) (M : MS) (p1 p2 : Int32) {M' : MS} (hq : q_resolve n M p1 p2 = some M') : Met l yX12_resolve (wM yX12_resolve prog_14_method_13_code 5 none) (rM 2 47) (va_Pc [.ref G.2.2.1, .int p1, .int p2] (mPre D A G M)) (mQv D A G M') 0 0 A := by
  refine m_head (by decide) rfl (Nat.le_of_ble_eq_true rfl) ?_
  intro p e s m args below meth c ls B hW hl
  have hx := B.1
  have hb := B.2.1
  have hl : lv_has ls 5 [(0, .ref G.2.2.1), (1, .int p1), (2, .int p2)] := hl
  unfold q_resolve at hq
  refine lv_aload_n hx hb dX12_resolve_0 rfl (lv_at hl 0 rfl) ?_
  refine m_get B hW 14 (by decide) u_856 (v := .ref (G.2.2.2 14)) rfl dX12_resolve_1 ?_
  refine lv_iload_n hx hb dX12_resolve_4 rfl (lv_at hl 1 rfl) ?_
  obtain ⟨hc, hq⟩ := chk_e hq
  refine m_zald B hW mA_14 hc dX12_resolve_5 ?_
  refine lv_if_eq (tgt := 10) hx hb dX12_resolve_6 (by decide) (fun hc => ?_) (fun hc => ?_)
  · replace hq := if_y hc hq
    refine lv_aload_n hx hb dX12_resolve_10 rfl (lv_at hl 0 rfl) ?_
    refine m_get B hW 14 (by decide) u_856 (v := .ref (G.2.2.2 14)) rfl dX12_resolve_11 ?_
    refine lv_iload_n hx hb dX12_resolve_14 rfl (lv_at hl 1 rfl) ?_
    refine lv_iconst (v := 1) hx hb dX12_resolve_15 (by decide) ?_
    obtain ⟨hc, hq⟩ := chk_e hq
    obtain ⟨hc2, hq⟩ := chk_e hq
    refine m_zast B hW mA_14 hc2 hc dX12_resolve_16 (fun H locs M1 eM hW => ?_)
    replace hq := lt9_u eM hq
    clear eM
    refine lv_aload_n hx hb dX12_resolve_17 rfl (lv_at hl 0 rfl) ?_
    refine m_get B hW 13 (by decide) u_855 (v := .ref (G.2.2.2 13)) rfl dX12_resolve_18 ?_
    refine lv_iload_n hx hb dX12_resolve_21 rfl (lv_at hl 1 rfl) ?_
    obtain ⟨hc, hq⟩ := chk_e hq
    refine m_iald B hW mA_13 hc dX12_resolve_22 ?_
    refine lv_istore_n (lv' := [(3, .int (M1 13 p1.toNatClampNeg)), (0, .ref G.2.2.1), (1, .int p1), (2, .int p2)]) hx hb dX12_resolve_23 rfl hl (by decide) rfl (fun ls hl => ?_)
    refine lv_iload_n hx hb dX12_resolve_24 rfl (lv_at hl 3 rfl) ?_
    refine lv_iload_n hx hb dX12_resolve_25 rfl (lv_at hl 0 rfl) ?_
    refine m_valueOf (rest := [.int p2]) B hW hl.1 ⟨by decide, by decide⟩ (Nat.le_of_ble_eq_true rfl) dX12_resolve_26 (fun H locs hW => ?_)
    refine lv_icmp_ne (tgt := 47) hx hb dX12_resolve_29 (by decide) (fun hc => ?_) (fun hc => ?_)
    · replace hq := if_n hc hq
      refine lv_aload_n hx hb dX12_resolve_47 rfl (lv_at hl 1 rfl) ?_
      refine lv_iload_n hx hb dX12_resolve_48 rfl (lv_at hl 3 rfl) ?_
      obtain ⟨r3, M2, hg, hq⟩ := bnd2_e hq
      refine m_calli (As := [.int p2]) (rest := []) B hW hl.1 (c_isObject M1 p2 hg) mC_isObject rfl ⟨by decide, by decide⟩ rfl (Nat.le_of_ble_eq_true rfl) dX12_resolve_49 (fun H locs hW => ?_)
      clear hg
      refine lv_if_ne (tgt := 63) hx hb dX12_resolve_52 (by decide) (fun hc => ?_) (fun hc => ?_)
      · replace hq := if_n hc hq
        refine lv_bipush (v := (-2)) hx hb dX12_resolve_63 (by decide) ?_
        refine lv_iload_n hx hb dX12_resolve_65 rfl (lv_at hl 3 rfl) ?_
        refine lv_isub hx hb dX12_resolve_66 ?_
        refine lv_istore (lv' := [(4, .int ((-2) - p2)), (3, .int (M1 13 p1.toNatClampNeg)), (0, .ref G.2.2.1), (1, .int p1), (2, .int p2)]) hx hb dX12_resolve_67 hl (by decide) rfl (fun ls hl => ?_)
        refine lv_aload_n hx hb dX12_resolve_69 rfl (lv_at hl 2 rfl) ?_
        refine m_get B hW 2 (by decide) u_844 (v := .ref (G.2.2.2 2)) rfl dX12_resolve_70 ?_
        refine lv_iload hx hb dX12_resolve_73 (lv_at hl 0 rfl) ?_
        obtain ⟨hc, hq⟩ := chk_e hq
        refine m_iald B hW mA_2 hc dX12_resolve_75 ?_
        refine lv_iconst (v := 1) hx hb dX12_resolve_76 (by decide) ?_
        refine lv_icmp_ne (tgt := 107) hx hb dX12_resolve_77 (by decide) (fun hc => ?_) (fun hc => ?_)
        · replace hq := if_n hc hq
          exact k_resolve_107 B n M2 p2 (M1 13 p1.toNatClampNeg) ((-2) - p2) hq _ _ ls hW (lv_sub hl [2, 4, 1, 0] rfl)
        · replace hq := if_y hc hq
          refine lv_aload_n hx hb dX12_resolve_80 rfl (lv_at hl 2 rfl) ?_
          refine m_get B hW 8 (by decide) u_850 (v := .ref (G.2.2.2 8)) rfl dX12_resolve_81 ?_
          refine lv_iload hx hb dX12_resolve_84 (lv_at hl 0 rfl) ?_
          obtain ⟨hc, hq⟩ := chk_e hq
          refine m_iald B hW mA_8 hc dX12_resolve_86 ?_
          refine lv_iconst (v := 1) hx hb dX12_resolve_87 (by decide) ?_
          refine lv_icmp_ne (tgt := 107) hx hb dX12_resolve_88 (by decide) (fun hc => ?_) (fun hc => ?_)
          · replace hq := if_n hc hq
            exact k_resolve_107 B n M2 p2 (M1 13 p1.toNatClampNeg) ((-2) - p2) hq _ _ ls hW (lv_sub hl [2, 4, 1, 0] rfl)
          · replace hq := if_y hc hq
            refine lv_aload_n hx hb dX12_resolve_91 rfl (lv_at hl 2 rfl) ?_
            refine lv_iload_n hx hb dX12_resolve_92 rfl (lv_at hl 1 rfl) ?_
            refine lv_iconst (v := 2) hx hb dX12_resolve_93 (by decide) ?_
            refine lv_aload_n hx hb dX12_resolve_94 rfl (lv_at hl 2 rfl) ?_
            refine m_get B hW 10 (by decide) u_852 (v := .ref (G.2.2.2 10)) rfl dX12_resolve_95 ?_
            refine lv_iload hx hb dX12_resolve_98 (lv_at hl 0 rfl) ?_
            obtain ⟨hc, hq⟩ := chk_e hq
            refine m_iald B hW mA_10 hc dX12_resolve_100 ?_
            obtain ⟨M10, hg, hq⟩ := bnd_e hq
            refine m_callv (As := [.int (M1 13 p1.toNatClampNeg), .int 2, .int (M2 10 ((-2) - p2).toNatClampNeg)]) (rest := []) B hW hl.1 (c_settle n M2 (M1 13 p1.toNatClampNeg) 2 (M2 10 ((-2) - p2).toNatClampNeg) hg) mC_settle rfl ⟨by decide, by decide⟩ rfl (Nat.le_of_ble_eq_true rfl) dX12_resolve_101 (fun H locs hW => ?_)
            clear hg
            refine lv_goto (tgt := 189) hx hb dX12_resolve_104 (by decide) ?_
            exact m_vret B hW hq dX12_resolve_189
      · replace hq := if_y hc hq
        refine lv_aload_n hx hb dX12_resolve_55 rfl (lv_at hl 1 rfl) ?_
        refine lv_iload_n hx hb dX12_resolve_56 rfl (lv_at hl 0 rfl) ?_
        refine lv_iconst (v := 1) hx hb dX12_resolve_57 (by decide) ?_
        refine lv_iload_n hx hb dX12_resolve_58 rfl (lv_at hl 3 rfl) ?_
        obtain ⟨M11, hg, hq⟩ := bnd_e hq
        refine m_callv (As := [.int (M1 13 p1.toNatClampNeg), .int 1, .int p2]) (rest := []) B hW hl.1 (c_settle n M2 (M1 13 p1.toNatClampNeg) 1 p2 hg) mC_settle rfl ⟨by decide, by decide⟩ rfl (Nat.le_of_ble_eq_true rfl) dX12_resolve_59 (fun H locs hW => ?_)
        clear hg
        exact m_vret B hW hq dX12_resolve_62
    · replace hq := if_y hc hq
      refine lv_aload_n hx hb dX12_resolve_32 rfl (lv_at hl 1 rfl) ?_
      refine lv_iload_n hx hb dX12_resolve_33 rfl (lv_at hl 0 rfl) ?_
      refine lv_iconst (v := 2) hx hb dX12_resolve_34 (by decide) ?_
      refine lv_aload_n hx hb dX12_resolve_35 rfl (lv_at hl 1 rfl) ?_
      refine lv_iconst (v := 2) hx hb dX12_resolve_36 (by decide) ?_
      obtain ⟨r13, M12, hg, hq⟩ := bnd2_e hq
      refine m_calli (As := [.int 2]) (rest := [.int 2, .int (M1 13 p1.toNatClampNeg), .ref G.2.2.1]) B hW hl.1 (c_newObject M1 2 hg) mC_newObject rfl ⟨by decide, by decide⟩ rfl (Nat.le_of_ble_eq_true rfl) dX12_resolve_37 (fun H locs hW => ?_)
      clear hg
      refine m_valueOf (rest := [.int 2, .int (M1 13 p1.toNatClampNeg), .ref G.2.2.1]) B hW hl.1 ⟨by decide, by decide⟩ (Nat.le_of_ble_eq_true rfl) dX12_resolve_40 (fun H locs hW => ?_)
      obtain ⟨M14, hg, hq⟩ := bnd_e hq
      refine m_callv (As := [.int (M1 13 p1.toNatClampNeg), .int 2, .int (-2 - r13)]) (rest := []) B hW hl.1 (c_settle n M12 (M1 13 p1.toNatClampNeg) 2 (-2 - r13) hg) mC_settle rfl ⟨by decide, by decide⟩ rfl (Nat.le_of_ble_eq_true rfl) dX12_resolve_43 (fun H locs hW => ?_)
      clear hg
      exact m_vret B hW hq dX12_resolve_46
  · replace hq := if_n hc hq
    exact m_vret B hW hq dX12_resolve_9
theorem mC_resolve : mC yX12_resolve prog_14_method_13_code 5 none 183 2 := ⟨fun _ => g_V u_1071 u_1073 us_51 u_5 u_1074, by decide +kernel⟩
set_option maxHeartbeats 4000000 in
set_option maxRecDepth 100000 in
theorem k_settle__73 {p : Program} {l : Launch} {e : Env} {s : State} {m : MethodId} {args : Array Value} {below : List Frame} {meth : Method} {c : Code} {D : va_G} {A : Nat → Prop} {G : MG} {r : Int32} {M' : MS} (B : mB p s m args meth c D G prog_14_method_37_code 6 (some .boolean) (Cond.code yX12_settle_ prog_14_method_37_code 6 (some .boolean))) :
    ∀ (n : Nat) (M : MS) (v2 v3 v4 z0 : Int32), q_settle__73 n M v2 v3 v4 z0 = some (r, M') → ∀ (H : Heap) (locs : List Loc) (ls : Array Slot), mOK D A G M s.heap H locs → lv_has ls 6 [(0, .ref G.2.2.1), (2, .int v2), (3, .int v3), (4, .int v4)] → W p l e (rM 3 71) s m args below meth c H locs 0 0 (MQ below (mQi D A G r M') args s 0 0 A) (F0 m 73 ls [.int z0]) := by
  have hx := B.1
  have hb := B.2.1
  intro n M v2 v3 v4 z0 hq _ _ ls hW hl
  unfold q_settle__73 at hq
  refine lv_istore (lv' := [(5, .int z0), (0, .ref G.2.2.1), (2, .int v2), (3, .int v3), (4, .int v4)]) hx hb dX12_settle__73 hl (by decide) rfl (fun ls hl => ?_)
  refine lv_iload_n hx hb dX12_settle__75 rfl (lv_at hl 2 rfl) ?_
  refine lv_if_eq (tgt := 89) hx hb dX12_settle__76 (by decide) (fun hc => ?_) (fun hc => ?_)
  · replace hq := if_y hc hq
    refine lv_aload_n hx hb dX12_settle__89 rfl (lv_at hl 1 rfl) ?_
    refine lv_iload hx hb dX12_settle__90 (lv_at hl 4 rfl) ?_
    refine lv_iload_n hx hb dX12_settle__92 rfl (lv_at hl 3 rfl) ?_
    obtain ⟨M4, hg, hq⟩ := bnd_e hq
    refine m_callv (As := [.int v4, .int v3]) (rest := []) B hW hl.1 (c_resolve n M v4 v3 hg) mC_resolve rfl ⟨by decide, by decide⟩ rfl (Nat.le_of_ble_eq_true rfl) dX12_settle__93 (fun H locs hW => ?_)
    clear hg
    refine lv_iload hx hb dX12_settle__96 (lv_at hl 0 rfl) ?_
    obtain ⟨hc, hq⟩ := chk_e hq
    exact m_zret B hW hc hq dX12_settle__98
  · replace hq := if_n hc hq
    refine lv_aload_n hx hb dX12_settle__79 rfl (lv_at hl 1 rfl) ?_
    refine lv_iload hx hb dX12_settle__80 (lv_at hl 4 rfl) ?_
    refine lv_iload_n hx hb dX12_settle__82 rfl (lv_at hl 3 rfl) ?_
    obtain ⟨M5, hg, hq⟩ := bnd_e hq
    refine m_callv (As := [.int v4, .int v3]) (rest := []) B hW hl.1 (c_reject n M v4 v3 hg) mC_reject rfl ⟨by decide, by decide⟩ rfl (Nat.le_of_ble_eq_true rfl) dX12_settle__83 (fun H locs hW => ?_)
    clear hg
    refine lv_goto (tgt := 96) hx hb dX12_settle__86 (by decide) ?_
    refine lv_iload hx hb dX12_settle__96 (lv_at hl 0 rfl) ?_
    obtain ⟨hc, hq⟩ := chk_e hq
    exact m_zret B hW hc hq dX12_settle__98
set_option maxHeartbeats 4000000 in
set_option maxRecDepth 100000 in
theorem k_settle__35 {p : Program} {l : Launch} {e : Env} {s : State} {m : MethodId} {args : Array Value} {below : List Frame} {meth : Method} {c : Code} {D : va_G} {A : Nat → Prop} {G : MG} {r : Int32} {M' : MS} (B : mB p s m args meth c D G prog_14_method_37_code 6 (some .boolean) (Cond.code yX12_settle_ prog_14_method_37_code 6 (some .boolean))) :
    ∀ (n : Nat) (M : MS) (v1 v2 v3 z0 : Int32), q_settle__35 n M v1 v2 v3 z0 = some (r, M') → ∀ (H : Heap) (locs : List Loc) (ls : Array Slot), mOK D A G M s.heap H locs → lv_has ls 6 [(0, .ref G.2.2.1), (1, .int v1), (2, .int v2), (3, .int v3)] → W p l e (rM 3 71) s m args below meth c H locs 0 0 (MQ below (mQi D A G r M') args s 0 0 A) (F0 m 35 ls [.int z0, .ref G.2.2.1]) := by
  have hx := B.1
  have hb := B.2.1
  intro n M v1 v2 v3 z0 hq _ _ ls hW hl
  unfold q_settle__35 at hq
  refine m_put B hW 0 (by decide) u_842 mS_0 rfl (ty := .int) (tyX12_ok 0 (by decide)) rfl rfl (Nat.le_of_ble_eq_true rfl) dX12_settle__35 (fun H locs M3 eM hW => ?_)
  replace hq := lt9_u eM hq
  clear eM
  refine lv_aload_n hx hb dX12_settle__38 rfl (lv_at hl 0 rfl) ?_
  refine m_get B hW 0 (by decide) u_842 (v := .int (M3 0 0)) rfl dX12_settle__39 ?_
  refine lv_if_le (tgt := 47) hx hb dX12_settle__42 (by decide) (fun hc => ?_) (fun hc => ?_)
  · replace hq := if_y hc hq
    refine lv_aload_n hx hb dX12_settle__47 rfl (lv_at hl 0 rfl) ?_
    refine m_get B hW 6 (by decide) u_848 (v := .ref (G.2.2.2 6)) rfl dX12_settle__48 ?_
    refine lv_bipush (v := (-2)) hx hb dX12_settle__51 (by decide) ?_
    refine lv_iload_n hx hb dX12_settle__53 rfl (lv_at hl 1 rfl) ?_
    refine lv_isub hx hb dX12_settle__54 ?_
    obtain ⟨hc, hq⟩ := chk_e hq
    refine m_iald B hW mA_6 hc dX12_settle__55 ?_
    refine lv_istore (lv' := [(4, .int (M3 6 ((-2) - v1).toNatClampNeg)), (0, .ref G.2.2.1), (1, .int v1), (2, .int v2), (3, .int v3)]) hx hb dX12_settle__56 hl (by decide) rfl (fun ls hl => ?_)
    refine lv_aload_n hx hb dX12_settle__58 rfl (lv_at hl 1 rfl) ?_
    refine m_get B hW 14 (by decide) u_856 (v := .ref (G.2.2.2 14)) rfl dX12_settle__59 ?_
    refine lv_iload hx hb dX12_settle__62 (lv_at hl 0 rfl) ?_
    obtain ⟨hc, hq⟩ := chk_e hq
    refine m_zald B hW mA_14 hc dX12_settle__64 ?_
    refine lv_if_ne (tgt := 72) hx hb dX12_settle__65 (by decide) (fun hc => ?_) (fun hc => ?_)
    · replace hq := if_n hc hq
      refine lv_iconst (v := 0) hx hb dX12_settle__72 (by decide) ?_
      exact k_settle__73 B n M3 v2 v3 (M3 6 ((-2) - v1).toNatClampNeg) 0 hq _ _ ls hW (lv_sub hl [1, 3, 4, 0] rfl)
    · replace hq := if_y hc hq
      refine lv_iconst (v := 1) hx hb dX12_settle__68 (by decide) ?_
      refine lv_goto (tgt := 73) hx hb dX12_settle__69 (by decide) ?_
      exact k_settle__73 B n M3 v2 v3 (M3 6 ((-2) - v1).toNatClampNeg) 1 hq _ _ ls hW (lv_sub hl [1, 3, 4, 0] rfl)
  · replace hq := if_n hc hq
    refine lv_iconst (v := 0) hx hb dX12_settle__45 (by decide) ?_
    obtain ⟨hc, hq⟩ := chk_e hq
    exact m_zret B hW hc hq dX12_settle__46
set_option maxHeartbeats 4000000 in
set_option maxRecDepth 100000 in
theorem k_settle__17 {p : Program} {l : Launch} {e : Env} {s : State} {m : MethodId} {args : Array Value} {below : List Frame} {meth : Method} {c : Code} {D : va_G} {A : Nat → Prop} {G : MG} {r : Int32} {M' : MS} (B : mB p s m args meth c D G prog_14_method_37_code 6 (some .boolean) (Cond.code yX12_settle_ prog_14_method_37_code 6 (some .boolean))) :
    ∀ (n : Nat) (M : MS) (v1 v2 v3 : Int32), q_settle__17 n M v1 v2 v3 = some (r, M') → ∀ (H : Heap) (locs : List Loc) (ls : Array Slot), mOK D A G M s.heap H locs → lv_has ls 6 [(0, .ref G.2.2.1), (1, .int v1), (2, .int v2), (3, .int v3)] → W p l e (rM 3 71) s m args below meth c H locs 0 0 (MQ below (mQi D A G r M') args s 0 0 A) (F0 m 17 ls [.ref G.2.2.1]) := by
  have hx := B.1
  have hb := B.2.1
  intro n M v1 v2 v3 hq _ _ ls hW hl
  unfold q_settle__17 at hq
  refine lv_iconst (v := 1) hx hb dX12_settle__17 (by decide) ?_
  refine lv_goto (tgt := 35) hx hb dX12_settle__18 (by decide) ?_
  exact k_settle__35 B n M v1 v2 v3 1 hq _ _ ls hW (lv_sub hl [0, 1, 2, 3] rfl)
set_option maxHeartbeats 4000000 in
set_option maxRecDepth 100000 in
theorem c_settle_ {l : Launch} {D : va_G} {A : Nat → Prop} {G : MG} (n : Nat) (M : MS) (p1 p2 p3 : Int32) {r : Int32} {M' : MS} (hq : q_settle_ n M p1 p2 p3 = some (r, M')) : Met l yX12_settle_ (wM yX12_settle_ prog_14_method_37_code 6 (some .boolean)) (rM 3 71) (va_Pc [.ref G.2.2.1, .int p1, .int p2, .int p3] (mPre D A G M)) (mQi D A G r M') 0 0 A := by
  refine m_head (by decide) rfl (Nat.le_of_ble_eq_true rfl) ?_
  intro p e s m args below meth c ls B hW hl
  have hx := B.1
  have hb := B.2.1
  have hl : lv_has ls 6 [(0, .ref G.2.2.1), (1, .int p1), (2, .int p2), (3, .int p3)] := hl
  unfold q_settle_ at hq
  refine lv_aload_n hx hb dX12_settle__0 rfl (lv_at hl 0 rfl) ?_
  refine lv_aload_n hx hb dX12_settle__1 rfl (lv_at hl 0 rfl) ?_
  refine lv_iload_n hx hb dX12_settle__2 rfl (lv_at hl 1 rfl) ?_
  obtain ⟨r2, M1, hg, hq⟩ := bnd2_e hq
  refine m_calli (As := [.int p1]) (rest := [.ref G.2.2.1]) B hW hl.1 (c_isKept M p1 hg) mC_isKept rfl ⟨by decide, by decide⟩ rfl (Nat.le_of_ble_eq_true rfl) dX12_settle__3 (fun H locs hW => ?_)
  clear hg
  refine lv_if_eq (tgt := 17) hx hb dX12_settle__6 (by decide) (fun hc => ?_) (fun hc => ?_)
  · replace hq := if_y hc hq
    exact k_settle__17 B n M1 p1 p2 p3 hq _ _ ls hW (lv_sub hl [0, 1, 2, 3] rfl)
  · replace hq := if_n hc hq
    refine lv_aload_n hx hb dX12_settle__9 rfl (lv_at hl 0 rfl) ?_
    refine lv_iload_n hx hb dX12_settle__10 rfl (lv_at hl 3 rfl) ?_
    obtain ⟨r7, M6, hg, hq⟩ := bnd2_e hq
    refine m_calli (As := [.int p3]) (rest := [.ref G.2.2.1]) B hW hl.1 (c_isValue M1 p3 hg) mC_isValue rfl ⟨by decide, by decide⟩ rfl (Nat.le_of_ble_eq_true rfl) dX12_settle__11 (fun H locs hW => ?_)
    clear hg
    refine lv_if_ne (tgt := 21) hx hb dX12_settle__14 (by decide) (fun hc => ?_) (fun hc => ?_)
    · replace hq := if_n hc hq
      refine lv_aload_n hx hb dX12_settle__21 rfl (lv_at hl 0 rfl) ?_
      refine lv_bipush (v := 8) hx hb dX12_settle__22 (by decide) ?_
      obtain ⟨r9, M8, hg, hq⟩ := bnd2_e hq
      refine m_calli (As := [.int 8]) (rest := [.ref G.2.2.1]) B hW hl.1 (c_isFull M6 8 hg) mC_isFull rfl ⟨by decide, by decide⟩ rfl (Nat.le_of_ble_eq_true rfl) dX12_settle__24 (fun H locs hW => ?_)
      clear hg
      refine lv_if_eq (tgt := 34) hx hb dX12_settle__27 (by decide) (fun hc => ?_) (fun hc => ?_)
      · replace hq := if_y hc hq
        refine lv_iconst (v := 0) hx hb dX12_settle__34 (by decide) ?_
        exact k_settle__35 B n M8 p1 p2 p3 0 hq _ _ ls hW (lv_sub hl [0, 1, 2, 3] rfl)
      · replace hq := if_n hc hq
        refine lv_iconst (v := 2) hx hb dX12_settle__30 (by decide) ?_
        refine lv_goto (tgt := 35) hx hb dX12_settle__31 (by decide) ?_
        exact k_settle__35 B n M8 p1 p2 p3 2 hq _ _ ls hW (lv_sub hl [0, 1, 2, 3] rfl)
    · replace hq := if_y hc hq
      exact k_settle__17 B n M6 p1 p2 p3 hq _ _ ls hW (lv_sub hl [0, 1, 2, 3] rfl)
set_option maxHeartbeats 4000000 in
set_option maxRecDepth 100000 in
theorem k_later_99 {p : Program} {l : Launch} {e : Env} {s : State} {m : MethodId} {args : Array Value} {below : List Frame} {meth : Method} {c : Code} {D : va_G} {A : Nat → Prop} {G : MG} {r : Int32} {M' : MS} (B : mB p s m args meth c D G prog_14_method_38_code 6 (some .int) (Cond.code yX12_later prog_14_method_38_code 6 (some .int))) :
    ∀ (n : Nat) (M : MS) (v5 : Int32), q_later_99 n M v5 = some (r, M') → ∀ (H : Heap) (locs : List Loc) (ls : Array Slot), mOK D A G M s.heap H locs → lv_has ls 6 [(0, .ref G.2.2.1), (5, .int v5)] → W p l e (rM 3 71) s m args below meth c H locs 0 0 (MQ below (mQi D A G r M') args s 0 0 A) (F0 m 99 ls []) := by
  have hx := B.1
  have hb := B.2.1
  intro n M v5 hq _ _ ls hW hl
  unfold q_later_99 at hq
  refine lv_iload hx hb dX12_later_99 (lv_at hl 1 rfl) ?_
  refine lv_if_eq (tgt := 108) hx hb dX12_later_101 (by decide) (fun hc => ?_) (fun hc => ?_)
  · replace hq := if_y hc hq
    refine lv_iconst (v := 0) hx hb dX12_later_108 (by decide) ?_
    exact m_iret B hW hq dX12_later_109
  · replace hq := if_n hc hq
    refine lv_iconst (v := 1) hx hb dX12_later_104 (by decide) ?_
    refine lv_goto (tgt := 109) hx hb dX12_later_105 (by decide) ?_
    exact m_iret B hW hq dX12_later_109
set_option maxHeartbeats 4000000 in
set_option maxRecDepth 100000 in
theorem k_later_76 {p : Program} {l : Launch} {e : Env} {s : State} {m : MethodId} {args : Array Value} {below : List Frame} {meth : Method} {c : Code} {D : va_G} {A : Nat → Prop} {G : MG} {r : Int32} {M' : MS} (B : mB p s m args meth c D G prog_14_method_38_code 6 (some .int) (Cond.code yX12_later prog_14_method_38_code 6 (some .int))) :
    ∀ (n : Nat) (M : MS) (v2 v3 v4 z0 : Int32), q_later_76 n M v2 v3 v4 z0 = some (r, M') → ∀ (H : Heap) (locs : List Loc) (ls : Array Slot), mOK D A G M s.heap H locs → lv_has ls 6 [(0, .ref G.2.2.1), (2, .int v2), (3, .int v3), (4, .int v4)] → W p l e (rM 3 71) s m args below meth c H locs 0 0 (MQ below (mQi D A G r M') args s 0 0 A) (F0 m 76 ls [.int z0]) := by
  have hx := B.1
  have hb := B.2.1
  intro n M v2 v3 v4 z0 hq _ _ ls hW hl
  unfold q_later_76 at hq
  refine lv_istore (lv' := [(5, .int z0), (0, .ref G.2.2.1), (2, .int v2), (3, .int v3), (4, .int v4)]) hx hb dX12_later_76 hl (by decide) rfl (fun ls hl => ?_)
  refine lv_iload_n hx hb dX12_later_78 rfl (lv_at hl 2 rfl) ?_
  refine lv_if_eq (tgt := 92) hx hb dX12_later_79 (by decide) (fun hc => ?_) (fun hc => ?_)
  · replace hq := if_y hc hq
    refine lv_aload_n hx hb dX12_later_92 rfl (lv_at hl 1 rfl) ?_
    refine lv_iload hx hb dX12_later_93 (lv_at hl 4 rfl) ?_
    refine lv_iload_n hx hb dX12_later_95 rfl (lv_at hl 3 rfl) ?_
    obtain ⟨M10, hg, hq⟩ := bnd_e hq
    refine m_callv (As := [.int v4, .int v3]) (rest := []) B hW hl.1 (c_resolve n M v4 v3 hg) mC_resolve rfl ⟨by decide, by decide⟩ rfl (Nat.le_of_ble_eq_true rfl) dX12_later_96 (fun H locs hW => ?_)
    clear hg
    exact k_later_99 B n M10 z0 hq _ _ ls hW (lv_sub hl [1, 0] rfl)
  · replace hq := if_n hc hq
    refine lv_aload_n hx hb dX12_later_82 rfl (lv_at hl 1 rfl) ?_
    refine lv_iload hx hb dX12_later_83 (lv_at hl 4 rfl) ?_
    refine lv_iload_n hx hb dX12_later_85 rfl (lv_at hl 3 rfl) ?_
    obtain ⟨M11, hg, hq⟩ := bnd_e hq
    refine m_callv (As := [.int v4, .int v3]) (rest := []) B hW hl.1 (c_reject n M v4 v3 hg) mC_reject rfl ⟨by decide, by decide⟩ rfl (Nat.le_of_ble_eq_true rfl) dX12_later_86 (fun H locs hW => ?_)
    clear hg
    refine lv_goto (tgt := 99) hx hb dX12_later_89 (by decide) ?_
    exact k_later_99 B n M11 z0 hq _ _ ls hW (lv_sub hl [1, 0] rfl)
set_option maxHeartbeats 4000000 in
set_option maxRecDepth 100000 in
theorem c_later {l : Launch} {D : va_G} {A : Nat → Prop} {G : MG} (n : Nat) (M : MS) (p1 p2 p3 : Int32) {r : Int32} {M' : MS} (hq : q_later n M p1 p2 p3 = some (r, M')) : Met l yX12_later (wM yX12_later prog_14_method_38_code 6 (some .int)) (rM 3 71) (va_Pc [.ref G.2.2.1, .int p1, .int p2, .int p3] (mPre D A G M)) (mQi D A G r M') 0 0 A := by
  refine m_head (by decide) rfl (Nat.le_of_ble_eq_true rfl) ?_
  intro p e s m args below meth c ls B hW hl
  have hx := B.1
  have hb := B.2.1
  have hl : lv_has ls 6 [(0, .ref G.2.2.1), (1, .int p1), (2, .int p2), (3, .int p3)] := hl
  unfold q_later at hq
  refine lv_aload_n hx hb dX12_later_0 rfl (lv_at hl 0 rfl) ?_
  refine lv_iconst (v := 0) hx hb dX12_later_1 (by decide) ?_
  refine m_put B hW 0 (by decide) u_842 mS_0 rfl (ty := .int) (tyX12_ok 0 (by decide)) rfl rfl (Nat.le_of_ble_eq_true rfl) dX12_later_2 (fun H locs M1 eM hW => ?_)
  replace hq := lt9_u eM hq
  clear eM
  refine lv_aload_n hx hb dX12_later_5 rfl (lv_at hl 0 rfl) ?_
  refine lv_iload_n hx hb dX12_later_6 rfl (lv_at hl 1 rfl) ?_
  refine lv_iconst (v := 1) hx hb dX12_later_7 (by decide) ?_
  obtain ⟨r3, M2, hg, hq⟩ := bnd2_e hq
  refine m_calli (As := [.int p1, .int 1]) (rest := []) B hW hl.1 (c_isKind M1 p1 1 hg) mC_isKind rfl ⟨by decide, by decide⟩ rfl (Nat.le_of_ble_eq_true rfl) dX12_later_8 (fun H locs hW => ?_)
  clear hg
  refine lv_if_eq (tgt := 22) hx hb dX12_later_11 (by decide) (fun hc => ?_) (fun hc => ?_)
  · replace hq := if_y hc hq
    refine lv_aload_n hx hb dX12_later_22 rfl (lv_at hl 0 rfl) ?_
    refine lv_iconst (v := 1) hx hb dX12_later_23 (by decide) ?_
    obtain ⟨r5, M4, hg, hq⟩ := bnd2_e hq
    refine m_calli (As := [.int 1]) (rest := []) B hW hl.1 (c_fails M2 1 hg) mC_fails rfl ⟨by decide, by decide⟩ rfl (Nat.le_of_ble_eq_true rfl) dX12_later_24 (fun H locs hW => ?_)
    clear hg
    exact m_iret B hW hq dX12_later_27
  · replace hq := if_n hc hq
    refine lv_aload_n hx hb dX12_later_14 rfl (lv_at hl 0 rfl) ?_
    refine lv_iload_n hx hb dX12_later_15 rfl (lv_at hl 3 rfl) ?_
    obtain ⟨r7, M6, hg, hq⟩ := bnd2_e hq
    refine m_calli (As := [.int p3]) (rest := []) B hW hl.1 (c_isValue M2 p3 hg) mC_isValue rfl ⟨by decide, by decide⟩ rfl (Nat.le_of_ble_eq_true rfl) dX12_later_16 (fun H locs hW => ?_)
    clear hg
    refine lv_if_ne (tgt := 28) hx hb dX12_later_19 (by decide) (fun hc => ?_) (fun hc => ?_)
    · replace hq := if_n hc hq
      refine lv_aload_n hx hb dX12_later_28 rfl (lv_at hl 0 rfl) ?_
      refine lv_bipush (v := 8) hx hb dX12_later_29 (by decide) ?_
      obtain ⟨r9, M8, hg, hq⟩ := bnd2_e hq
      refine m_calli (As := [.int 8]) (rest := []) B hW hl.1 (c_isFull M6 8 hg) mC_isFull rfl ⟨by decide, by decide⟩ rfl (Nat.le_of_ble_eq_true rfl) dX12_later_31 (fun H locs hW => ?_)
      clear hg
      refine lv_if_eq (tgt := 43) hx hb dX12_later_34 (by decide) (fun hc => ?_) (fun hc => ?_)
      · replace hq := if_y hc hq
        refine lv_aload_n hx hb dX12_later_43 rfl (lv_at hl 0 rfl) ?_
        refine m_get B hW 6 (by decide) u_848 (v := .ref (G.2.2.2 6)) rfl dX12_later_44 ?_
        refine lv_bipush (v := (-2)) hx hb dX12_later_47 (by decide) ?_
        refine lv_iload_n hx hb dX12_later_49 rfl (lv_at hl 1 rfl) ?_
        refine lv_isub hx hb dX12_later_50 ?_
        obtain ⟨hc, hq⟩ := chk_e hq
        refine m_iald B hW mA_6 hc dX12_later_51 ?_
        refine lv_istore (lv' := [(4, .int (M8 6 ((-2) - p1).toNatClampNeg)), (0, .ref G.2.2.1), (1, .int p1), (2, .int p2), (3, .int p3)]) hx hb dX12_later_52 hl (by decide) rfl (fun ls hl => ?_)
        refine lv_iload hx hb dX12_later_54 (lv_at hl 0 rfl) ?_
        refine lv_if_ge (tgt := 61) hx hb dX12_later_56 (by decide) (fun hc => ?_) (fun hc => ?_)
        · replace hq := if_y hc hq
          refine lv_aload_n hx hb dX12_later_61 rfl (lv_at hl 1 rfl) ?_
          refine m_get B hW 14 (by decide) u_856 (v := .ref (G.2.2.2 14)) rfl dX12_later_62 ?_
          refine lv_iload hx hb dX12_later_65 (lv_at hl 0 rfl) ?_
          obtain ⟨hc, hq⟩ := chk_e hq
          refine m_zald B hW mA_14 hc dX12_later_67 ?_
          refine lv_if_ne (tgt := 75) hx hb dX12_later_68 (by decide) (fun hc => ?_) (fun hc => ?_)
          · replace hq := if_n hc hq
            refine lv_iconst (v := 0) hx hb dX12_later_75 (by decide) ?_
            exact k_later_76 B n M8 p2 p3 (M8 6 ((-2) - p1).toNatClampNeg) 0 hq _ _ ls hW (lv_sub hl [1, 3, 4, 0] rfl)
          · replace hq := if_y hc hq
            refine lv_iconst (v := 1) hx hb dX12_later_71 (by decide) ?_
            refine lv_goto (tgt := 76) hx hb dX12_later_72 (by decide) ?_
            exact k_later_76 B n M8 p2 p3 (M8 6 ((-2) - p1).toNatClampNeg) 1 hq _ _ ls hW (lv_sub hl [1, 3, 4, 0] rfl)
        · replace hq := if_n hc hq
          refine lv_iconst (v := (-1)) hx hb dX12_later_59 (by decide) ?_
          exact m_iret B hW hq dX12_later_60
      · replace hq := if_n hc hq
        refine lv_aload_n hx hb dX12_later_37 rfl (lv_at hl 0 rfl) ?_
        refine lv_iconst (v := 2) hx hb dX12_later_38 (by decide) ?_
        obtain ⟨r13, M12, hg, hq⟩ := bnd2_e hq
        refine m_calli (As := [.int 2]) (rest := []) B hW hl.1 (c_fails M8 2 hg) mC_fails rfl ⟨by decide, by decide⟩ rfl (Nat.le_of_ble_eq_true rfl) dX12_later_39 (fun H locs hW => ?_)
        clear hg
        exact m_iret B hW hq dX12_later_42
    · replace hq := if_y hc hq
      refine lv_aload_n hx hb dX12_later_22 rfl (lv_at hl 0 rfl) ?_
      refine lv_iconst (v := 1) hx hb dX12_later_23 (by decide) ?_
      obtain ⟨r15, M14, hg, hq⟩ := bnd2_e hq
      refine m_calli (As := [.int 1]) (rest := []) B hW hl.1 (c_fails M6 1 hg) mC_fails rfl ⟨by decide, by decide⟩ rfl (Nat.le_of_ble_eq_true rfl) dX12_later_24 (fun H locs hW => ?_)
      clear hg
      exact m_iret B hW hq dX12_later_27
set_option maxHeartbeats 4000000 in
set_option maxRecDepth 100000 in
theorem c_isHandler {l : Launch} {D : va_G} {A : Nat → Prop} {G : MG} (M : MS) (p1 : Int32) {r : Int32} {M' : MS} (hq : q_isHandler M p1 = some (r, M')) : Met l yX12_isHandler (wM yX12_isHandler prog_14_method_8_code 2 (some .boolean)) (rM 0 0) (va_Pc [.ref G.2.2.1, .int p1] (mPre D A G M)) (mQi D A G r M') 0 0 A := by
  refine m_head (by decide) rfl (Nat.le_of_ble_eq_true rfl) ?_
  intro p e s m args below meth c ls B hW hl
  have hx := B.1
  have hb := B.2.1
  have hl : lv_has ls 2 [(0, .ref G.2.2.1), (1, .int p1)] := hl
  unfold q_isHandler at hq
  refine lv_iload_n hx hb dX12_isHandler_0 rfl (lv_at hl 1 rfl) ?_
  refine lv_if_lt (tgt := 16) hx hb dX12_isHandler_1 (by decide) (fun hc => ?_) (fun hc => ?_)
  · replace hq := if_y hc hq
    refine lv_iconst (v := 0) hx hb dX12_isHandler_16 (by decide) ?_
    obtain ⟨hc, hq⟩ := chk_e hq
    exact m_zret B hW hc hq dX12_isHandler_17
  · replace hq := if_n hc hq
    refine lv_iload_n hx hb dX12_isHandler_4 rfl (lv_at hl 1 rfl) ?_
    refine lv_aload_n hx hb dX12_isHandler_5 rfl (lv_at hl 0 rfl) ?_
    refine m_get B hW 33 (by decide) u_875 (v := .int (M 33 0)) rfl dX12_isHandler_6 ?_
    refine lv_icmp_ge (tgt := 16) hx hb dX12_isHandler_9 (by decide) (fun hc => ?_) (fun hc => ?_)
    · replace hq := if_y hc hq
      refine lv_iconst (v := 0) hx hb dX12_isHandler_16 (by decide) ?_
      obtain ⟨hc, hq⟩ := chk_e hq
      exact m_zret B hW hc hq dX12_isHandler_17
    · replace hq := if_n hc hq
      refine lv_iconst (v := 1) hx hb dX12_isHandler_12 (by decide) ?_
      refine lv_goto (tgt := 17) hx hb dX12_isHandler_13 (by decide) ?_
      obtain ⟨hc, hq⟩ := chk_e hq
      exact m_zret B hW hc hq dX12_isHandler_17
theorem mC_isHandler : mC yX12_isHandler prog_14_method_8_code 2 (some .boolean) 266 1 := ⟨fun _ => g_V u_1083 u_1085 us_52 u_5 u_1086, by decide +kernel⟩
set_option maxHeartbeats 4000000 in
set_option maxRecDepth 100000 in
theorem k_performThen_125 {p : Program} {l : Launch} {e : Env} {s : State} {m : MethodId} {args : Array Value} {below : List Frame} {meth : Method} {c : Code} {D : va_G} {A : Nat → Prop} {G : MG} {M' : MS} (B : mB p s m args meth c D G prog_14_method_17_code 9 none (Cond.code yX12_performThen prog_14_method_17_code 9 none)) :
    ∀ (n : Nat) (M : MS) (v1 v7 v8 : Int32), q_performThen_125 n M v1 v7 v8 = some M' → ∀ (H : Heap) (locs : List Loc) (ls : Array Slot), mOK D A G M s.heap H locs → lv_has ls 9 [(0, .ref G.2.2.1), (1, .int v1), (7, .int v7), (8, .int v8)] → W p l e (rM 1 23) s m args below meth c H locs 0 0 (MQ below (mQv D A G M') args s 0 0 A) (F0 m 125 ls []) := by
  have hx := B.1
  have hb := B.2.1
  intro n
  induction n with
  | zero => intro M v1 v7 v8 hq; cases hq
  | succ n ih =>
    intro M v1 v7 v8 hq _ _ ls hW hl
    replace hq : (chk (inb v8 12000) (if (M 16 v8.toNatClampNeg) < 0 then chk (inb v8 12000) (lt9 (mput M 16 v8.toNatClampNeg v7) (fun M8 => chk (inb v1 3000) (chk (isB 1) (lt9 (mput M8 7 v1.toNatClampNeg 1) (fun M9 => some M9))))) else chk (inb v8 12000) (q_performThen_125 n M v1 v7 (M 16 v8.toNatClampNeg)))) = some M' := hq
    refine lv_aload_n hx hb dX12_performThen_125 rfl (lv_at hl 0 rfl) ?_
    refine m_get B hW 16 (by decide) u_858 (v := .ref (G.2.2.2 16)) rfl dX12_performThen_126 ?_
    refine lv_iload hx hb dX12_performThen_129 (lv_at hl 3 rfl) ?_
    obtain ⟨hc, hq⟩ := chk_e hq
    refine m_iald B hW mA_16 hc dX12_performThen_131 ?_
    refine lv_if_lt (tgt := 147) hx hb dX12_performThen_132 (by decide) (fun hc => ?_) (fun hc => ?_)
    · replace hq := if_y hc hq
      refine lv_aload_n hx hb dX12_performThen_147 rfl (lv_at hl 0 rfl) ?_
      refine m_get B hW 16 (by decide) u_858 (v := .ref (G.2.2.2 16)) rfl dX12_performThen_148 ?_
      refine lv_iload hx hb dX12_performThen_151 (lv_at hl 3 rfl) ?_
      refine lv_iload hx hb dX12_performThen_153 (lv_at hl 2 rfl) ?_
      obtain ⟨hc, hq⟩ := chk_e hq
      refine m_iast B hW mA_16 hc dX12_performThen_155 (fun H locs M8 eM hW => ?_)
      replace hq := lt9_u eM hq
      clear eM
      refine lv_aload_n hx hb dX12_performThen_156 rfl (lv_at hl 0 rfl) ?_
      refine m_get B hW 7 (by decide) u_849 (v := .ref (G.2.2.2 7)) rfl dX12_performThen_157 ?_
      refine lv_iload_n hx hb dX12_performThen_160 rfl (lv_at hl 1 rfl) ?_
      refine lv_iconst (v := 1) hx hb dX12_performThen_161 (by decide) ?_
      obtain ⟨hc, hq⟩ := chk_e hq
      obtain ⟨hc2, hq⟩ := chk_e hq
      refine m_zast B hW mA_7 hc2 hc dX12_performThen_162 (fun H locs M9 eM hW => ?_)
      replace hq := lt9_u eM hq
      clear eM
      exact m_vret B hW hq dX12_performThen_163
    · replace hq := if_n hc hq
      refine lv_aload_n hx hb dX12_performThen_135 rfl (lv_at hl 0 rfl) ?_
      refine m_get B hW 16 (by decide) u_858 (v := .ref (G.2.2.2 16)) rfl dX12_performThen_136 ?_
      refine lv_iload hx hb dX12_performThen_139 (lv_at hl 3 rfl) ?_
      obtain ⟨hc, hq⟩ := chk_e hq
      refine m_iald B hW mA_16 hc dX12_performThen_141 ?_
      refine lv_istore (lv' := [(8, .int (M 16 v8.toNatClampNeg)), (0, .ref G.2.2.1), (1, .int v1), (7, .int v7)]) hx hb dX12_performThen_142 hl (by decide) rfl (fun ls hl => ?_)
      refine lv_goto (tgt := 125) hx hb dX12_performThen_144 (by decide) ?_
      exact ih M v1 v7 (M 16 v8.toNatClampNeg) hq _ _ ls hW (lv_sub hl [1, 2, 3, 0] rfl)
set_option maxHeartbeats 4000000 in
set_option maxRecDepth 100000 in
theorem c_performThen {l : Launch} {D : va_G} {A : Nat → Prop} {G : MG} (n : Nat) (M : MS) (p1 p2 p3 p4 p5 p6 : Int32) {M' : MS} (hq : q_performThen n M p1 p2 p3 p4 p5 p6 = some M') : Met l yX12_performThen (wM yX12_performThen prog_14_method_17_code 9 none) (rM 1 23) (va_Pc [.ref G.2.2.1, .int p1, .int p2, .int p3, .int p4, .int p5, .int p6] (mPre D A G M)) (mQv D A G M') 0 0 A := by
  refine m_head (by decide) rfl (Nat.le_of_ble_eq_true rfl) ?_
  intro p e s m args below meth c ls B hW hl
  have hx := B.1
  have hb := B.2.1
  have hl : lv_has ls 9 [(0, .ref G.2.2.1), (1, .int p1), (2, .int p2), (3, .int p3), (4, .int p4), (5, .int p5), (6, .int p6)] := hl
  unfold q_performThen at hq
  refine lv_aload_n hx hb dX12_performThen_0 rfl (lv_at hl 0 rfl) ?_
  refine m_get B hW 22 (by decide) u_864 (v := .int (M 22 0)) rfl dX12_performThen_1 ?_
  refine lv_istore (lv' := [(7, .int (M 22 0)), (0, .ref G.2.2.1), (1, .int p1), (2, .int p2), (3, .int p3), (4, .int p4), (5, .int p5), (6, .int p6)]) hx hb dX12_performThen_4 hl (by decide) rfl (fun ls hl => ?_)
  refine lv_aload_n hx hb dX12_performThen_6 rfl (lv_at hl 1 rfl) ?_
  refine lv_dup hx hb dX12_performThen_7 rfl ?_
  refine m_get B hW 22 (by decide) u_864 (v := .int (M 22 0)) rfl dX12_performThen_8 ?_
  refine lv_iconst (v := 1) hx hb dX12_performThen_11 (by decide) ?_
  refine lv_iadd hx hb dX12_performThen_12 ?_
  refine m_put B hW 22 (by decide) u_864 mS_22 rfl (ty := .int) (tyX12_ok 22 (by decide)) rfl rfl (Nat.le_of_ble_eq_true rfl) dX12_performThen_13 (fun H locs M1 eM hW => ?_)
  replace hq := lt9_u eM hq
  clear eM
  refine lv_aload_n hx hb dX12_performThen_16 rfl (lv_at hl 1 rfl) ?_
  refine m_get B hW 16 (by decide) u_858 (v := .ref (G.2.2.2 16)) rfl dX12_performThen_17 ?_
  refine lv_iload hx hb dX12_performThen_20 (lv_at hl 0 rfl) ?_
  refine lv_iconst (v := (-1)) hx hb dX12_performThen_22 (by decide) ?_
  obtain ⟨hc, hq⟩ := chk_e hq
  refine m_iast B hW mA_16 hc dX12_performThen_23 (fun H locs M2 eM hW => ?_)
  replace hq := lt9_u eM hq
  clear eM
  refine lv_aload_n hx hb dX12_performThen_24 rfl (lv_at hl 1 rfl) ?_
  refine m_get B hW 17 (by decide) u_859 (v := .ref (G.2.2.2 17)) rfl dX12_performThen_25 ?_
  refine lv_iload hx hb dX12_performThen_28 (lv_at hl 0 rfl) ?_
  refine lv_iload hx hb dX12_performThen_30 (lv_at hl 7 rfl) ?_
  obtain ⟨hc, hq⟩ := chk_e hq
  refine m_iast B hW mA_17 hc dX12_performThen_32 (fun H locs M3 eM hW => ?_)
  replace hq := lt9_u eM hq
  clear eM
  refine lv_aload_n hx hb dX12_performThen_33 rfl (lv_at hl 1 rfl) ?_
  refine m_get B hW 18 (by decide) u_860 (v := .ref (G.2.2.2 18)) rfl dX12_performThen_34 ?_
  refine lv_iload hx hb dX12_performThen_37 (lv_at hl 0 rfl) ?_
  refine lv_iload_n hx hb dX12_performThen_39 rfl (lv_at hl 3 rfl) ?_
  obtain ⟨hc, hq⟩ := chk_e hq
  refine m_iast B hW mA_18 hc dX12_performThen_40 (fun H locs M4 eM hW => ?_)
  replace hq := lt9_u eM hq
  clear eM
  refine lv_aload_n hx hb dX12_performThen_41 rfl (lv_at hl 1 rfl) ?_
  refine m_get B hW 19 (by decide) u_861 (v := .ref (G.2.2.2 19)) rfl dX12_performThen_42 ?_
  refine lv_iload hx hb dX12_performThen_45 (lv_at hl 0 rfl) ?_
  refine lv_iload_n hx hb dX12_performThen_47 rfl (lv_at hl 4 rfl) ?_
  obtain ⟨hc, hq⟩ := chk_e hq
  refine m_iast B hW mA_19 hc dX12_performThen_48 (fun H locs M5 eM hW => ?_)
  replace hq := lt9_u eM hq
  clear eM
  refine lv_aload_n hx hb dX12_performThen_49 rfl (lv_at hl 1 rfl) ?_
  refine m_get B hW 20 (by decide) u_862 (v := .ref (G.2.2.2 20)) rfl dX12_performThen_50 ?_
  refine lv_iload hx hb dX12_performThen_53 (lv_at hl 0 rfl) ?_
  refine lv_iload hx hb dX12_performThen_55 (lv_at hl 5 rfl) ?_
  obtain ⟨hc, hq⟩ := chk_e hq
  refine m_iast B hW mA_20 hc dX12_performThen_57 (fun H locs M6 eM hW => ?_)
  replace hq := lt9_u eM hq
  clear eM
  refine lv_aload_n hx hb dX12_performThen_58 rfl (lv_at hl 1 rfl) ?_
  refine m_get B hW 21 (by decide) u_863 (v := .ref (G.2.2.2 21)) rfl dX12_performThen_59 ?_
  refine lv_iload hx hb dX12_performThen_62 (lv_at hl 0 rfl) ?_
  refine lv_iload hx hb dX12_performThen_64 (lv_at hl 6 rfl) ?_
  obtain ⟨hc, hq⟩ := chk_e hq
  refine m_iast B hW mA_21 hc dX12_performThen_66 (fun H locs M7 eM hW => ?_)
  replace hq := lt9_u eM hq
  clear eM
  refine lv_aload_n hx hb dX12_performThen_67 rfl (lv_at hl 1 rfl) ?_
  refine m_get B hW 3 (by decide) u_845 (v := .ref (G.2.2.2 3)) rfl dX12_performThen_68 ?_
  refine lv_iload_n hx hb dX12_performThen_71 rfl (lv_at hl 2 rfl) ?_
  obtain ⟨hc, hq⟩ := chk_e hq
  refine m_iald B hW mA_3 hc dX12_performThen_72 ?_
  refine lv_if_eq (tgt := 97) hx hb dX12_performThen_73 (by decide) (fun hc => ?_) (fun hc => ?_)
  · replace hq := if_y hc hq
    refine lv_aload_n hx hb dX12_performThen_97 rfl (lv_at hl 1 rfl) ?_
    refine m_get B hW 5 (by decide) u_847 (v := .ref (G.2.2.2 5)) rfl dX12_performThen_98 ?_
    refine lv_iload_n hx hb dX12_performThen_101 rfl (lv_at hl 2 rfl) ?_
    obtain ⟨hc, hq⟩ := chk_e hq
    refine m_iald B hW mA_5 hc dX12_performThen_102 ?_
    refine lv_if_ge (tgt := 117) hx hb dX12_performThen_103 (by decide) (fun hc => ?_) (fun hc => ?_)
    · replace hq := if_y hc hq
      refine lv_aload_n hx hb dX12_performThen_117 rfl (lv_at hl 1 rfl) ?_
      refine m_get B hW 5 (by decide) u_847 (v := .ref (G.2.2.2 5)) rfl dX12_performThen_118 ?_
      refine lv_iload_n hx hb dX12_performThen_121 rfl (lv_at hl 2 rfl) ?_
      obtain ⟨hc, hq⟩ := chk_e hq
      refine m_iald B hW mA_5 hc dX12_performThen_122 ?_
      refine lv_istore (lv' := [(8, .int (M7 5 p1.toNatClampNeg)), (7, .int (M 22 0)), (0, .ref G.2.2.1), (1, .int p1), (2, .int p2), (3, .int p3), (4, .int p4), (5, .int p5), (6, .int p6)]) hx hb dX12_performThen_123 hl (by decide) rfl (fun ls hl => ?_)
      exact k_performThen_125 B n M7 p1 (M 22 0) (M7 5 p1.toNatClampNeg) hq _ _ ls hW (lv_sub hl [2, 3, 1, 0] rfl)
    · replace hq := if_n hc hq
      refine lv_aload_n hx hb dX12_performThen_106 rfl (lv_at hl 1 rfl) ?_
      refine m_get B hW 5 (by decide) u_847 (v := .ref (G.2.2.2 5)) rfl dX12_performThen_107 ?_
      refine lv_iload_n hx hb dX12_performThen_110 rfl (lv_at hl 2 rfl) ?_
      refine lv_iload hx hb dX12_performThen_111 (lv_at hl 0 rfl) ?_
      obtain ⟨hc, hq⟩ := chk_e hq
      refine m_iast B hW mA_5 hc dX12_performThen_113 (fun H locs M10 eM hW => ?_)
      replace hq := lt9_u eM hq
      clear eM
      refine lv_goto (tgt := 156) hx hb dX12_performThen_114 (by decide) ?_
      refine lv_aload_n hx hb dX12_performThen_156 rfl (lv_at hl 1 rfl) ?_
      refine m_get B hW 7 (by decide) u_849 (v := .ref (G.2.2.2 7)) rfl dX12_performThen_157 ?_
      refine lv_iload_n hx hb dX12_performThen_160 rfl (lv_at hl 2 rfl) ?_
      refine lv_iconst (v := 1) hx hb dX12_performThen_161 (by decide) ?_
      obtain ⟨hc, hq⟩ := chk_e hq
      obtain ⟨hc2, hq⟩ := chk_e hq
      refine m_zast B hW mA_7 hc2 hc dX12_performThen_162 (fun H locs M11 eM hW => ?_)
      replace hq := lt9_u eM hq
      clear eM
      exact m_vret B hW hq dX12_performThen_163
  · replace hq := if_n hc hq
    refine lv_aload_n hx hb dX12_performThen_76 rfl (lv_at hl 1 rfl) ?_
    refine lv_iload hx hb dX12_performThen_77 (lv_at hl 0 rfl) ?_
    refine lv_aload_n hx hb dX12_performThen_79 rfl (lv_at hl 1 rfl) ?_
    refine m_get B hW 3 (by decide) u_845 (v := .ref (G.2.2.2 3)) rfl dX12_performThen_80 ?_
    refine lv_iload_n hx hb dX12_performThen_83 rfl (lv_at hl 2 rfl) ?_
    obtain ⟨hc, hq⟩ := chk_e hq
    refine m_iald B hW mA_3 hc dX12_performThen_84 ?_
    refine lv_aload_n hx hb dX12_performThen_85 rfl (lv_at hl 1 rfl) ?_
    refine m_get B hW 4 (by decide) u_846 (v := .ref (G.2.2.2 4)) rfl dX12_performThen_86 ?_
    refine lv_iload_n hx hb dX12_performThen_89 rfl (lv_at hl 2 rfl) ?_
    obtain ⟨hc, hq⟩ := chk_e hq
    refine m_iald B hW mA_4 hc dX12_performThen_90 ?_
    obtain ⟨M12, hg, hq⟩ := bnd_e hq
    refine m_callv (As := [.int (M 22 0), .int (M7 3 p1.toNatClampNeg), .int (M7 4 p1.toNatClampNeg)]) (rest := []) B hW hl.1 (c_react M7 (M 22 0) (M7 3 p1.toNatClampNeg) (M7 4 p1.toNatClampNeg) hg) mC_react rfl ⟨by decide, by decide⟩ rfl (Nat.le_of_ble_eq_true rfl) dX12_performThen_91 (fun H locs hW => ?_)
    clear hg
    refine lv_goto (tgt := 156) hx hb dX12_performThen_94 (by decide) ?_
    refine lv_aload_n hx hb dX12_performThen_156 rfl (lv_at hl 1 rfl) ?_
    refine m_get B hW 7 (by decide) u_849 (v := .ref (G.2.2.2 7)) rfl dX12_performThen_157 ?_
    refine lv_iload_n hx hb dX12_performThen_160 rfl (lv_at hl 2 rfl) ?_
    refine lv_iconst (v := 1) hx hb dX12_performThen_161 (by decide) ?_
    obtain ⟨hc, hq⟩ := chk_e hq
    obtain ⟨hc2, hq⟩ := chk_e hq
    refine m_zast B hW mA_7 hc2 hc dX12_performThen_162 (fun H locs M13 eM hW => ?_)
    replace hq := lt9_u eM hq
    clear eM
    exact m_vret B hW hq dX12_performThen_163
theorem mC_performThen : mC yX12_performThen prog_14_method_17_code 9 none 175 6 := ⟨fun _ => g_V u_1091 u_1093 us_54 u_5 u_1094, by decide +kernel⟩
set_option maxHeartbeats 4000000 in
set_option maxRecDepth 100000 in
theorem c_then {l : Launch} {D : va_G} {A : Nat → Prop} {G : MG} (n : Nat) (M : MS) (p1 p2 p3 p4 p5 : Int32) {r : Int32} {M' : MS} (hq : q_then n M p1 p2 p3 p4 p5 = some (r, M')) : Met l yX12_then (wM yX12_then prog_14_method_18_code 7 (some .int)) (rM 2 51) (va_Pc [.ref G.2.2.1, .int p1, .int p2, .int p3, .int p4, .int p5] (mPre D A G M)) (mQi D A G r M') 0 0 A := by
  refine m_head (by decide) rfl (Nat.le_of_ble_eq_true rfl) ?_
  intro p e s m args below meth c ls B hW hl
  have hx := B.1
  have hb := B.2.1
  have hl : lv_has ls 7 [(0, .ref G.2.2.1), (1, .int p1), (2, .int p2), (3, .int p3), (4, .int p4), (5, .int p5)] := hl
  unfold q_then at hq
  refine lv_aload_n hx hb dX12_then_0 rfl (lv_at hl 0 rfl) ?_
  obtain ⟨r2, M1, hg, hq⟩ := bnd2_e hq
  refine m_calli (As := []) (rest := []) B hW hl.1 (c_capability M hg) mC_capability rfl ⟨by decide, by decide⟩ rfl (Nat.le_of_ble_eq_true rfl) dX12_then_1 (fun H locs hW => ?_)
  clear hg
  refine lv_istore (lv' := [(6, .int r2), (0, .ref G.2.2.1), (1, .int p1), (2, .int p2), (3, .int p3), (4, .int p4), (5, .int p5)]) hx hb dX12_then_4 hl (by decide) rfl (fun ls hl => ?_)
  refine lv_aload_n hx hb dX12_then_6 rfl (lv_at hl 1 rfl) ?_
  refine lv_iload_n hx hb dX12_then_7 rfl (lv_at hl 2 rfl) ?_
  refine lv_iload_n hx hb dX12_then_8 rfl (lv_at hl 3 rfl) ?_
  refine lv_iload_n hx hb dX12_then_9 rfl (lv_at hl 4 rfl) ?_
  refine lv_iload hx hb dX12_then_10 (lv_at hl 5 rfl) ?_
  refine lv_iload hx hb dX12_then_12 (lv_at hl 6 rfl) ?_
  refine lv_iload hx hb dX12_then_14 (lv_at hl 0 rfl) ?_
  obtain ⟨M3, hg, hq⟩ := bnd_e hq
  refine m_callv (As := [.int p1, .int p2, .int p3, .int p4, .int p5, .int r2]) (rest := []) B hW hl.1 (c_performThen n M1 p1 p2 p3 p4 p5 r2 hg) mC_performThen rfl ⟨by decide, by decide⟩ rfl (Nat.le_of_ble_eq_true rfl) dX12_then_16 (fun H locs hW => ?_)
  clear hg
  refine lv_aload_n hx hb dX12_then_19 rfl (lv_at hl 1 rfl) ?_
  refine m_get B hW 13 (by decide) u_855 (v := .ref (G.2.2.2 13)) rfl dX12_then_20 ?_
  refine lv_iload hx hb dX12_then_23 (lv_at hl 0 rfl) ?_
  obtain ⟨hc, hq⟩ := chk_e hq
  refine m_iald B hW mA_13 hc dX12_then_25 ?_
  exact m_iret B hW hq dX12_then_26
theorem mC_then : mC yX12_then prog_14_method_18_code 7 (some .int) 220 5 := ⟨fun _ => g_V u_1087 u_1089 us_53 u_5 u_1090, by decide +kernel⟩
set_option maxHeartbeats 4000000 in
set_option maxRecDepth 100000 in
theorem k_then__98 {p : Program} {l : Launch} {e : Env} {s : State} {m : MethodId} {args : Array Value} {below : List Frame} {meth : Method} {c : Code} {D : va_G} {A : Nat → Prop} {G : MG} {r : Int32} {M' : MS} (B : mB p s m args meth c D G prog_14_method_39_code 6 (some .int) (Cond.code yX12_then_ prog_14_method_39_code 6 (some .int))) :
    ∀ (n : Nat) (M : MS) (v2 v3 v5 z0 z1 : Int32), q_then__98 n M v2 v3 v5 z0 z1 = some (r, M') → ∀ (H : Heap) (locs : List Loc) (ls : Array Slot), mOK D A G M s.heap H locs → lv_has ls 6 [(0, .ref G.2.2.1), (2, .int v2), (3, .int v3), (5, .int v5)] → W p l e (rM 3 77) s m args below meth c H locs 0 0 (MQ below (mQi D A G r M') args s 0 0 A) (F0 m 98 ls [.int z0, .int z1, .ref G.2.2.1]) := by
  have hx := B.1
  have hb := B.2.1
  intro n M v2 v3 v5 z0 z1 hq _ _ ls hW hl
  unfold q_then__98 at hq
  refine lv_iload_n hx hb dX12_then__98 rfl (lv_at hl 1 rfl) ?_
  refine lv_iload hx hb dX12_then__99 (lv_at hl 3 rfl) ?_
  refine lv_if_eq (tgt := 108) hx hb dX12_then__101 (by decide) (fun hc => ?_) (fun hc => ?_)
  · replace hq := if_y hc hq
    refine lv_iconst (v := 0) hx hb dX12_then__108 (by decide) ?_
    refine lv_iload_n hx hb dX12_then__109 rfl (lv_at hl 2 rfl) ?_
    obtain ⟨r9, M8, hg, hq⟩ := bnd2_e hq
    refine m_calli (As := [.int z1, .int z0, .int v2, .int 0, .int v3]) (rest := []) B hW hl.1 (c_then n M z1 z0 v2 0 v3 hg) mC_then rfl ⟨by decide, by decide⟩ rfl (Nat.le_of_ble_eq_true rfl) dX12_then__110 (fun H locs hW => ?_)
    clear hg
    refine m_valueOf (rest := []) B hW hl.1 ⟨by decide, by decide⟩ (Nat.le_of_ble_eq_true rfl) dX12_then__113 (fun H locs hW => ?_)
    exact m_iret B hW hq dX12_then__116
  · replace hq := if_n hc hq
    refine lv_iconst (v := 1) hx hb dX12_then__104 (by decide) ?_
    refine lv_goto (tgt := 109) hx hb dX12_then__105 (by decide) ?_
    refine lv_iload_n hx hb dX12_then__109 rfl (lv_at hl 2 rfl) ?_
    obtain ⟨r11, M10, hg, hq⟩ := bnd2_e hq
    refine m_calli (As := [.int z1, .int z0, .int v2, .int 1, .int v3]) (rest := []) B hW hl.1 (c_then n M z1 z0 v2 1 v3 hg) mC_then rfl ⟨by decide, by decide⟩ rfl (Nat.le_of_ble_eq_true rfl) dX12_then__110 (fun H locs hW => ?_)
    clear hg
    refine m_valueOf (rest := []) B hW hl.1 ⟨by decide, by decide⟩ (Nat.le_of_ble_eq_true rfl) dX12_then__113 (fun H locs hW => ?_)
    exact m_iret B hW hq dX12_then__116
set_option maxHeartbeats 4000000 in
set_option maxRecDepth 100000 in
theorem k_then__81 {p : Program} {l : Launch} {e : Env} {s : State} {m : MethodId} {args : Array Value} {below : List Frame} {meth : Method} {c : Code} {D : va_G} {A : Nat → Prop} {G : MG} {r : Int32} {M' : MS} (B : mB p s m args meth c D G prog_14_method_39_code 6 (some .int) (Cond.code yX12_then_ prog_14_method_39_code 6 (some .int))) :
    ∀ (n : Nat) (M : MS) (v1 v2 v3 z0 : Int32), q_then__81 n M v1 v2 v3 z0 = some (r, M') → ∀ (H : Heap) (locs : List Loc) (ls : Array Slot), mOK D A G M s.heap H locs → lv_has ls 6 [(0, .ref G.2.2.1), (1, .int v1), (2, .int v2), (3, .int v3)] → W p l e (rM 3 77) s m args below meth c H locs 0 0 (MQ below (mQi D A G r M') args s 0 0 A) (F0 m 81 ls [.int z0]) := by
  have hx := B.1
  have hb := B.2.1
  intro n M v1 v2 v3 z0 hq _ _ ls hW hl
  unfold q_then__81 at hq
  refine lv_istore (lv' := [(5, .int z0), (0, .ref G.2.2.1), (1, .int v1), (2, .int v2), (3, .int v3)]) hx hb dX12_then__81 hl (by decide) rfl (fun ls hl => ?_)
  refine lv_aload_n hx hb dX12_then__83 rfl (lv_at hl 1 rfl) ?_
  refine lv_bipush (v := (-2)) hx hb dX12_then__84 (by decide) ?_
  refine lv_iload_n hx hb dX12_then__86 rfl (lv_at hl 2 rfl) ?_
  refine lv_isub hx hb dX12_then__87 ?_
  refine lv_iload_n hx hb dX12_then__88 rfl (lv_at hl 3 rfl) ?_
  refine lv_iconst (v := (-1)) hx hb dX12_then__89 (by decide) ?_
  refine lv_icmp_ne (tgt := 97) hx hb dX12_then__90 (by decide) (fun hc => ?_) (fun hc => ?_)
  · replace hq := if_n hc hq
    refine lv_iconst (v := 1) hx hb dX12_then__97 (by decide) ?_
    exact k_then__98 B n M v2 v3 z0 1 ((-2) - v1) hq _ _ ls hW (lv_sub hl [1, 3, 4, 0] rfl)
  · replace hq := if_y hc hq
    refine lv_iconst (v := 0) hx hb dX12_then__93 (by decide) ?_
    refine lv_goto (tgt := 98) hx hb dX12_then__94 (by decide) ?_
    exact k_then__98 B n M v2 v3 z0 0 ((-2) - v1) hq _ _ ls hW (lv_sub hl [1, 3, 4, 0] rfl)
set_option maxHeartbeats 4000000 in
set_option maxRecDepth 100000 in
theorem k_then__80 {p : Program} {l : Launch} {e : Env} {s : State} {m : MethodId} {args : Array Value} {below : List Frame} {meth : Method} {c : Code} {D : va_G} {A : Nat → Prop} {G : MG} {r : Int32} {M' : MS} (B : mB p s m args meth c D G prog_14_method_39_code 6 (some .int) (Cond.code yX12_then_ prog_14_method_39_code 6 (some .int))) :
    ∀ (n : Nat) (M : MS) (v1 v2 v3 : Int32), q_then__80 n M v1 v2 v3 = some (r, M') → ∀ (H : Heap) (locs : List Loc) (ls : Array Slot), mOK D A G M s.heap H locs → lv_has ls 6 [(0, .ref G.2.2.1), (1, .int v1), (2, .int v2), (3, .int v3)] → W p l e (rM 3 77) s m args below meth c H locs 0 0 (MQ below (mQi D A G r M') args s 0 0 A) (F0 m 80 ls []) := by
  have hx := B.1
  have hb := B.2.1
  intro n M v1 v2 v3 hq _ _ ls hW hl
  unfold q_then__80 at hq
  refine lv_iconst (v := 0) hx hb dX12_then__80 (by decide) ?_
  exact k_then__81 B n M v1 v2 v3 0 hq _ _ ls hW (lv_sub hl [0, 1, 2, 3] rfl)
set_option maxHeartbeats 4000000 in
set_option maxRecDepth 100000 in
theorem k_then__51 {p : Program} {l : Launch} {e : Env} {s : State} {m : MethodId} {args : Array Value} {below : List Frame} {meth : Method} {c : Code} {D : va_G} {A : Nat → Prop} {G : MG} {r : Int32} {M' : MS} (B : mB p s m args meth c D G prog_14_method_39_code 6 (some .int) (Cond.code yX12_then_ prog_14_method_39_code 6 (some .int))) :
    ∀ (n : Nat) (M : MS) (v1 v2 v3 v4 : Int32), q_then__51 n M v1 v2 v3 v4 = some (r, M') → ∀ (H : Heap) (locs : List Loc) (ls : Array Slot), mOK D A G M s.heap H locs → lv_has ls 6 [(0, .ref G.2.2.1), (1, .int v1), (2, .int v2), (3, .int v3), (4, .int v4)] → W p l e (rM 3 77) s m args below meth c H locs 0 0 (MQ below (mQi D A G r M') args s 0 0 A) (F0 m 51 ls []) := by
  have hx := B.1
  have hb := B.2.1
  intro n M v1 v2 v3 v4 hq _ _ ls hW hl
  unfold q_then__51 at hq
  refine lv_aload_n hx hb dX12_then__51 rfl (lv_at hl 0 rfl) ?_
  refine lv_bipush (v := 8) hx hb dX12_then__52 (by decide) ?_
  obtain ⟨r7, M6, hg, hq⟩ := bnd2_e hq
  refine m_calli (As := [.int 8]) (rest := []) B hW hl.1 (c_isFull M 8 hg) mC_isFull rfl ⟨by decide, by decide⟩ rfl (Nat.le_of_ble_eq_true rfl) dX12_then__54 (fun H locs hW => ?_)
  clear hg
  refine lv_if_eq (tgt := 66) hx hb dX12_then__57 (by decide) (fun hc => ?_) (fun hc => ?_)
  · replace hq := if_y hc hq
    refine lv_iload hx hb dX12_then__66 (lv_at hl 4 rfl) ?_
    refine lv_if_eq (tgt := 80) hx hb dX12_then__68 (by decide) (fun hc => ?_) (fun hc => ?_)
    · replace hq := if_y hc hq
      exact k_then__80 B n M6 v1 v2 v3 hq _ _ ls hW (lv_sub hl [0, 1, 2, 3] rfl)
    · replace hq := if_n hc hq
      refine lv_iload_n hx hb dX12_then__71 rfl (lv_at hl 3 rfl) ?_
      refine lv_iconst (v := (-1)) hx hb dX12_then__72 (by decide) ?_
      refine lv_icmp_eq (tgt := 80) hx hb dX12_then__73 (by decide) (fun hc => ?_) (fun hc => ?_)
      · replace hq := if_y hc hq
        exact k_then__80 B n M6 v1 v2 v3 hq _ _ ls hW (lv_sub hl [0, 1, 2, 3] rfl)
      · replace hq := if_n hc hq
        refine lv_iconst (v := 1) hx hb dX12_then__76 (by decide) ?_
        refine lv_goto (tgt := 81) hx hb dX12_then__77 (by decide) ?_
        exact k_then__81 B n M6 v1 v2 v3 1 hq _ _ ls hW (lv_sub hl [0, 1, 2, 3] rfl)
  · replace hq := if_n hc hq
    refine lv_aload_n hx hb dX12_then__60 rfl (lv_at hl 0 rfl) ?_
    refine lv_iconst (v := 2) hx hb dX12_then__61 (by decide) ?_
    obtain ⟨r13, M12, hg, hq⟩ := bnd2_e hq
    refine m_calli (As := [.int 2]) (rest := []) B hW hl.1 (c_fails M6 2 hg) mC_fails rfl ⟨by decide, by decide⟩ rfl (Nat.le_of_ble_eq_true rfl) dX12_then__62 (fun H locs hW => ?_)
    clear hg
    exact m_iret B hW hq dX12_then__65
set_option maxHeartbeats 4000000 in
set_option maxRecDepth 100000 in
theorem k_then__27 {p : Program} {l : Launch} {e : Env} {s : State} {m : MethodId} {args : Array Value} {below : List Frame} {meth : Method} {c : Code} {D : va_G} {A : Nat → Prop} {G : MG} {r : Int32} {M' : MS} (B : mB p s m args meth c D G prog_14_method_39_code 6 (some .int) (Cond.code yX12_then_ prog_14_method_39_code 6 (some .int))) :
    ∀ (n : Nat) (M : MS) (v1 v2 v3 v4 : Int32), q_then__27 n M v1 v2 v3 v4 = some (r, M') → ∀ (H : Heap) (locs : List Loc) (ls : Array Slot), mOK D A G M s.heap H locs → lv_has ls 6 [(0, .ref G.2.2.1), (1, .int v1), (2, .int v2), (3, .int v3), (4, .int v4)] → W p l e (rM 3 77) s m args below meth c H locs 0 0 (MQ below (mQi D A G r M') args s 0 0 A) (F0 m 27 ls []) := by
  have hx := B.1
  have hb := B.2.1
  intro n M v1 v2 v3 v4 hq _ _ ls hW hl
  unfold q_then__27 at hq
  refine lv_iload hx hb dX12_then__27 (lv_at hl 4 rfl) ?_
  refine lv_if_eq (tgt := 51) hx hb dX12_then__29 (by decide) (fun hc => ?_) (fun hc => ?_)
  · replace hq := if_y hc hq
    exact k_then__51 B n M v1 v2 v3 v4 hq _ _ ls hW (lv_sub hl [0, 1, 2, 3, 4] rfl)
  · replace hq := if_n hc hq
    refine lv_iload_n hx hb dX12_then__32 rfl (lv_at hl 3 rfl) ?_
    refine lv_iconst (v := (-1)) hx hb dX12_then__33 (by decide) ?_
    refine lv_icmp_eq (tgt := 51) hx hb dX12_then__34 (by decide) (fun hc => ?_) (fun hc => ?_)
    · replace hq := if_y hc hq
      exact k_then__51 B n M v1 v2 v3 v4 hq _ _ ls hW (lv_sub hl [0, 1, 2, 3, 4] rfl)
    · replace hq := if_n hc hq
      refine lv_aload_n hx hb dX12_then__37 rfl (lv_at hl 0 rfl) ?_
      refine lv_iload_n hx hb dX12_then__38 rfl (lv_at hl 3 rfl) ?_
      obtain ⟨r15, M14, hg, hq⟩ := bnd2_e hq
      refine m_calli (As := [.int v3]) (rest := []) B hW hl.1 (c_isHandler M v3 hg) mC_isHandler rfl ⟨by decide, by decide⟩ rfl (Nat.le_of_ble_eq_true rfl) dX12_then__39 (fun H locs hW => ?_)
      clear hg
      refine lv_if_ne (tgt := 51) hx hb dX12_then__42 (by decide) (fun hc => ?_) (fun hc => ?_)
      · replace hq := if_n hc hq
        exact k_then__51 B n M14 v1 v2 v3 v4 hq _ _ ls hW (lv_sub hl [0, 1, 2, 3, 4] rfl)
      · replace hq := if_y hc hq
        refine lv_aload_n hx hb dX12_then__45 rfl (lv_at hl 0 rfl) ?_
        refine lv_iconst (v := 1) hx hb dX12_then__46 (by decide) ?_
        obtain ⟨r17, M16, hg, hq⟩ := bnd2_e hq
        refine m_calli (As := [.int 1]) (rest := []) B hW hl.1 (c_fails M14 1 hg) mC_fails rfl ⟨by decide, by decide⟩ rfl (Nat.le_of_ble_eq_true rfl) dX12_then__47 (fun H locs hW => ?_)
        clear hg
        exact m_iret B hW hq dX12_then__50
set_option maxHeartbeats 4000000 in
set_option maxRecDepth 100000 in
theorem c_then_ {l : Launch} {D : va_G} {A : Nat → Prop} {G : MG} (n : Nat) (M : MS) (p1 p2 p3 p4 : Int32) {r : Int32} {M' : MS} (hq : q_then_ n M p1 p2 p3 p4 = some (r, M')) : Met l yX12_then_ (wM yX12_then_ prog_14_method_39_code 6 (some .int)) (rM 3 77) (va_Pc [.ref G.2.2.1, .int p1, .int p2, .int p3, .int p4] (mPre D A G M)) (mQi D A G r M') 0 0 A := by
  refine m_head (by decide) rfl (Nat.le_of_ble_eq_true rfl) ?_
  intro p e s m args below meth c ls B hW hl
  have hx := B.1
  have hb := B.2.1
  have hl : lv_has ls 6 [(0, .ref G.2.2.1), (1, .int p1), (2, .int p2), (3, .int p3), (4, .int p4)] := hl
  unfold q_then_ at hq
  refine lv_aload_n hx hb dX12_then__0 rfl (lv_at hl 0 rfl) ?_
  refine lv_iconst (v := 0) hx hb dX12_then__1 (by decide) ?_
  refine m_put B hW 0 (by decide) u_842 mS_0 rfl (ty := .int) (tyX12_ok 0 (by decide)) rfl rfl (Nat.le_of_ble_eq_true rfl) dX12_then__2 (fun H locs M1 eM hW => ?_)
  replace hq := lt9_u eM hq
  clear eM
  refine lv_aload_n hx hb dX12_then__5 rfl (lv_at hl 0 rfl) ?_
  refine lv_iload_n hx hb dX12_then__6 rfl (lv_at hl 1 rfl) ?_
  refine lv_iconst (v := 0) hx hb dX12_then__7 (by decide) ?_
  obtain ⟨r3, M2, hg, hq⟩ := bnd2_e hq
  refine m_calli (As := [.int p1, .int 0]) (rest := []) B hW hl.1 (c_isKind M1 p1 0 hg) mC_isKind rfl ⟨by decide, by decide⟩ rfl (Nat.le_of_ble_eq_true rfl) dX12_then__8 (fun H locs hW => ?_)
  clear hg
  refine lv_if_eq (tgt := 45) hx hb dX12_then__11 (by decide) (fun hc => ?_) (fun hc => ?_)
  · replace hq := if_y hc hq
    refine lv_aload_n hx hb dX12_then__45 rfl (lv_at hl 0 rfl) ?_
    refine lv_iconst (v := 1) hx hb dX12_then__46 (by decide) ?_
    obtain ⟨r5, M4, hg, hq⟩ := bnd2_e hq
    refine m_calli (As := [.int 1]) (rest := []) B hW hl.1 (c_fails M2 1 hg) mC_fails rfl ⟨by decide, by decide⟩ rfl (Nat.le_of_ble_eq_true rfl) dX12_then__47 (fun H locs hW => ?_)
    clear hg
    exact m_iret B hW hq dX12_then__50
  · replace hq := if_n hc hq
    refine lv_iload_n hx hb dX12_then__14 rfl (lv_at hl 2 rfl) ?_
    refine lv_iconst (v := (-1)) hx hb dX12_then__15 (by decide) ?_
    refine lv_icmp_eq (tgt := 27) hx hb dX12_then__16 (by decide) (fun hc => ?_) (fun hc => ?_)
    · replace hq := if_y hc hq
      exact k_then__27 B n M2 p1 p2 p3 p4 hq _ _ ls hW (lv_sub hl [0, 1, 2, 3, 4] rfl)
    · replace hq := if_n hc hq
      refine lv_aload_n hx hb dX12_then__19 rfl (lv_at hl 0 rfl) ?_
      refine lv_iload_n hx hb dX12_then__20 rfl (lv_at hl 2 rfl) ?_
      obtain ⟨r19, M18, hg, hq⟩ := bnd2_e hq
      refine m_calli (As := [.int p2]) (rest := []) B hW hl.1 (c_isHandler M2 p2 hg) mC_isHandler rfl ⟨by decide, by decide⟩ rfl (Nat.le_of_ble_eq_true rfl) dX12_then__21 (fun H locs hW => ?_)
      clear hg
      refine lv_if_eq (tgt := 45) hx hb dX12_then__24 (by decide) (fun hc => ?_) (fun hc => ?_)
      · replace hq := if_y hc hq
        refine lv_aload_n hx hb dX12_then__45 rfl (lv_at hl 0 rfl) ?_
        refine lv_iconst (v := 1) hx hb dX12_then__46 (by decide) ?_
        obtain ⟨r21, M20, hg, hq⟩ := bnd2_e hq
        refine m_calli (As := [.int 1]) (rest := []) B hW hl.1 (c_fails M18 1 hg) mC_fails rfl ⟨by decide, by decide⟩ rfl (Nat.le_of_ble_eq_true rfl) dX12_then__47 (fun H locs hW => ?_)
        clear hg
        exact m_iret B hW hq dX12_then__50
      · replace hq := if_n hc hq
        exact k_then__27 B n M18 p1 p2 p3 p4 hq _ _ ls hW (lv_sub hl [0, 1, 2, 3, 4] rfl)
end
section
set_option maxHeartbeats 4000000 in
set_option maxRecDepth 100000 in
theorem k_lastly_64 {p : Program} {l : Launch} {e : Env} {s : State} {m : MethodId} {args : Array Value} {below : List Frame} {meth : Method} {c : Code} {D : va_G} {A : Nat → Prop} {G : MG} {r : Int32} {M' : MS} (B : mB p s m args meth c D G prog_14_method_40_code 3 (some .int) (Cond.code yX12_lastly prog_14_method_40_code 3 (some .int))) :
    ∀ (n : Nat) (M : MS) (v2 z0 z1 : Int32), q_lastly_64 n M v2 z0 z1 = some (r, M') → ∀ (H : Heap) (locs : List Loc) (ls : Array Slot), mOK D A G M s.heap H locs → lv_has ls 3 [(0, .ref G.2.2.1), (2, .int v2)] → W p l e (rM 3 77) s m args below meth c H locs 0 0 (MQ below (mQi D A G r M') args s 0 0 A) (F0 m 64 ls [.int z0, .int z1, .ref G.2.2.1]) := by
  have hx := B.1
  have hb := B.2.1
  intro n M v2 z0 z1 hq _ _ ls hW hl
  unfold q_lastly_64 at hq
  refine lv_iload_n hx hb dX12_lastly_64 rfl (lv_at hl 1 rfl) ?_
  refine lv_iload_n hx hb dX12_lastly_65 rfl (lv_at hl 1 rfl) ?_
  refine lv_iconst (v := (-1)) hx hb dX12_lastly_66 (by decide) ?_
  refine lv_icmp_ne (tgt := 74) hx hb dX12_lastly_67 (by decide) (fun hc => ?_) (fun hc => ?_)
  · replace hq := if_n hc hq
    refine lv_bipush (v := 9) hx hb dX12_lastly_74 (by decide) ?_
    refine lv_iload_n hx hb dX12_lastly_76 rfl (lv_at hl 1 rfl) ?_
    obtain ⟨r9, M8, hg, hq⟩ := bnd2_e hq
    refine m_calli (As := [.int z1, .int z0, .int v2, .int 9, .int v2]) (rest := []) B hW hl.1 (c_then n M z1 z0 v2 9 v2 hg) mC_then rfl ⟨by decide, by decide⟩ rfl (Nat.le_of_ble_eq_true rfl) dX12_lastly_77 (fun H locs hW => ?_)
    clear hg
    refine m_valueOf (rest := []) B hW hl.1 ⟨by decide, by decide⟩ (Nat.le_of_ble_eq_true rfl) dX12_lastly_80 (fun H locs hW => ?_)
    exact m_iret B hW hq dX12_lastly_83
  · replace hq := if_y hc hq
    refine lv_iconst (v := 0) hx hb dX12_lastly_70 (by decide) ?_
    refine lv_goto (tgt := 76) hx hb dX12_lastly_71 (by decide) ?_
    refine lv_iload_n hx hb dX12_lastly_76 rfl (lv_at hl 1 rfl) ?_
    obtain ⟨r11, M10, hg, hq⟩ := bnd2_e hq
    refine m_calli (As := [.int z1, .int z0, .int v2, .int 0, .int v2]) (rest := []) B hW hl.1 (c_then n M z1 z0 v2 0 v2 hg) mC_then rfl ⟨by decide, by decide⟩ rfl (Nat.le_of_ble_eq_true rfl) dX12_lastly_77 (fun H locs hW => ?_)
    clear hg
    refine m_valueOf (rest := []) B hW hl.1 ⟨by decide, by decide⟩ (Nat.le_of_ble_eq_true rfl) dX12_lastly_80 (fun H locs hW => ?_)
    exact m_iret B hW hq dX12_lastly_83
set_option maxHeartbeats 4000000 in
set_option maxRecDepth 100000 in
theorem k_lastly_33 {p : Program} {l : Launch} {e : Env} {s : State} {m : MethodId} {args : Array Value} {below : List Frame} {meth : Method} {c : Code} {D : va_G} {A : Nat → Prop} {G : MG} {r : Int32} {M' : MS} (B : mB p s m args meth c D G prog_14_method_40_code 3 (some .int) (Cond.code yX12_lastly prog_14_method_40_code 3 (some .int))) :
    ∀ (n : Nat) (M : MS) (v1 v2 : Int32), q_lastly_33 n M v1 v2 = some (r, M') → ∀ (H : Heap) (locs : List Loc) (ls : Array Slot), mOK D A G M s.heap H locs → lv_has ls 3 [(0, .ref G.2.2.1), (1, .int v1), (2, .int v2)] → W p l e (rM 3 77) s m args below meth c H locs 0 0 (MQ below (mQi D A G r M') args s 0 0 A) (F0 m 33 ls []) := by
  have hx := B.1
  have hb := B.2.1
  intro n M v1 v2 hq _ _ ls hW hl
  unfold q_lastly_33 at hq
  refine lv_aload_n hx hb dX12_lastly_33 rfl (lv_at hl 0 rfl) ?_
  refine lv_bipush (v := 8) hx hb dX12_lastly_34 (by decide) ?_
  obtain ⟨r7, M6, hg, hq⟩ := bnd2_e hq
  refine m_calli (As := [.int 8]) (rest := []) B hW hl.1 (c_isFull M 8 hg) mC_isFull rfl ⟨by decide, by decide⟩ rfl (Nat.le_of_ble_eq_true rfl) dX12_lastly_36 (fun H locs hW => ?_)
  clear hg
  refine lv_if_eq (tgt := 48) hx hb dX12_lastly_39 (by decide) (fun hc => ?_) (fun hc => ?_)
  · replace hq := if_y hc hq
    refine lv_aload_n hx hb dX12_lastly_48 rfl (lv_at hl 0 rfl) ?_
    refine lv_bipush (v := (-2)) hx hb dX12_lastly_49 (by decide) ?_
    refine lv_iload_n hx hb dX12_lastly_51 rfl (lv_at hl 1 rfl) ?_
    refine lv_isub hx hb dX12_lastly_52 ?_
    refine lv_iload_n hx hb dX12_lastly_53 rfl (lv_at hl 2 rfl) ?_
    refine lv_iconst (v := (-1)) hx hb dX12_lastly_54 (by decide) ?_
    refine lv_icmp_ne (tgt := 62) hx hb dX12_lastly_55 (by decide) (fun hc => ?_) (fun hc => ?_)
    · replace hq := if_n hc hq
      refine lv_bipush (v := 8) hx hb dX12_lastly_62 (by decide) ?_
      exact k_lastly_64 B n M6 v2 8 ((-2) - v1) hq _ _ ls hW (lv_sub hl [0, 2] rfl)
    · replace hq := if_y hc hq
      refine lv_iconst (v := 0) hx hb dX12_lastly_58 (by decide) ?_
      refine lv_goto (tgt := 64) hx hb dX12_lastly_59 (by decide) ?_
      exact k_lastly_64 B n M6 v2 0 ((-2) - v1) hq _ _ ls hW (lv_sub hl [0, 2] rfl)
  · replace hq := if_n hc hq
    refine lv_aload_n hx hb dX12_lastly_42 rfl (lv_at hl 0 rfl) ?_
    refine lv_iconst (v := 2) hx hb dX12_lastly_43 (by decide) ?_
    obtain ⟨r13, M12, hg, hq⟩ := bnd2_e hq
    refine m_calli (As := [.int 2]) (rest := []) B hW hl.1 (c_fails M6 2 hg) mC_fails rfl ⟨by decide, by decide⟩ rfl (Nat.le_of_ble_eq_true rfl) dX12_lastly_44 (fun H locs hW => ?_)
    clear hg
    exact m_iret B hW hq dX12_lastly_47
set_option maxHeartbeats 4000000 in
set_option maxRecDepth 100000 in
theorem c_lastly {l : Launch} {D : va_G} {A : Nat → Prop} {G : MG} (n : Nat) (M : MS) (p1 p2 : Int32) {r : Int32} {M' : MS} (hq : q_lastly n M p1 p2 = some (r, M')) : Met l yX12_lastly (wM yX12_lastly prog_14_method_40_code 3 (some .int)) (rM 3 77) (va_Pc [.ref G.2.2.1, .int p1, .int p2] (mPre D A G M)) (mQi D A G r M') 0 0 A := by
  refine m_head (by decide) rfl (Nat.le_of_ble_eq_true rfl) ?_
  intro p e s m args below meth c ls B hW hl
  have hx := B.1
  have hb := B.2.1
  have hl : lv_has ls 3 [(0, .ref G.2.2.1), (1, .int p1), (2, .int p2)] := hl
  unfold q_lastly at hq
  refine lv_aload_n hx hb dX12_lastly_0 rfl (lv_at hl 0 rfl) ?_
  refine lv_iconst (v := 0) hx hb dX12_lastly_1 (by decide) ?_
  refine m_put B hW 0 (by decide) u_842 mS_0 rfl (ty := .int) (tyX12_ok 0 (by decide)) rfl rfl (Nat.le_of_ble_eq_true rfl) dX12_lastly_2 (fun H locs M1 eM hW => ?_)
  replace hq := lt9_u eM hq
  clear eM
  refine lv_aload_n hx hb dX12_lastly_5 rfl (lv_at hl 0 rfl) ?_
  refine lv_iload_n hx hb dX12_lastly_6 rfl (lv_at hl 1 rfl) ?_
  refine lv_iconst (v := 0) hx hb dX12_lastly_7 (by decide) ?_
  obtain ⟨r3, M2, hg, hq⟩ := bnd2_e hq
  refine m_calli (As := [.int p1, .int 0]) (rest := []) B hW hl.1 (c_isKind M1 p1 0 hg) mC_isKind rfl ⟨by decide, by decide⟩ rfl (Nat.le_of_ble_eq_true rfl) dX12_lastly_8 (fun H locs hW => ?_)
  clear hg
  refine lv_if_eq (tgt := 27) hx hb dX12_lastly_11 (by decide) (fun hc => ?_) (fun hc => ?_)
  · replace hq := if_y hc hq
    refine lv_aload_n hx hb dX12_lastly_27 rfl (lv_at hl 0 rfl) ?_
    refine lv_iconst (v := 1) hx hb dX12_lastly_28 (by decide) ?_
    obtain ⟨r5, M4, hg, hq⟩ := bnd2_e hq
    refine m_calli (As := [.int 1]) (rest := []) B hW hl.1 (c_fails M2 1 hg) mC_fails rfl ⟨by decide, by decide⟩ rfl (Nat.le_of_ble_eq_true rfl) dX12_lastly_29 (fun H locs hW => ?_)
    clear hg
    exact m_iret B hW hq dX12_lastly_32
  · replace hq := if_n hc hq
    refine lv_iload_n hx hb dX12_lastly_14 rfl (lv_at hl 2 rfl) ?_
    refine lv_iconst (v := (-1)) hx hb dX12_lastly_15 (by decide) ?_
    refine lv_icmp_eq (tgt := 33) hx hb dX12_lastly_16 (by decide) (fun hc => ?_) (fun hc => ?_)
    · replace hq := if_y hc hq
      exact k_lastly_33 B n M2 p1 p2 hq _ _ ls hW (lv_sub hl [0, 1, 2] rfl)
    · replace hq := if_n hc hq
      refine lv_aload_n hx hb dX12_lastly_19 rfl (lv_at hl 0 rfl) ?_
      refine lv_iload_n hx hb dX12_lastly_20 rfl (lv_at hl 2 rfl) ?_
      obtain ⟨r15, M14, hg, hq⟩ := bnd2_e hq
      refine m_calli (As := [.int p2]) (rest := []) B hW hl.1 (c_isHandler M2 p2 hg) mC_isHandler rfl ⟨by decide, by decide⟩ rfl (Nat.le_of_ble_eq_true rfl) dX12_lastly_21 (fun H locs hW => ?_)
      clear hg
      refine lv_if_ne (tgt := 33) hx hb dX12_lastly_24 (by decide) (fun hc => ?_) (fun hc => ?_)
      · replace hq := if_n hc hq
        exact k_lastly_33 B n M14 p1 p2 hq _ _ ls hW (lv_sub hl [0, 1, 2] rfl)
      · replace hq := if_y hc hq
        refine lv_aload_n hx hb dX12_lastly_27 rfl (lv_at hl 0 rfl) ?_
        refine lv_iconst (v := 1) hx hb dX12_lastly_28 (by decide) ?_
        obtain ⟨r17, M16, hg, hq⟩ := bnd2_e hq
        refine m_calli (As := [.int 1]) (rest := []) B hW hl.1 (c_fails M14 1 hg) mC_fails rfl ⟨by decide, by decide⟩ rfl (Nat.le_of_ble_eq_true rfl) dX12_lastly_29 (fun H locs hW => ?_)
        clear hg
        exact m_iret B hW hq dX12_lastly_32
set_option maxHeartbeats 4000000 in
set_option maxRecDepth 100000 in
theorem c_promiseOf {l : Launch} {D : va_G} {A : Nat → Prop} {G : MG} (n : Nat) (M : MS) (p1 : Int32) {r : Int32} {M' : MS} (hq : q_promiseOf n M p1 = some (r, M')) : Met l yX12_promiseOf (wM yX12_promiseOf prog_14_method_19_code 3 (some .int)) (rM 3 71) (va_Pc [.ref G.2.2.1, .int p1] (mPre D A G M)) (mQi D A G r M') 0 0 A := by
  refine m_head (by decide) rfl (Nat.le_of_ble_eq_true rfl) ?_
  intro p e s m args below meth c ls B hW hl
  have hx := B.1
  have hb := B.2.1
  have hl : lv_has ls 3 [(0, .ref G.2.2.1), (1, .int p1)] := hl
  unfold q_promiseOf at hq
  refine lv_aload_n hx hb dX12_promiseOf_0 rfl (lv_at hl 0 rfl) ?_
  refine lv_iload_n hx hb dX12_promiseOf_1 rfl (lv_at hl 1 rfl) ?_
  refine lv_iconst (v := 0) hx hb dX12_promiseOf_2 (by decide) ?_
  obtain ⟨r2, M1, hg, hq⟩ := bnd2_e hq
  refine m_calli (As := [.int p1, .int 0]) (rest := []) B hW hl.1 (c_isKind M p1 0 hg) mC_isKind rfl ⟨by decide, by decide⟩ rfl (Nat.le_of_ble_eq_true rfl) dX12_promiseOf_3 (fun H locs hW => ?_)
  clear hg
  refine lv_if_eq (tgt := 14) hx hb dX12_promiseOf_6 (by decide) (fun hc => ?_) (fun hc => ?_)
  · replace hq := if_y hc hq
    refine lv_aload_n hx hb dX12_promiseOf_14 rfl (lv_at hl 0 rfl) ?_
    obtain ⟨r4, M3, hg, hq⟩ := bnd2_e hq
    refine m_calli (As := []) (rest := []) B hW hl.1 (c_capability M1 hg) mC_capability rfl ⟨by decide, by decide⟩ rfl (Nat.le_of_ble_eq_true rfl) dX12_promiseOf_15 (fun H locs hW => ?_)
    clear hg
    refine lv_istore_n (lv' := [(2, .int r4), (0, .ref G.2.2.1), (1, .int p1)]) hx hb dX12_promiseOf_18 rfl hl (by decide) rfl (fun ls hl => ?_)
    refine lv_aload_n hx hb dX12_promiseOf_19 rfl (lv_at hl 1 rfl) ?_
    refine lv_iload_n hx hb dX12_promiseOf_20 rfl (lv_at hl 0 rfl) ?_
    refine lv_iload_n hx hb dX12_promiseOf_21 rfl (lv_at hl 2 rfl) ?_
    obtain ⟨M5, hg, hq⟩ := bnd_e hq
    refine m_callv (As := [.int r4, .int p1]) (rest := []) B hW hl.1 (c_resolve n M3 r4 p1 hg) mC_resolve rfl ⟨by decide, by decide⟩ rfl (Nat.le_of_ble_eq_true rfl) dX12_promiseOf_22 (fun H locs hW => ?_)
    clear hg
    refine lv_aload_n hx hb dX12_promiseOf_25 rfl (lv_at hl 1 rfl) ?_
    refine m_get B hW 13 (by decide) u_855 (v := .ref (G.2.2.2 13)) rfl dX12_promiseOf_26 ?_
    refine lv_iload_n hx hb dX12_promiseOf_29 rfl (lv_at hl 0 rfl) ?_
    obtain ⟨hc, hq⟩ := chk_e hq
    refine m_iald B hW mA_13 hc dX12_promiseOf_30 ?_
    exact m_iret B hW hq dX12_promiseOf_31
  · replace hq := if_n hc hq
    refine lv_bipush (v := (-2)) hx hb dX12_promiseOf_9 (by decide) ?_
    refine lv_iload_n hx hb dX12_promiseOf_11 rfl (lv_at hl 1 rfl) ?_
    refine lv_isub hx hb dX12_promiseOf_12 ?_
    exact m_iret B hW hq dX12_promiseOf_13
theorem mC_promiseOf : mC yX12_promiseOf prog_14_method_19_code 3 (some .int) 214 1 := ⟨fun _ => g_V u_1103 u_1105 us_55 u_5 u_1106, by decide +kernel⟩
set_option maxHeartbeats 4000000 in
set_option maxRecDepth 100000 in
theorem c_wrap {l : Launch} {D : va_G} {A : Nat → Prop} {G : MG} (n : Nat) (M : MS) (p1 : Int32) {r : Int32} {M' : MS} (hq : q_wrap n M p1 = some (r, M')) : Met l yX12_wrap (wM yX12_wrap prog_14_method_41_code 2 (some .int)) (rM 4 93) (va_Pc [.ref G.2.2.1, .int p1] (mPre D A G M)) (mQi D A G r M') 0 0 A := by
  refine m_head (by decide) rfl (Nat.le_of_ble_eq_true rfl) ?_
  intro p e s m args below meth c ls B hW hl
  have hx := B.1
  have hb := B.2.1
  have hl : lv_has ls 2 [(0, .ref G.2.2.1), (1, .int p1)] := hl
  unfold q_wrap at hq
  refine lv_aload_n hx hb dX12_wrap_0 rfl (lv_at hl 0 rfl) ?_
  refine lv_iconst (v := 0) hx hb dX12_wrap_1 (by decide) ?_
  refine m_put B hW 0 (by decide) u_842 mS_0 rfl (ty := .int) (tyX12_ok 0 (by decide)) rfl rfl (Nat.le_of_ble_eq_true rfl) dX12_wrap_2 (fun H locs M1 eM hW => ?_)
  replace hq := lt9_u eM hq
  clear eM
  refine lv_aload_n hx hb dX12_wrap_5 rfl (lv_at hl 0 rfl) ?_
  refine lv_iload_n hx hb dX12_wrap_6 rfl (lv_at hl 1 rfl) ?_
  obtain ⟨r3, M2, hg, hq⟩ := bnd2_e hq
  refine m_calli (As := [.int p1]) (rest := []) B hW hl.1 (c_isValue M1 p1 hg) mC_isValue rfl ⟨by decide, by decide⟩ rfl (Nat.le_of_ble_eq_true rfl) dX12_wrap_7 (fun H locs hW => ?_)
  clear hg
  refine lv_if_ne (tgt := 19) hx hb dX12_wrap_10 (by decide) (fun hc => ?_) (fun hc => ?_)
  · replace hq := if_n hc hq
    refine lv_aload_n hx hb dX12_wrap_19 rfl (lv_at hl 0 rfl) ?_
    refine lv_bipush (v := 8) hx hb dX12_wrap_20 (by decide) ?_
    obtain ⟨r5, M4, hg, hq⟩ := bnd2_e hq
    refine m_calli (As := [.int 8]) (rest := []) B hW hl.1 (c_isFull M2 8 hg) mC_isFull rfl ⟨by decide, by decide⟩ rfl (Nat.le_of_ble_eq_true rfl) dX12_wrap_22 (fun H locs hW => ?_)
    clear hg
    refine lv_if_eq (tgt := 34) hx hb dX12_wrap_25 (by decide) (fun hc => ?_) (fun hc => ?_)
    · replace hq := if_y hc hq
      refine lv_aload_n hx hb dX12_wrap_34 rfl (lv_at hl 0 rfl) ?_
      refine lv_iload_n hx hb dX12_wrap_35 rfl (lv_at hl 1 rfl) ?_
      obtain ⟨r7, M6, hg, hq⟩ := bnd2_e hq
      refine m_calli (As := [.int p1]) (rest := []) B hW hl.1 (c_promiseOf n M4 p1 hg) mC_promiseOf rfl ⟨by decide, by decide⟩ rfl (Nat.le_of_ble_eq_true rfl) dX12_wrap_36 (fun H locs hW => ?_)
      clear hg
      refine m_valueOf (rest := []) B hW hl.1 ⟨by decide, by decide⟩ (Nat.le_of_ble_eq_true rfl) dX12_wrap_39 (fun H locs hW => ?_)
      exact m_iret B hW hq dX12_wrap_42
    · replace hq := if_n hc hq
      refine lv_aload_n hx hb dX12_wrap_28 rfl (lv_at hl 0 rfl) ?_
      refine lv_iconst (v := 2) hx hb dX12_wrap_29 (by decide) ?_
      obtain ⟨r9, M8, hg, hq⟩ := bnd2_e hq
      refine m_calli (As := [.int 2]) (rest := []) B hW hl.1 (c_fails M4 2 hg) mC_fails rfl ⟨by decide, by decide⟩ rfl (Nat.le_of_ble_eq_true rfl) dX12_wrap_30 (fun H locs hW => ?_)
      clear hg
      exact m_iret B hW hq dX12_wrap_33
  · replace hq := if_y hc hq
    refine lv_aload_n hx hb dX12_wrap_13 rfl (lv_at hl 0 rfl) ?_
    refine lv_iconst (v := 1) hx hb dX12_wrap_14 (by decide) ?_
    obtain ⟨r11, M10, hg, hq⟩ := bnd2_e hq
    refine m_calli (As := [.int 1]) (rest := []) B hW hl.1 (c_fails M2 1 hg) mC_fails rfl ⟨by decide, by decide⟩ rfl (Nat.le_of_ble_eq_true rfl) dX12_wrap_15 (fun H locs hW => ?_)
    clear hg
    exact m_iret B hW hq dX12_wrap_18
set_option maxHeartbeats 4000000 in
set_option maxRecDepth 100000 in
theorem c_broken {l : Launch} {D : va_G} {A : Nat → Prop} {G : MG} (n : Nat) (M : MS) (p1 : Int32) {r : Int32} {M' : MS} (hq : q_broken n M p1 = some (r, M')) : Met l yX12_broken (wM yX12_broken prog_14_method_42_code 3 (some .int)) (rM 3 69) (va_Pc [.ref G.2.2.1, .int p1] (mPre D A G M)) (mQi D A G r M') 0 0 A := by
  refine m_head (by decide) rfl (Nat.le_of_ble_eq_true rfl) ?_
  intro p e s m args below meth c ls B hW hl
  have hx := B.1
  have hb := B.2.1
  have hl : lv_has ls 3 [(0, .ref G.2.2.1), (1, .int p1)] := hl
  unfold q_broken at hq
  refine lv_aload_n hx hb dX12_broken_0 rfl (lv_at hl 0 rfl) ?_
  refine lv_iconst (v := 0) hx hb dX12_broken_1 (by decide) ?_
  refine m_put B hW 0 (by decide) u_842 mS_0 rfl (ty := .int) (tyX12_ok 0 (by decide)) rfl rfl (Nat.le_of_ble_eq_true rfl) dX12_broken_2 (fun H locs M1 eM hW => ?_)
  replace hq := lt9_u eM hq
  clear eM
  refine lv_aload_n hx hb dX12_broken_5 rfl (lv_at hl 0 rfl) ?_
  refine lv_iload_n hx hb dX12_broken_6 rfl (lv_at hl 1 rfl) ?_
  obtain ⟨r3, M2, hg, hq⟩ := bnd2_e hq
  refine m_calli (As := [.int p1]) (rest := []) B hW hl.1 (c_isValue M1 p1 hg) mC_isValue rfl ⟨by decide, by decide⟩ rfl (Nat.le_of_ble_eq_true rfl) dX12_broken_7 (fun H locs hW => ?_)
  clear hg
  refine lv_if_ne (tgt := 19) hx hb dX12_broken_10 (by decide) (fun hc => ?_) (fun hc => ?_)
  · replace hq := if_n hc hq
    refine lv_aload_n hx hb dX12_broken_19 rfl (lv_at hl 0 rfl) ?_
    refine lv_bipush (v := 8) hx hb dX12_broken_20 (by decide) ?_
    obtain ⟨r5, M4, hg, hq⟩ := bnd2_e hq
    refine m_calli (As := [.int 8]) (rest := []) B hW hl.1 (c_isFull M2 8 hg) mC_isFull rfl ⟨by decide, by decide⟩ rfl (Nat.le_of_ble_eq_true rfl) dX12_broken_22 (fun H locs hW => ?_)
    clear hg
    refine lv_if_eq (tgt := 34) hx hb dX12_broken_25 (by decide) (fun hc => ?_) (fun hc => ?_)
    · replace hq := if_y hc hq
      refine lv_aload_n hx hb dX12_broken_34 rfl (lv_at hl 0 rfl) ?_
      obtain ⟨r7, M6, hg, hq⟩ := bnd2_e hq
      refine m_calli (As := []) (rest := []) B hW hl.1 (c_capability M4 hg) mC_capability rfl ⟨by decide, by decide⟩ rfl (Nat.le_of_ble_eq_true rfl) dX12_broken_35 (fun H locs hW => ?_)
      clear hg
      refine lv_istore_n (lv' := [(2, .int r7), (0, .ref G.2.2.1), (1, .int p1)]) hx hb dX12_broken_38 rfl hl (by decide) rfl (fun ls hl => ?_)
      refine lv_aload_n hx hb dX12_broken_39 rfl (lv_at hl 1 rfl) ?_
      refine lv_iload_n hx hb dX12_broken_40 rfl (lv_at hl 0 rfl) ?_
      refine lv_iload_n hx hb dX12_broken_41 rfl (lv_at hl 2 rfl) ?_
      obtain ⟨M8, hg, hq⟩ := bnd_e hq
      refine m_callv (As := [.int r7, .int p1]) (rest := []) B hW hl.1 (c_reject n M6 r7 p1 hg) mC_reject rfl ⟨by decide, by decide⟩ rfl (Nat.le_of_ble_eq_true rfl) dX12_broken_42 (fun H locs hW => ?_)
      clear hg
      refine lv_aload_n hx hb dX12_broken_45 rfl (lv_at hl 1 rfl) ?_
      refine m_get B hW 13 (by decide) u_855 (v := .ref (G.2.2.2 13)) rfl dX12_broken_46 ?_
      refine lv_iload_n hx hb dX12_broken_49 rfl (lv_at hl 0 rfl) ?_
      obtain ⟨hc, hq⟩ := chk_e hq
      refine m_iald B hW mA_13 hc dX12_broken_50 ?_
      refine m_valueOf (rest := []) B hW hl.1 ⟨by decide, by decide⟩ (Nat.le_of_ble_eq_true rfl) dX12_broken_51 (fun H locs hW => ?_)
      exact m_iret B hW hq dX12_broken_54
    · replace hq := if_n hc hq
      refine lv_aload_n hx hb dX12_broken_28 rfl (lv_at hl 0 rfl) ?_
      refine lv_iconst (v := 2) hx hb dX12_broken_29 (by decide) ?_
      obtain ⟨r10, M9, hg, hq⟩ := bnd2_e hq
      refine m_calli (As := [.int 2]) (rest := []) B hW hl.1 (c_fails M4 2 hg) mC_fails rfl ⟨by decide, by decide⟩ rfl (Nat.le_of_ble_eq_true rfl) dX12_broken_30 (fun H locs hW => ?_)
      clear hg
      exact m_iret B hW hq dX12_broken_33
  · replace hq := if_y hc hq
    refine lv_aload_n hx hb dX12_broken_13 rfl (lv_at hl 0 rfl) ?_
    refine lv_iconst (v := 1) hx hb dX12_broken_14 (by decide) ?_
    obtain ⟨r12, M11, hg, hq⟩ := bnd2_e hq
    refine m_calli (As := [.int 1]) (rest := []) B hW hl.1 (c_fails M2 1 hg) mC_fails rfl ⟨by decide, by decide⟩ rfl (Nat.le_of_ble_eq_true rfl) dX12_broken_15 (fun H locs hW => ?_)
    clear hg
    exact m_iret B hW hq dX12_broken_18
set_option maxHeartbeats 4000000 in
set_option maxRecDepth 100000 in
theorem c_item {l : Launch} {D : va_G} {A : Nat → Prop} {G : MG} (M : MS) (p1 : Int32) {r : Int32} {M' : MS} (hq : q_item M p1 = some (r, M')) : Met l yX12_item (wM yX12_item prog_14_method_43_code 2 (some .int)) (rM 2 42) (va_Pc [.ref G.2.2.1, .int p1] (mPre D A G M)) (mQi D A G r M') 0 0 A := by
  refine m_head (by decide) rfl (Nat.le_of_ble_eq_true rfl) ?_
  intro p e s m args below meth c ls B hW hl
  have hx := B.1
  have hb := B.2.1
  have hl : lv_has ls 2 [(0, .ref G.2.2.1), (1, .int p1)] := hl
  unfold q_item at hq
  refine lv_aload_n hx hb dX12_item_0 rfl (lv_at hl 0 rfl) ?_
  refine lv_iconst (v := 0) hx hb dX12_item_1 (by decide) ?_
  refine m_put B hW 0 (by decide) u_842 mS_0 rfl (ty := .int) (tyX12_ok 0 (by decide)) rfl rfl (Nat.le_of_ble_eq_true rfl) dX12_item_2 (fun H locs M1 eM hW => ?_)
  replace hq := lt9_u eM hq
  clear eM
  refine lv_aload_n hx hb dX12_item_5 rfl (lv_at hl 0 rfl) ?_
  refine lv_iload_n hx hb dX12_item_6 rfl (lv_at hl 1 rfl) ?_
  obtain ⟨r3, M2, hg, hq⟩ := bnd2_e hq
  refine m_calli (As := [.int p1]) (rest := []) B hW hl.1 (c_isValue M1 p1 hg) mC_isValue rfl ⟨by decide, by decide⟩ rfl (Nat.le_of_ble_eq_true rfl) dX12_item_7 (fun H locs hW => ?_)
  clear hg
  refine lv_if_ne (tgt := 19) hx hb dX12_item_10 (by decide) (fun hc => ?_) (fun hc => ?_)
  · replace hq := if_n hc hq
    refine lv_aload_n hx hb dX12_item_19 rfl (lv_at hl 0 rfl) ?_
    refine m_get B hW 38 (by decide) u_880 (v := .int (M2 38 0)) rfl dX12_item_20 ?_
    refine lv_sipush (v := 200) hx hb dX12_item_23 (by decide) ?_
    refine lv_icmp_ne (tgt := 35) hx hb dX12_item_26 (by decide) (fun hc => ?_) (fun hc => ?_)
    · replace hq := if_n hc hq
      refine lv_aload_n hx hb dX12_item_35 rfl (lv_at hl 0 rfl) ?_
      refine m_get B hW 37 (by decide) u_879 (v := .ref (G.2.2.2 37)) rfl dX12_item_36 ?_
      refine lv_aload_n hx hb dX12_item_39 rfl (lv_at hl 0 rfl) ?_
      refine m_get B hW 38 (by decide) u_880 (v := .int (M2 38 0)) rfl dX12_item_40 ?_
      refine lv_iload_n hx hb dX12_item_43 rfl (lv_at hl 1 rfl) ?_
      obtain ⟨hc, hq⟩ := chk_e hq
      refine m_iast B hW mA_37 hc dX12_item_44 (fun H locs M4 eM hW => ?_)
      replace hq := lt9_u eM hq
      clear eM
      refine lv_aload_n hx hb dX12_item_45 rfl (lv_at hl 0 rfl) ?_
      refine lv_dup hx hb dX12_item_46 rfl ?_
      refine m_get B hW 38 (by decide) u_880 (v := .int (M4 38 0)) rfl dX12_item_47 ?_
      refine lv_iconst (v := 1) hx hb dX12_item_50 (by decide) ?_
      refine lv_iadd hx hb dX12_item_51 ?_
      refine m_put B hW 38 (by decide) u_880 mS_38 rfl (ty := .int) (tyX12_ok 38 (by decide)) rfl rfl (Nat.le_of_ble_eq_true rfl) dX12_item_52 (fun H locs M5 eM hW => ?_)
      replace hq := lt9_u eM hq
      clear eM
      refine lv_aload_n hx hb dX12_item_55 rfl (lv_at hl 0 rfl) ?_
      refine m_get B hW 38 (by decide) u_880 (v := .int (M5 38 0)) rfl dX12_item_56 ?_
      exact m_iret B hW hq dX12_item_59
    · replace hq := if_y hc hq
      refine lv_aload_n hx hb dX12_item_29 rfl (lv_at hl 0 rfl) ?_
      refine lv_iconst (v := 2) hx hb dX12_item_30 (by decide) ?_
      obtain ⟨r7, M6, hg, hq⟩ := bnd2_e hq
      refine m_calli (As := [.int 2]) (rest := []) B hW hl.1 (c_fails M2 2 hg) mC_fails rfl ⟨by decide, by decide⟩ rfl (Nat.le_of_ble_eq_true rfl) dX12_item_31 (fun H locs hW => ?_)
      clear hg
      exact m_iret B hW hq dX12_item_34
  · replace hq := if_y hc hq
    refine lv_aload_n hx hb dX12_item_13 rfl (lv_at hl 0 rfl) ?_
    refine lv_iconst (v := 1) hx hb dX12_item_14 (by decide) ?_
    obtain ⟨r9, M8, hg, hq⟩ := bnd2_e hq
    refine m_calli (As := [.int 1]) (rest := []) B hW hl.1 (c_fails M2 1 hg) mC_fails rfl ⟨by decide, by decide⟩ rfl (Nat.le_of_ble_eq_true rfl) dX12_item_15 (fun H locs hW => ?_)
    clear hg
    exact m_iret B hW hq dX12_item_18
set_option maxHeartbeats 4000000 in
set_option maxRecDepth 100000 in
theorem c_array {l : Launch} {D : va_G} {A : Nat → Prop} {G : MG} (M : MS) (p1 p2 : Int32) {r : Int32} {M' : MS} (hq : q_array M p1 p2 = some (r, M')) : Met l yX12_array (wM yX12_array prog_14_method_24_code 4 (some .int)) (rM 1 22) (va_Pc [.ref G.2.2.1, .int p1, .int p2] (mPre D A G M)) (mQi D A G r M') 0 0 A := by
  refine m_head (by decide) rfl (Nat.le_of_ble_eq_true rfl) ?_
  intro p e s m args below meth c ls B hW hl
  have hx := B.1
  have hb := B.2.1
  have hl : lv_has ls 4 [(0, .ref G.2.2.1), (1, .int p1), (2, .int p2)] := hl
  unfold q_array at hq
  refine lv_aload_n hx hb dX12_array_0 rfl (lv_at hl 0 rfl) ?_
  refine lv_iload_n hx hb dX12_array_1 rfl (lv_at hl 2 rfl) ?_
  obtain ⟨r2, M1, hg, hq⟩ := bnd2_e hq
  refine m_calli (As := [.int p2]) (rest := []) B hW hl.1 (c_newObject M p2 hg) mC_newObject rfl ⟨by decide, by decide⟩ rfl (Nat.le_of_ble_eq_true rfl) dX12_array_2 (fun H locs hW => ?_)
  clear hg
  refine lv_istore_n (lv' := [(3, .int r2), (0, .ref G.2.2.1), (1, .int p1), (2, .int p2)]) hx hb dX12_array_5 rfl hl (by decide) rfl (fun ls hl => ?_)
  refine lv_aload_n hx hb dX12_array_6 rfl (lv_at hl 1 rfl) ?_
  refine m_get B hW 8 (by decide) u_850 (v := .ref (G.2.2.2 8)) rfl dX12_array_7 ?_
  refine lv_iload_n hx hb dX12_array_10 rfl (lv_at hl 0 rfl) ?_
  refine lv_aload_n hx hb dX12_array_11 rfl (lv_at hl 1 rfl) ?_
  refine m_get B hW 43 (by decide) u_885 (v := .ref (G.2.2.2 43)) rfl dX12_array_12 ?_
  refine lv_iload_n hx hb dX12_array_15 rfl (lv_at hl 2 rfl) ?_
  obtain ⟨hc, hq⟩ := chk_e hq
  refine m_iald B hW mA_43 hc dX12_array_16 ?_
  obtain ⟨hc, hq⟩ := chk_e hq
  refine m_iast B hW mA_8 hc dX12_array_17 (fun H locs M3 eM hW => ?_)
  replace hq := lt9_u eM hq
  clear eM
  refine lv_aload_n hx hb dX12_array_18 rfl (lv_at hl 1 rfl) ?_
  refine m_get B hW 9 (by decide) u_851 (v := .ref (G.2.2.2 9)) rfl dX12_array_19 ?_
  refine lv_iload_n hx hb dX12_array_22 rfl (lv_at hl 0 rfl) ?_
  refine lv_aload_n hx hb dX12_array_23 rfl (lv_at hl 1 rfl) ?_
  refine m_get B hW 44 (by decide) u_886 (v := .ref (G.2.2.2 44)) rfl dX12_array_24 ?_
  refine lv_iload_n hx hb dX12_array_27 rfl (lv_at hl 2 rfl) ?_
  obtain ⟨hc, hq⟩ := chk_e hq
  refine m_iald B hW mA_44 hc dX12_array_28 ?_
  obtain ⟨hc, hq⟩ := chk_e hq
  refine m_iast B hW mA_9 hc dX12_array_29 (fun H locs M4 eM hW => ?_)
  replace hq := lt9_u eM hq
  clear eM
  refine lv_iload_n hx hb dX12_array_30 rfl (lv_at hl 0 rfl) ?_
  refine m_valueOf (rest := []) B hW hl.1 ⟨by decide, by decide⟩ (Nat.le_of_ble_eq_true rfl) dX12_array_31 (fun H locs hW => ?_)
  exact m_iret B hW hq dX12_array_34
theorem mC_array : mC yX12_array prog_14_method_24_code 4 (some .int) 228 2 := ⟨fun _ => g_V u_1127 u_1129 us_58 u_5 u_1130, by decide +kernel⟩
set_option maxHeartbeats 4000000 in
set_option maxRecDepth 100000 in
theorem c_finish {l : Launch} {D : va_G} {A : Nat → Prop} {G : MG} (n : Nat) (M : MS) (p1 p2 : Int32) {M' : MS} (hq : q_finish n M p1 p2 = some M') : Met l yX12_finish (wM yX12_finish prog_14_method_26_code 4 none) (rM 3 71) (va_Pc [.ref G.2.2.1, .int p1, .int p2] (mPre D A G M)) (mQv D A G M') 0 0 A := by
  refine m_head (by decide) rfl (Nat.le_of_ble_eq_true rfl) ?_
  intro p e s m args below meth c ls B hW hl
  have hx := B.1
  have hb := B.2.1
  have hl : lv_has ls 4 [(0, .ref G.2.2.1), (1, .int p1), (2, .int p2)] := hl
  unfold q_finish at hq
  refine lv_iload_n hx hb dX12_finish_0 rfl (lv_at hl 2 rfl) ?_
  refine lv_if_eq (tgt := 32) hx hb dX12_finish_1 (by decide) (fun hc => ?_) (fun hc => ?_)
  · replace hq := if_y hc hq
    refine lv_aload_n hx hb dX12_finish_32 rfl (lv_at hl 0 rfl) ?_
    refine lv_aload_n hx hb dX12_finish_33 rfl (lv_at hl 0 rfl) ?_
    refine m_get B hW 46 (by decide) u_888 (v := .ref (G.2.2.2 46)) rfl dX12_finish_34 ?_
    refine lv_iload_n hx hb dX12_finish_37 rfl (lv_at hl 1 rfl) ?_
    obtain ⟨hc, hq⟩ := chk_e hq
    refine m_iald B hW mA_46 hc dX12_finish_38 ?_
    refine lv_aload_n hx hb dX12_finish_39 rfl (lv_at hl 0 rfl) ?_
    refine lv_iload_n hx hb dX12_finish_40 rfl (lv_at hl 1 rfl) ?_
    refine lv_iconst (v := 4) hx hb dX12_finish_41 (by decide) ?_
    obtain ⟨r2, M1, hg, hq⟩ := bnd2_e hq
    refine m_calli (As := [.int p1, .int 4]) (rest := [.int (M 46 p1.toNatClampNeg), .ref G.2.2.1]) B hW hl.1 (c_array M p1 4 hg) mC_array rfl ⟨by decide, by decide⟩ rfl (Nat.le_of_ble_eq_true rfl) dX12_finish_42 (fun H locs hW => ?_)
    clear hg
    obtain ⟨M3, hg, hq⟩ := bnd_e hq
    refine m_callv (As := [.int (M 46 p1.toNatClampNeg), .int r2]) (rest := []) B hW hl.1 (c_resolve n M1 (M 46 p1.toNatClampNeg) r2 hg) mC_resolve rfl ⟨by decide, by decide⟩ rfl (Nat.le_of_ble_eq_true rfl) dX12_finish_45 (fun H locs hW => ?_)
    clear hg
    exact m_vret B hW hq dX12_finish_48
  · replace hq := if_n hc hq
    refine lv_aload_n hx hb dX12_finish_4 rfl (lv_at hl 0 rfl) ?_
    refine lv_iload_n hx hb dX12_finish_5 rfl (lv_at hl 1 rfl) ?_
    refine lv_iconst (v := 3) hx hb dX12_finish_6 (by decide) ?_
    obtain ⟨r5, M4, hg, hq⟩ := bnd2_e hq
    refine m_calli (As := [.int p1, .int 3]) (rest := []) B hW hl.1 (c_array M p1 3 hg) mC_array rfl ⟨by decide, by decide⟩ rfl (Nat.le_of_ble_eq_true rfl) dX12_finish_7 (fun H locs hW => ?_)
    clear hg
    refine lv_istore_n (lv' := [(3, .int r5), (0, .ref G.2.2.1), (1, .int p1), (2, .int p2)]) hx hb dX12_finish_10 rfl hl (by decide) rfl (fun ls hl => ?_)
    refine lv_aload_n hx hb dX12_finish_11 rfl (lv_at hl 1 rfl) ?_
    refine lv_iload_n hx hb dX12_finish_12 rfl (lv_at hl 2 rfl) ?_
    refine lv_iconst (v := 4) hx hb dX12_finish_13 (by decide) ?_
    obtain ⟨r7, M6, hg, hq⟩ := bnd2_e hq
    refine m_calli (As := [.int p1, .int 4]) (rest := []) B hW hl.1 (c_array M4 p1 4 hg) mC_array rfl ⟨by decide, by decide⟩ rfl (Nat.le_of_ble_eq_true rfl) dX12_finish_14 (fun H locs hW => ?_)
    clear hg
    refine lv_pop hx hb dX12_finish_17 rfl ?_
    refine lv_aload_n hx hb dX12_finish_18 rfl (lv_at hl 1 rfl) ?_
    refine lv_aload_n hx hb dX12_finish_19 rfl (lv_at hl 1 rfl) ?_
    refine m_get B hW 46 (by decide) u_888 (v := .ref (G.2.2.2 46)) rfl dX12_finish_20 ?_
    refine lv_iload_n hx hb dX12_finish_23 rfl (lv_at hl 2 rfl) ?_
    obtain ⟨hc, hq⟩ := chk_e hq
    refine m_iald B hW mA_46 hc dX12_finish_24 ?_
    refine lv_iload_n hx hb dX12_finish_25 rfl (lv_at hl 0 rfl) ?_
    obtain ⟨M8, hg, hq⟩ := bnd_e hq
    refine m_callv (As := [.int (M6 46 p1.toNatClampNeg), .int r5]) (rest := []) B hW hl.1 (c_reject n M6 (M6 46 p1.toNatClampNeg) r5 hg) mC_reject rfl ⟨by decide, by decide⟩ rfl (Nat.le_of_ble_eq_true rfl) dX12_finish_26 (fun H locs hW => ?_)
    clear hg
    refine lv_goto (tgt := 48) hx hb dX12_finish_29 (by decide) ?_
    exact m_vret B hW hq dX12_finish_48
theorem mC_finish : mC yX12_finish prog_14_method_26_code 4 none 224 2 := ⟨fun _ => g_V u_1123 u_1125 us_57 u_5 u_1126, by decide +kernel⟩
set_option maxHeartbeats 4000000 in
set_option maxRecDepth 100000 in
theorem k_group_37 {p : Program} {l : Launch} {e : Env} {s : State} {m : MethodId} {args : Array Value} {below : List Frame} {meth : Method} {c : Code} {D : va_G} {A : Nat → Prop} {G : MG} {r : Int32} {M' : MS} (B : mB p s m args meth c D G prog_14_method_32_code 3 (some .int) (Cond.code yX12_group prog_14_method_32_code 3 (some .int))) :
    ∀ (n : Nat) (M : MS) (v1 v2 : Int32), q_group_37 n M v1 v2 = some (r, M') → ∀ (H : Heap) (locs : List Loc) (ls : Array Slot), mOK D A G M s.heap H locs → lv_has ls 3 [(0, .ref G.2.2.1), (1, .int v1), (2, .int v2)] → W p l e (rM 0 0) s m args below meth c H locs 0 0 (MQ below (mQi D A G r M') args s 0 0 A) (F0 m 37 ls []) := by
  have hx := B.1
  have hb := B.2.1
  intro n
  induction n with
  | zero => intro M v1 v2 hq; cases hq
  | succ n ih =>
    intro M v1 v2 hq _ _ ls hW hl
    replace hq : (if (M 38 0) ≤ v2 then lt9 (mput M 38 0 0) (fun M4 => some (v1, M4)) else chk (inb v2 200) (chk (inb (M 42 0) 20000) (lt9 (mput M 39 (M 42 0).toNatClampNeg (M 37 v2.toNatClampNeg)) (fun M5 => chk (inb (M5 42 0) 20000) (lt9 (mput M5 40 (M5 42 0).toNatClampNeg v1) (fun M6 => chk (inb (M6 42 0) 20000) (chk (isB 0) (lt9 (mput M6 41 (M6 42 0).toNatClampNeg 0) (fun M7 => lt9 (mput M7 42 0 ((M7 42 0) + 1)) (fun M8 => q_group_37 n M8 v1 (v2 + 1))))))))))) = some (r, M') := hq
    refine lv_iload_n hx hb dX12_group_37 rfl (lv_at hl 2 rfl) ?_
    refine lv_aload_n hx hb dX12_group_38 rfl (lv_at hl 0 rfl) ?_
    refine m_get B hW 38 (by decide) u_880 (v := .int (M 38 0)) rfl dX12_group_39 ?_
    refine lv_icmp_ge (tgt := 96) hx hb dX12_group_42 (by decide) (fun hc => ?_) (fun hc => ?_)
    · replace hq := if_y hc hq
      refine lv_aload_n hx hb dX12_group_96 rfl (lv_at hl 0 rfl) ?_
      refine lv_iconst (v := 0) hx hb dX12_group_97 (by decide) ?_
      refine m_put B hW 38 (by decide) u_880 mS_38 rfl (ty := .int) (tyX12_ok 38 (by decide)) rfl rfl (Nat.le_of_ble_eq_true rfl) dX12_group_98 (fun H locs M4 eM hW => ?_)
      replace hq := lt9_u eM hq
      clear eM
      refine lv_iload_n hx hb dX12_group_101 rfl (lv_at hl 1 rfl) ?_
      exact m_iret B hW hq dX12_group_102
    · replace hq := if_n hc hq
      refine lv_aload_n hx hb dX12_group_45 rfl (lv_at hl 0 rfl) ?_
      refine m_get B hW 39 (by decide) u_881 (v := .ref (G.2.2.2 39)) rfl dX12_group_46 ?_
      refine lv_aload_n hx hb dX12_group_49 rfl (lv_at hl 0 rfl) ?_
      refine m_get B hW 42 (by decide) u_884 (v := .int (M 42 0)) rfl dX12_group_50 ?_
      refine lv_aload_n hx hb dX12_group_53 rfl (lv_at hl 0 rfl) ?_
      refine m_get B hW 37 (by decide) u_879 (v := .ref (G.2.2.2 37)) rfl dX12_group_54 ?_
      refine lv_iload_n hx hb dX12_group_57 rfl (lv_at hl 2 rfl) ?_
      obtain ⟨hc, hq⟩ := chk_e hq
      refine m_iald B hW mA_37 hc dX12_group_58 ?_
      obtain ⟨hc, hq⟩ := chk_e hq
      refine m_iast B hW mA_39 hc dX12_group_59 (fun H locs M5 eM hW => ?_)
      replace hq := lt9_u eM hq
      clear eM
      refine lv_aload_n hx hb dX12_group_60 rfl (lv_at hl 0 rfl) ?_
      refine m_get B hW 40 (by decide) u_882 (v := .ref (G.2.2.2 40)) rfl dX12_group_61 ?_
      refine lv_aload_n hx hb dX12_group_64 rfl (lv_at hl 0 rfl) ?_
      refine m_get B hW 42 (by decide) u_884 (v := .int (M5 42 0)) rfl dX12_group_65 ?_
      refine lv_iload_n hx hb dX12_group_68 rfl (lv_at hl 1 rfl) ?_
      obtain ⟨hc, hq⟩ := chk_e hq
      refine m_iast B hW mA_40 hc dX12_group_69 (fun H locs M6 eM hW => ?_)
      replace hq := lt9_u eM hq
      clear eM
      refine lv_aload_n hx hb dX12_group_70 rfl (lv_at hl 0 rfl) ?_
      refine m_get B hW 41 (by decide) u_883 (v := .ref (G.2.2.2 41)) rfl dX12_group_71 ?_
      refine lv_aload_n hx hb dX12_group_74 rfl (lv_at hl 0 rfl) ?_
      refine m_get B hW 42 (by decide) u_884 (v := .int (M6 42 0)) rfl dX12_group_75 ?_
      refine lv_iconst (v := 0) hx hb dX12_group_78 (by decide) ?_
      obtain ⟨hc, hq⟩ := chk_e hq
      obtain ⟨hc2, hq⟩ := chk_e hq
      refine m_zast B hW mA_41 hc2 hc dX12_group_79 (fun H locs M7 eM hW => ?_)
      replace hq := lt9_u eM hq
      clear eM
      refine lv_aload_n hx hb dX12_group_80 rfl (lv_at hl 0 rfl) ?_
      refine lv_dup hx hb dX12_group_81 rfl ?_
      refine m_get B hW 42 (by decide) u_884 (v := .int (M7 42 0)) rfl dX12_group_82 ?_
      refine lv_iconst (v := 1) hx hb dX12_group_85 (by decide) ?_
      refine lv_iadd hx hb dX12_group_86 ?_
      refine m_put B hW 42 (by decide) u_884 mS_42 rfl (ty := .int) (tyX12_ok 42 (by decide)) rfl rfl (Nat.le_of_ble_eq_true rfl) dX12_group_87 (fun H locs M8 eM hW => ?_)
      replace hq := lt9_u eM hq
      clear eM
      refine lv_iinc (v := v2 + 1) (lv' := [(2, .int (v2 + 1)), (0, .ref G.2.2.1), (1, .int v1)]) hx hb dX12_group_90 hl (k := 2) rfl rfl (by decide) rfl (fun ls hl => ?_)
      refine lv_goto (tgt := 37) hx hb dX12_group_93 (by decide) ?_
      exact ih M8 v1 (v2 + 1) hq _ _ ls hW (lv_sub hl [1, 2, 0] rfl)
set_option maxHeartbeats 4000000 in
set_option maxRecDepth 100000 in
theorem c_group {l : Launch} {D : va_G} {A : Nat → Prop} {G : MG} (n : Nat) (M : MS) {r : Int32} {M' : MS} (hq : q_group n M = some (r, M')) : Met l yX12_group (wM yX12_group prog_14_method_32_code 3 (some .int)) (rM 0 0) (va_Pc [.ref G.2.2.1] (mPre D A G M)) (mQi D A G r M') 0 0 A := by
  refine m_head (by decide) rfl (Nat.le_of_ble_eq_true rfl) ?_
  intro p e s m args below meth c ls B hW hl
  have hx := B.1
  have hb := B.2.1
  have hl : lv_has ls 3 [(0, .ref G.2.2.1)] := hl
  unfold q_group at hq
  refine lv_aload_n hx hb dX12_group_0 rfl (lv_at hl 0 rfl) ?_
  refine m_get B hW 50 (by decide) u_892 (v := .int (M 50 0)) rfl dX12_group_1 ?_
  refine lv_istore_n (lv' := [(1, .int (M 50 0)), (0, .ref G.2.2.1)]) hx hb dX12_group_4 rfl hl (by decide) rfl (fun ls hl => ?_)
  refine lv_aload_n hx hb dX12_group_5 rfl (lv_at hl 1 rfl) ?_
  refine lv_dup hx hb dX12_group_6 rfl ?_
  refine m_get B hW 50 (by decide) u_892 (v := .int (M 50 0)) rfl dX12_group_7 ?_
  refine lv_iconst (v := 1) hx hb dX12_group_10 (by decide) ?_
  refine lv_iadd hx hb dX12_group_11 ?_
  refine m_put B hW 50 (by decide) u_892 mS_50 rfl (ty := .int) (tyX12_ok 50 (by decide)) rfl rfl (Nat.le_of_ble_eq_true rfl) dX12_group_12 (fun H locs M1 eM hW => ?_)
  replace hq := lt9_u eM hq
  clear eM
  refine lv_aload_n hx hb dX12_group_15 rfl (lv_at hl 1 rfl) ?_
  refine m_get B hW 43 (by decide) u_885 (v := .ref (G.2.2.2 43)) rfl dX12_group_16 ?_
  refine lv_iload_n hx hb dX12_group_19 rfl (lv_at hl 0 rfl) ?_
  refine lv_aload_n hx hb dX12_group_20 rfl (lv_at hl 1 rfl) ?_
  refine m_get B hW 42 (by decide) u_884 (v := .int (M1 42 0)) rfl dX12_group_21 ?_
  obtain ⟨hc, hq⟩ := chk_e hq
  refine m_iast B hW mA_43 hc dX12_group_24 (fun H locs M2 eM hW => ?_)
  replace hq := lt9_u eM hq
  clear eM
  refine lv_aload_n hx hb dX12_group_25 rfl (lv_at hl 1 rfl) ?_
  refine m_get B hW 44 (by decide) u_886 (v := .ref (G.2.2.2 44)) rfl dX12_group_26 ?_
  refine lv_iload_n hx hb dX12_group_29 rfl (lv_at hl 0 rfl) ?_
  refine lv_aload_n hx hb dX12_group_30 rfl (lv_at hl 1 rfl) ?_
  refine m_get B hW 38 (by decide) u_880 (v := .int (M2 38 0)) rfl dX12_group_31 ?_
  obtain ⟨hc, hq⟩ := chk_e hq
  refine m_iast B hW mA_44 hc dX12_group_34 (fun H locs M3 eM hW => ?_)
  replace hq := lt9_u eM hq
  clear eM
  refine lv_iconst (v := 0) hx hb dX12_group_35 (by decide) ?_
  refine lv_istore_n (lv' := [(2, .int 0), (1, .int (M 50 0)), (0, .ref G.2.2.1)]) hx hb dX12_group_36 rfl hl (by decide) rfl (fun ls hl => ?_)
  exact k_group_37 B n M3 (M 50 0) 0 hq _ _ ls hW (lv_sub hl [2, 1, 0] rfl)
theorem mC_group : mC yX12_group prog_14_method_32_code 3 (some .int) 269 0 := ⟨fun _ => g_V u_1119 u_1121 us_56 u_5 u_1122, by decide +kernel⟩
set_option maxHeartbeats 4000000 in
set_option maxRecDepth 100000 in
theorem k_combine_69 {p : Program} {l : Launch} {e : Env} {s : State} {m : MethodId} {args : Array Value} {below : List Frame} {meth : Method} {c : Code} {D : va_G} {A : Nat → Prop} {G : MG} {r : Int32} {M' : MS} (B : mB p s m args meth c D G prog_14_method_44_code 7 (some .int) (Cond.code yX12_combine prog_14_method_44_code 7 (some .int))) :
    ∀ (n : Nat) (M : MS) (v1 v2 v3 v4 : Int32), q_combine_69 n M v1 v2 v3 v4 = some (r, M') → ∀ (H : Heap) (locs : List Loc) (ls : Array Slot), mOK D A G M s.heap H locs → lv_has ls 7 [(0, .ref G.2.2.1), (1, .int v1), (2, .int v2), (3, .int v3), (4, .int v4)] → W p l e (rM 4 94) s m args below meth c H locs 0 0 (MQ below (mQi D A G r M') args s 0 0 A) (F0 m 69 ls []) := by
  have hx := B.1
  have hb := B.2.1
  intro n
  induction n with
  | zero => intro M v1 v2 v3 v4 hq; cases hq
  | succ n ih =>
    intro M v1 v2 v3 v4 hq _ _ ls hW hl
    replace hq : (chk (inb v3 3000) (if (M 44 v3.toNatClampNeg) ≤ v4 then chk (inb v3 3000) (chk (inb v3 3000) (lt9 (mput M 45 v3.toNatClampNeg ((M 45 v3.toNatClampNeg) - 1)) (fun M12 => if 3 ≤ v1 then chk (inb v2 12000) (some (-2 - (M12 13 v2.toNatClampNeg), M12)) else chk (inb v3 3000) (if (M12 45 v3.toNatClampNeg) = 0 then if v1 = 2 then bnd (q_finish n M12 v3 1) (fun M14 => chk (inb v2 12000) (some (-2 - (M14 13 v2.toNatClampNeg), M14))) else bnd (q_finish n M12 v3 0) (fun M13 => chk (inb v2 12000) (some (-2 - (M13 13 v2.toNatClampNeg), M13))) else chk (inb v2 12000) (some (-2 - (M12 13 v2.toNatClampNeg), M12)))))) else chk (inb v3 3000) (chk (inb ((M 43 v3.toNatClampNeg) + v4) 20000) (bnd2 (q_promiseOf n M (M 39 ((M 43 v3.toNatClampNeg) + v4).toNatClampNeg)) (fun r16 M15 => if 3 ≤ v1 then if v1 = 0 then bnd2 (q_then n M15 r16 4 ((M 43 v3.toNatClampNeg) + v4) 3 v2) (fun r24 M23 => q_combine_69 n M23 v1 v2 v3 (v4 + 1)) else if v1 = 1 then bnd2 (q_then n M15 r16 5 ((M 43 v3.toNatClampNeg) + v4) 6 ((M 43 v3.toNatClampNeg) + v4)) (fun r22 M21 => q_combine_69 n M21 v1 v2 v3 (v4 + 1)) else if v1 = 2 then bnd2 (q_then n M15 r16 2 v2 7 ((M 43 v3.toNatClampNeg) + v4)) (fun r20 M19 => q_combine_69 n M19 v1 v2 v3 (v4 + 1)) else bnd2 (q_then n M15 r16 2 v2 3 v2) (fun r18 M17 => q_combine_69 n M17 v1 v2 v3 (v4 + 1)) else chk (inb ((M 43 v3.toNatClampNeg) + v4) 20000) (lt9 (mput M15 39 ((M 43 v3.toNatClampNeg) + v4).toNatClampNeg (-1)) (fun M25 => chk (inb v3 3000) (chk (inb v3 3000) (lt9 (mput M25 45 v3.toNatClampNeg ((M25 45 v3.toNatClampNeg) + 1)) (fun M26 => if v1 = 0 then bnd2 (q_then n M26 r16 4 ((M 43 v3.toNatClampNeg) + v4) 3 v2) (fun r34 M33 => q_combine_69 n M33 v1 v2 v3 (v4 + 1)) else if v1 = 1 then bnd2 (q_then n M26 r16 5 ((M 43 v3.toNatClampNeg) + v4) 6 ((M 43 v3.toNatClampNeg) + v4)) (fun r32 M31 => q_combine_69 n M31 v1 v2 v3 (v4 + 1)) else if v1 = 2 then bnd2 (q_then n M26 r16 2 v2 7 ((M 43 v3.toNatClampNeg) + v4)) (fun r30 M29 => q_combine_69 n M29 v1 v2 v3 (v4 + 1)) else bnd2 (q_then n M26 r16 2 v2 3 v2) (fun r28 M27 => q_combine_69 n M27 v1 v2 v3 (v4 + 1)))))))))))) = some (r, M') := hq
    refine lv_iload hx hb dX12_combine_69 (lv_at hl 4 rfl) ?_
    refine lv_aload_n hx hb dX12_combine_71 rfl (lv_at hl 0 rfl) ?_
    refine m_get B hW 44 (by decide) u_886 (v := .ref (G.2.2.2 44)) rfl dX12_combine_72 ?_
    refine lv_iload_n hx hb dX12_combine_75 rfl (lv_at hl 3 rfl) ?_
    obtain ⟨hc, hq⟩ := chk_e hq
    refine m_iald B hW mA_44 hc dX12_combine_76 ?_
    refine lv_icmp_ge (tgt := 206) hx hb dX12_combine_77 (by decide) (fun hc => ?_) (fun hc => ?_)
    · replace hq := if_y hc hq
      refine lv_aload_n hx hb dX12_combine_206 rfl (lv_at hl 0 rfl) ?_
      refine m_get B hW 45 (by decide) u_887 (v := .ref (G.2.2.2 45)) rfl dX12_combine_207 ?_
      refine lv_iload_n hx hb dX12_combine_210 rfl (lv_at hl 3 rfl) ?_
      refine lv_dup2_11 hx hb dX12_combine_211 rfl rfl ?_
      obtain ⟨hc, hq⟩ := chk_e hq
      refine m_iald B hW mA_45 hc dX12_combine_212 ?_
      refine lv_iconst (v := 1) hx hb dX12_combine_213 (by decide) ?_
      refine lv_isub hx hb dX12_combine_214 ?_
      obtain ⟨hc, hq⟩ := chk_e hq
      refine m_iast B hW mA_45 hc dX12_combine_215 (fun H locs M12 eM hW => ?_)
      replace hq := lt9_u eM hq
      clear eM
      refine lv_iload_n hx hb dX12_combine_216 rfl (lv_at hl 1 rfl) ?_
      refine lv_iconst (v := 3) hx hb dX12_combine_217 (by decide) ?_
      refine lv_icmp_ge (tgt := 245) hx hb dX12_combine_218 (by decide) (fun hc => ?_) (fun hc => ?_)
      · replace hq := if_y hc hq
        refine lv_aload_n hx hb dX12_combine_245 rfl (lv_at hl 0 rfl) ?_
        refine m_get B hW 13 (by decide) u_855 (v := .ref (G.2.2.2 13)) rfl dX12_combine_246 ?_
        refine lv_iload_n hx hb dX12_combine_249 rfl (lv_at hl 2 rfl) ?_
        obtain ⟨hc, hq⟩ := chk_e hq
        refine m_iald B hW mA_13 hc dX12_combine_250 ?_
        refine m_valueOf (rest := []) B hW hl.1 ⟨by decide, by decide⟩ (Nat.le_of_ble_eq_true rfl) dX12_combine_251 (fun H locs hW => ?_)
        exact m_iret B hW hq dX12_combine_254
      · replace hq := if_n hc hq
        refine lv_aload_n hx hb dX12_combine_221 rfl (lv_at hl 0 rfl) ?_
        refine m_get B hW 45 (by decide) u_887 (v := .ref (G.2.2.2 45)) rfl dX12_combine_222 ?_
        refine lv_iload_n hx hb dX12_combine_225 rfl (lv_at hl 3 rfl) ?_
        obtain ⟨hc, hq⟩ := chk_e hq
        refine m_iald B hW mA_45 hc dX12_combine_226 ?_
        refine lv_if_ne (tgt := 245) hx hb dX12_combine_227 (by decide) (fun hc => ?_) (fun hc => ?_)
        · replace hq := if_n hc hq
          refine lv_aload_n hx hb dX12_combine_245 rfl (lv_at hl 0 rfl) ?_
          refine m_get B hW 13 (by decide) u_855 (v := .ref (G.2.2.2 13)) rfl dX12_combine_246 ?_
          refine lv_iload_n hx hb dX12_combine_249 rfl (lv_at hl 2 rfl) ?_
          obtain ⟨hc, hq⟩ := chk_e hq
          refine m_iald B hW mA_13 hc dX12_combine_250 ?_
          refine m_valueOf (rest := []) B hW hl.1 ⟨by decide, by decide⟩ (Nat.le_of_ble_eq_true rfl) dX12_combine_251 (fun H locs hW => ?_)
          exact m_iret B hW hq dX12_combine_254
        · replace hq := if_y hc hq
          refine lv_aload_n hx hb dX12_combine_230 rfl (lv_at hl 0 rfl) ?_
          refine lv_iload_n hx hb dX12_combine_231 rfl (lv_at hl 3 rfl) ?_
          refine lv_iload_n hx hb dX12_combine_232 rfl (lv_at hl 1 rfl) ?_
          refine lv_iconst (v := 2) hx hb dX12_combine_233 (by decide) ?_
          refine lv_icmp_ne (tgt := 241) hx hb dX12_combine_234 (by decide) (fun hc => ?_) (fun hc => ?_)
          · replace hq := if_n hc hq
            refine lv_iconst (v := 0) hx hb dX12_combine_241 (by decide) ?_
            obtain ⟨M13, hg, hq⟩ := bnd_e hq
            refine m_callv (As := [.int v3, .int 0]) (rest := []) B hW hl.1 (c_finish n M12 v3 0 hg) mC_finish rfl ⟨by decide, by decide⟩ rfl (Nat.le_of_ble_eq_true rfl) dX12_combine_242 (fun H locs hW => ?_)
            clear hg
            refine lv_aload_n hx hb dX12_combine_245 rfl (lv_at hl 0 rfl) ?_
            refine m_get B hW 13 (by decide) u_855 (v := .ref (G.2.2.2 13)) rfl dX12_combine_246 ?_
            refine lv_iload_n hx hb dX12_combine_249 rfl (lv_at hl 2 rfl) ?_
            obtain ⟨hc, hq⟩ := chk_e hq
            refine m_iald B hW mA_13 hc dX12_combine_250 ?_
            refine m_valueOf (rest := []) B hW hl.1 ⟨by decide, by decide⟩ (Nat.le_of_ble_eq_true rfl) dX12_combine_251 (fun H locs hW => ?_)
            exact m_iret B hW hq dX12_combine_254
          · replace hq := if_y hc hq
            refine lv_iconst (v := 1) hx hb dX12_combine_237 (by decide) ?_
            refine lv_goto (tgt := 242) hx hb dX12_combine_238 (by decide) ?_
            obtain ⟨M14, hg, hq⟩ := bnd_e hq
            refine m_callv (As := [.int v3, .int 1]) (rest := []) B hW hl.1 (c_finish n M12 v3 1 hg) mC_finish rfl ⟨by decide, by decide⟩ rfl (Nat.le_of_ble_eq_true rfl) dX12_combine_242 (fun H locs hW => ?_)
            clear hg
            refine lv_aload_n hx hb dX12_combine_245 rfl (lv_at hl 0 rfl) ?_
            refine m_get B hW 13 (by decide) u_855 (v := .ref (G.2.2.2 13)) rfl dX12_combine_246 ?_
            refine lv_iload_n hx hb dX12_combine_249 rfl (lv_at hl 2 rfl) ?_
            obtain ⟨hc, hq⟩ := chk_e hq
            refine m_iald B hW mA_13 hc dX12_combine_250 ?_
            refine m_valueOf (rest := []) B hW hl.1 ⟨by decide, by decide⟩ (Nat.le_of_ble_eq_true rfl) dX12_combine_251 (fun H locs hW => ?_)
            exact m_iret B hW hq dX12_combine_254
    · replace hq := if_n hc hq
      refine lv_aload_n hx hb dX12_combine_80 rfl (lv_at hl 0 rfl) ?_
      refine m_get B hW 43 (by decide) u_885 (v := .ref (G.2.2.2 43)) rfl dX12_combine_81 ?_
      refine lv_iload_n hx hb dX12_combine_84 rfl (lv_at hl 3 rfl) ?_
      obtain ⟨hc, hq⟩ := chk_e hq
      refine m_iald B hW mA_43 hc dX12_combine_85 ?_
      refine lv_iload hx hb dX12_combine_86 (lv_at hl 4 rfl) ?_
      refine lv_iadd hx hb dX12_combine_88 ?_
      refine lv_istore (lv' := [(5, .int ((M 43 v3.toNatClampNeg) + v4)), (0, .ref G.2.2.1), (1, .int v1), (2, .int v2), (3, .int v3), (4, .int v4)]) hx hb dX12_combine_89 hl (by decide) rfl (fun ls hl => ?_)
      refine lv_aload_n hx hb dX12_combine_91 rfl (lv_at hl 1 rfl) ?_
      refine lv_aload_n hx hb dX12_combine_92 rfl (lv_at hl 1 rfl) ?_
      refine m_get B hW 39 (by decide) u_881 (v := .ref (G.2.2.2 39)) rfl dX12_combine_93 ?_
      refine lv_iload hx hb dX12_combine_96 (lv_at hl 0 rfl) ?_
      obtain ⟨hc, hq⟩ := chk_e hq
      refine m_iald B hW mA_39 hc dX12_combine_98 ?_
      obtain ⟨r16, M15, hg, hq⟩ := bnd2_e hq
      refine m_calli (As := [.int (M 39 ((M 43 v3.toNatClampNeg) + v4).toNatClampNeg)]) (rest := []) B hW hl.1 (c_promiseOf n M (M 39 ((M 43 v3.toNatClampNeg) + v4).toNatClampNeg) hg) mC_promiseOf rfl ⟨by decide, by decide⟩ rfl (Nat.le_of_ble_eq_true rfl) dX12_combine_99 (fun H locs hW => ?_)
      clear hg
      refine lv_istore (lv' := [(6, .int r16), (5, .int ((M 43 v3.toNatClampNeg) + v4)), (0, .ref G.2.2.1), (1, .int v1), (2, .int v2), (3, .int v3), (4, .int v4)]) hx hb dX12_combine_102 hl (by decide) rfl (fun ls hl => ?_)
      refine lv_iload_n hx hb dX12_combine_104 rfl (lv_at hl 3 rfl) ?_
      refine lv_iconst (v := 3) hx hb dX12_combine_105 (by decide) ?_
      refine lv_icmp_ge (tgt := 127) hx hb dX12_combine_106 (by decide) (fun hc => ?_) (fun hc => ?_)
      · replace hq := if_y hc hq
        refine lv_iload_n hx hb dX12_combine_127 rfl (lv_at hl 3 rfl) ?_
        refine lv_if_ne (tgt := 146) hx hb dX12_combine_128 (by decide) (fun hc => ?_) (fun hc => ?_)
        · replace hq := if_n hc hq
          refine lv_iload_n hx hb dX12_combine_146 rfl (lv_at hl 3 rfl) ?_
          refine lv_iconst (v := 1) hx hb dX12_combine_147 (by decide) ?_
          refine lv_icmp_ne (tgt := 168) hx hb dX12_combine_148 (by decide) (fun hc => ?_) (fun hc => ?_)
          · replace hq := if_n hc hq
            refine lv_iload_n hx hb dX12_combine_168 rfl (lv_at hl 3 rfl) ?_
            refine lv_iconst (v := 2) hx hb dX12_combine_169 (by decide) ?_
            refine lv_icmp_ne (tgt := 189) hx hb dX12_combine_170 (by decide) (fun hc => ?_) (fun hc => ?_)
            · replace hq := if_n hc hq
              refine lv_aload_n hx hb dX12_combine_189 rfl (lv_at hl 2 rfl) ?_
              refine lv_iload hx hb dX12_combine_190 (lv_at hl 0 rfl) ?_
              refine lv_iconst (v := 2) hx hb dX12_combine_192 (by decide) ?_
              refine lv_iload_n hx hb dX12_combine_193 rfl (lv_at hl 4 rfl) ?_
              refine lv_iconst (v := 3) hx hb dX12_combine_194 (by decide) ?_
              refine lv_iload_n hx hb dX12_combine_195 rfl (lv_at hl 4 rfl) ?_
              obtain ⟨r18, M17, hg, hq⟩ := bnd2_e hq
              refine m_calli (As := [.int r16, .int 2, .int v2, .int 3, .int v2]) (rest := []) B hW hl.1 (c_then n M15 r16 2 v2 3 v2 hg) mC_then rfl ⟨by decide, by decide⟩ rfl (Nat.le_of_ble_eq_true rfl) dX12_combine_196 (fun H locs hW => ?_)
              clear hg
              refine lv_pop hx hb dX12_combine_199 rfl ?_
              refine lv_iinc (v := v4 + 1) (lv' := [(4, .int (v4 + 1)), (6, .int r16), (5, .int ((M 43 v3.toNatClampNeg) + v4)), (0, .ref G.2.2.1), (1, .int v1), (2, .int v2), (3, .int v3)]) hx hb dX12_combine_200 hl (k := 6) rfl rfl (by decide) rfl (fun ls hl => ?_)
              refine lv_goto (tgt := 69) hx hb dX12_combine_203 (by decide) ?_
              exact ih M17 v1 v2 v3 (v4 + 1) hq _ _ ls hW (lv_sub hl [3, 4, 5, 6, 0] rfl)
            · replace hq := if_y hc hq
              refine lv_aload_n hx hb dX12_combine_173 rfl (lv_at hl 2 rfl) ?_
              refine lv_iload hx hb dX12_combine_174 (lv_at hl 0 rfl) ?_
              refine lv_iconst (v := 2) hx hb dX12_combine_176 (by decide) ?_
              refine lv_iload_n hx hb dX12_combine_177 rfl (lv_at hl 4 rfl) ?_
              refine lv_bipush (v := 7) hx hb dX12_combine_178 (by decide) ?_
              refine lv_iload hx hb dX12_combine_180 (lv_at hl 1 rfl) ?_
              obtain ⟨r20, M19, hg, hq⟩ := bnd2_e hq
              refine m_calli (As := [.int r16, .int 2, .int v2, .int 7, .int ((M 43 v3.toNatClampNeg) + v4)]) (rest := []) B hW hl.1 (c_then n M15 r16 2 v2 7 ((M 43 v3.toNatClampNeg) + v4) hg) mC_then rfl ⟨by decide, by decide⟩ rfl (Nat.le_of_ble_eq_true rfl) dX12_combine_182 (fun H locs hW => ?_)
              clear hg
              refine lv_pop hx hb dX12_combine_185 rfl ?_
              refine lv_goto (tgt := 200) hx hb dX12_combine_186 (by decide) ?_
              refine lv_iinc (v := v4 + 1) (lv' := [(4, .int (v4 + 1)), (6, .int r16), (5, .int ((M 43 v3.toNatClampNeg) + v4)), (0, .ref G.2.2.1), (1, .int v1), (2, .int v2), (3, .int v3)]) hx hb dX12_combine_200 hl (k := 6) rfl rfl (by decide) rfl (fun ls hl => ?_)
              refine lv_goto (tgt := 69) hx hb dX12_combine_203 (by decide) ?_
              exact ih M19 v1 v2 v3 (v4 + 1) hq _ _ ls hW (lv_sub hl [3, 4, 5, 6, 0] rfl)
          · replace hq := if_y hc hq
            refine lv_aload_n hx hb dX12_combine_151 rfl (lv_at hl 2 rfl) ?_
            refine lv_iload hx hb dX12_combine_152 (lv_at hl 0 rfl) ?_
            refine lv_iconst (v := 5) hx hb dX12_combine_154 (by decide) ?_
            refine lv_iload hx hb dX12_combine_155 (lv_at hl 1 rfl) ?_
            refine lv_bipush (v := 6) hx hb dX12_combine_157 (by decide) ?_
            refine lv_iload hx hb dX12_combine_159 (lv_at hl 1 rfl) ?_
            obtain ⟨r22, M21, hg, hq⟩ := bnd2_e hq
            refine m_calli (As := [.int r16, .int 5, .int ((M 43 v3.toNatClampNeg) + v4), .int 6, .int ((M 43 v3.toNatClampNeg) + v4)]) (rest := []) B hW hl.1 (c_then n M15 r16 5 ((M 43 v3.toNatClampNeg) + v4) 6 ((M 43 v3.toNatClampNeg) + v4) hg) mC_then rfl ⟨by decide, by decide⟩ rfl (Nat.le_of_ble_eq_true rfl) dX12_combine_161 (fun H locs hW => ?_)
            clear hg
            refine lv_pop hx hb dX12_combine_164 rfl ?_
            refine lv_goto (tgt := 200) hx hb dX12_combine_165 (by decide) ?_
            refine lv_iinc (v := v4 + 1) (lv' := [(4, .int (v4 + 1)), (6, .int r16), (5, .int ((M 43 v3.toNatClampNeg) + v4)), (0, .ref G.2.2.1), (1, .int v1), (2, .int v2), (3, .int v3)]) hx hb dX12_combine_200 hl (k := 6) rfl rfl (by decide) rfl (fun ls hl => ?_)
            refine lv_goto (tgt := 69) hx hb dX12_combine_203 (by decide) ?_
            exact ih M21 v1 v2 v3 (v4 + 1) hq _ _ ls hW (lv_sub hl [3, 4, 5, 6, 0] rfl)
        · replace hq := if_y hc hq
          refine lv_aload_n hx hb dX12_combine_131 rfl (lv_at hl 2 rfl) ?_
          refine lv_iload hx hb dX12_combine_132 (lv_at hl 0 rfl) ?_
          refine lv_iconst (v := 4) hx hb dX12_combine_134 (by decide) ?_
          refine lv_iload hx hb dX12_combine_135 (lv_at hl 1 rfl) ?_
          refine lv_iconst (v := 3) hx hb dX12_combine_137 (by decide) ?_
          refine lv_iload_n hx hb dX12_combine_138 rfl (lv_at hl 4 rfl) ?_
          obtain ⟨r24, M23, hg, hq⟩ := bnd2_e hq
          refine m_calli (As := [.int r16, .int 4, .int ((M 43 v3.toNatClampNeg) + v4), .int 3, .int v2]) (rest := []) B hW hl.1 (c_then n M15 r16 4 ((M 43 v3.toNatClampNeg) + v4) 3 v2 hg) mC_then rfl ⟨by decide, by decide⟩ rfl (Nat.le_of_ble_eq_true rfl) dX12_combine_139 (fun H locs hW => ?_)
          clear hg
          refine lv_pop hx hb dX12_combine_142 rfl ?_
          refine lv_goto (tgt := 200) hx hb dX12_combine_143 (by decide) ?_
          refine lv_iinc (v := v4 + 1) (lv' := [(4, .int (v4 + 1)), (6, .int r16), (5, .int ((M 43 v3.toNatClampNeg) + v4)), (0, .ref G.2.2.1), (1, .int v1), (2, .int v2), (3, .int v3)]) hx hb dX12_combine_200 hl (k := 6) rfl rfl (by decide) rfl (fun ls hl => ?_)
          refine lv_goto (tgt := 69) hx hb dX12_combine_203 (by decide) ?_
          exact ih M23 v1 v2 v3 (v4 + 1) hq _ _ ls hW (lv_sub hl [3, 4, 5, 6, 0] rfl)
      · replace hq := if_n hc hq
        refine lv_aload_n hx hb dX12_combine_109 rfl (lv_at hl 2 rfl) ?_
        refine m_get B hW 39 (by decide) u_881 (v := .ref (G.2.2.2 39)) rfl dX12_combine_110 ?_
        refine lv_iload hx hb dX12_combine_113 (lv_at hl 1 rfl) ?_
        refine lv_iconst (v := (-1)) hx hb dX12_combine_115 (by decide) ?_
        obtain ⟨hc, hq⟩ := chk_e hq
        refine m_iast B hW mA_39 hc dX12_combine_116 (fun H locs M25 eM hW => ?_)
        replace hq := lt9_u eM hq
        clear eM
        refine lv_aload_n hx hb dX12_combine_117 rfl (lv_at hl 2 rfl) ?_
        refine m_get B hW 45 (by decide) u_887 (v := .ref (G.2.2.2 45)) rfl dX12_combine_118 ?_
        refine lv_iload_n hx hb dX12_combine_121 rfl (lv_at hl 5 rfl) ?_
        refine lv_dup2_11 hx hb dX12_combine_122 rfl rfl ?_
        obtain ⟨hc, hq⟩ := chk_e hq
        refine m_iald B hW mA_45 hc dX12_combine_123 ?_
        refine lv_iconst (v := 1) hx hb dX12_combine_124 (by decide) ?_
        refine lv_iadd hx hb dX12_combine_125 ?_
        obtain ⟨hc, hq⟩ := chk_e hq
        refine m_iast B hW mA_45 hc dX12_combine_126 (fun H locs M26 eM hW => ?_)
        replace hq := lt9_u eM hq
        clear eM
        refine lv_iload_n hx hb dX12_combine_127 rfl (lv_at hl 3 rfl) ?_
        refine lv_if_ne (tgt := 146) hx hb dX12_combine_128 (by decide) (fun hc => ?_) (fun hc => ?_)
        · replace hq := if_n hc hq
          refine lv_iload_n hx hb dX12_combine_146 rfl (lv_at hl 3 rfl) ?_
          refine lv_iconst (v := 1) hx hb dX12_combine_147 (by decide) ?_
          refine lv_icmp_ne (tgt := 168) hx hb dX12_combine_148 (by decide) (fun hc => ?_) (fun hc => ?_)
          · replace hq := if_n hc hq
            refine lv_iload_n hx hb dX12_combine_168 rfl (lv_at hl 3 rfl) ?_
            refine lv_iconst (v := 2) hx hb dX12_combine_169 (by decide) ?_
            refine lv_icmp_ne (tgt := 189) hx hb dX12_combine_170 (by decide) (fun hc => ?_) (fun hc => ?_)
            · replace hq := if_n hc hq
              refine lv_aload_n hx hb dX12_combine_189 rfl (lv_at hl 2 rfl) ?_
              refine lv_iload hx hb dX12_combine_190 (lv_at hl 0 rfl) ?_
              refine lv_iconst (v := 2) hx hb dX12_combine_192 (by decide) ?_
              refine lv_iload_n hx hb dX12_combine_193 rfl (lv_at hl 4 rfl) ?_
              refine lv_iconst (v := 3) hx hb dX12_combine_194 (by decide) ?_
              refine lv_iload_n hx hb dX12_combine_195 rfl (lv_at hl 4 rfl) ?_
              obtain ⟨r28, M27, hg, hq⟩ := bnd2_e hq
              refine m_calli (As := [.int r16, .int 2, .int v2, .int 3, .int v2]) (rest := []) B hW hl.1 (c_then n M26 r16 2 v2 3 v2 hg) mC_then rfl ⟨by decide, by decide⟩ rfl (Nat.le_of_ble_eq_true rfl) dX12_combine_196 (fun H locs hW => ?_)
              clear hg
              refine lv_pop hx hb dX12_combine_199 rfl ?_
              refine lv_iinc (v := v4 + 1) (lv' := [(4, .int (v4 + 1)), (6, .int r16), (5, .int ((M 43 v3.toNatClampNeg) + v4)), (0, .ref G.2.2.1), (1, .int v1), (2, .int v2), (3, .int v3)]) hx hb dX12_combine_200 hl (k := 6) rfl rfl (by decide) rfl (fun ls hl => ?_)
              refine lv_goto (tgt := 69) hx hb dX12_combine_203 (by decide) ?_
              exact ih M27 v1 v2 v3 (v4 + 1) hq _ _ ls hW (lv_sub hl [3, 4, 5, 6, 0] rfl)
            · replace hq := if_y hc hq
              refine lv_aload_n hx hb dX12_combine_173 rfl (lv_at hl 2 rfl) ?_
              refine lv_iload hx hb dX12_combine_174 (lv_at hl 0 rfl) ?_
              refine lv_iconst (v := 2) hx hb dX12_combine_176 (by decide) ?_
              refine lv_iload_n hx hb dX12_combine_177 rfl (lv_at hl 4 rfl) ?_
              refine lv_bipush (v := 7) hx hb dX12_combine_178 (by decide) ?_
              refine lv_iload hx hb dX12_combine_180 (lv_at hl 1 rfl) ?_
              obtain ⟨r30, M29, hg, hq⟩ := bnd2_e hq
              refine m_calli (As := [.int r16, .int 2, .int v2, .int 7, .int ((M 43 v3.toNatClampNeg) + v4)]) (rest := []) B hW hl.1 (c_then n M26 r16 2 v2 7 ((M 43 v3.toNatClampNeg) + v4) hg) mC_then rfl ⟨by decide, by decide⟩ rfl (Nat.le_of_ble_eq_true rfl) dX12_combine_182 (fun H locs hW => ?_)
              clear hg
              refine lv_pop hx hb dX12_combine_185 rfl ?_
              refine lv_goto (tgt := 200) hx hb dX12_combine_186 (by decide) ?_
              refine lv_iinc (v := v4 + 1) (lv' := [(4, .int (v4 + 1)), (6, .int r16), (5, .int ((M 43 v3.toNatClampNeg) + v4)), (0, .ref G.2.2.1), (1, .int v1), (2, .int v2), (3, .int v3)]) hx hb dX12_combine_200 hl (k := 6) rfl rfl (by decide) rfl (fun ls hl => ?_)
              refine lv_goto (tgt := 69) hx hb dX12_combine_203 (by decide) ?_
              exact ih M29 v1 v2 v3 (v4 + 1) hq _ _ ls hW (lv_sub hl [3, 4, 5, 6, 0] rfl)
          · replace hq := if_y hc hq
            refine lv_aload_n hx hb dX12_combine_151 rfl (lv_at hl 2 rfl) ?_
            refine lv_iload hx hb dX12_combine_152 (lv_at hl 0 rfl) ?_
            refine lv_iconst (v := 5) hx hb dX12_combine_154 (by decide) ?_
            refine lv_iload hx hb dX12_combine_155 (lv_at hl 1 rfl) ?_
            refine lv_bipush (v := 6) hx hb dX12_combine_157 (by decide) ?_
            refine lv_iload hx hb dX12_combine_159 (lv_at hl 1 rfl) ?_
            obtain ⟨r32, M31, hg, hq⟩ := bnd2_e hq
            refine m_calli (As := [.int r16, .int 5, .int ((M 43 v3.toNatClampNeg) + v4), .int 6, .int ((M 43 v3.toNatClampNeg) + v4)]) (rest := []) B hW hl.1 (c_then n M26 r16 5 ((M 43 v3.toNatClampNeg) + v4) 6 ((M 43 v3.toNatClampNeg) + v4) hg) mC_then rfl ⟨by decide, by decide⟩ rfl (Nat.le_of_ble_eq_true rfl) dX12_combine_161 (fun H locs hW => ?_)
            clear hg
            refine lv_pop hx hb dX12_combine_164 rfl ?_
            refine lv_goto (tgt := 200) hx hb dX12_combine_165 (by decide) ?_
            refine lv_iinc (v := v4 + 1) (lv' := [(4, .int (v4 + 1)), (6, .int r16), (5, .int ((M 43 v3.toNatClampNeg) + v4)), (0, .ref G.2.2.1), (1, .int v1), (2, .int v2), (3, .int v3)]) hx hb dX12_combine_200 hl (k := 6) rfl rfl (by decide) rfl (fun ls hl => ?_)
            refine lv_goto (tgt := 69) hx hb dX12_combine_203 (by decide) ?_
            exact ih M31 v1 v2 v3 (v4 + 1) hq _ _ ls hW (lv_sub hl [3, 4, 5, 6, 0] rfl)
        · replace hq := if_y hc hq
          refine lv_aload_n hx hb dX12_combine_131 rfl (lv_at hl 2 rfl) ?_
          refine lv_iload hx hb dX12_combine_132 (lv_at hl 0 rfl) ?_
          refine lv_iconst (v := 4) hx hb dX12_combine_134 (by decide) ?_
          refine lv_iload hx hb dX12_combine_135 (lv_at hl 1 rfl) ?_
          refine lv_iconst (v := 3) hx hb dX12_combine_137 (by decide) ?_
          refine lv_iload_n hx hb dX12_combine_138 rfl (lv_at hl 4 rfl) ?_
          obtain ⟨r34, M33, hg, hq⟩ := bnd2_e hq
          refine m_calli (As := [.int r16, .int 4, .int ((M 43 v3.toNatClampNeg) + v4), .int 3, .int v2]) (rest := []) B hW hl.1 (c_then n M26 r16 4 ((M 43 v3.toNatClampNeg) + v4) 3 v2 hg) mC_then rfl ⟨by decide, by decide⟩ rfl (Nat.le_of_ble_eq_true rfl) dX12_combine_139 (fun H locs hW => ?_)
          clear hg
          refine lv_pop hx hb dX12_combine_142 rfl ?_
          refine lv_goto (tgt := 200) hx hb dX12_combine_143 (by decide) ?_
          refine lv_iinc (v := v4 + 1) (lv' := [(4, .int (v4 + 1)), (6, .int r16), (5, .int ((M 43 v3.toNatClampNeg) + v4)), (0, .ref G.2.2.1), (1, .int v1), (2, .int v2), (3, .int v3)]) hx hb dX12_combine_200 hl (k := 6) rfl rfl (by decide) rfl (fun ls hl => ?_)
          refine lv_goto (tgt := 69) hx hb dX12_combine_203 (by decide) ?_
          exact ih M33 v1 v2 v3 (v4 + 1) hq _ _ ls hW (lv_sub hl [3, 4, 5, 6, 0] rfl)
set_option maxHeartbeats 4000000 in
set_option maxRecDepth 100000 in
theorem c_combine {l : Launch} {D : va_G} {A : Nat → Prop} {G : MG} (n : Nat) (M : MS) (p1 : Int32) {r : Int32} {M' : MS} (hq : q_combine n M p1 = some (r, M')) : Met l yX12_combine (wM yX12_combine prog_14_method_44_code 7 (some .int)) (rM 4 94) (va_Pc [.ref G.2.2.1, .int p1] (mPre D A G M)) (mQi D A G r M') 0 0 A := by
  refine m_head (by decide) rfl (Nat.le_of_ble_eq_true rfl) ?_
  intro p e s m args below meth c ls B hW hl
  have hx := B.1
  have hb := B.2.1
  have hl : lv_has ls 7 [(0, .ref G.2.2.1), (1, .int p1)] := hl
  unfold q_combine at hq
  refine lv_aload_n hx hb dX12_combine_0 rfl (lv_at hl 0 rfl) ?_
  refine lv_iconst (v := 0) hx hb dX12_combine_1 (by decide) ?_
  refine m_put B hW 0 (by decide) u_842 mS_0 rfl (ty := .int) (tyX12_ok 0 (by decide)) rfl rfl (Nat.le_of_ble_eq_true rfl) dX12_combine_2 (fun H locs M1 eM hW => ?_)
  replace hq := lt9_u eM hq
  clear eM
  refine lv_iload_n hx hb dX12_combine_5 rfl (lv_at hl 1 rfl) ?_
  refine lv_if_lt (tgt := 14) hx hb dX12_combine_6 (by decide) (fun hc => ?_) (fun hc => ?_)
  · replace hq := if_y hc hq
    refine lv_aload_n hx hb dX12_combine_14 rfl (lv_at hl 0 rfl) ?_
    refine lv_iconst (v := 1) hx hb dX12_combine_15 (by decide) ?_
    obtain ⟨r3, M2, hg, hq⟩ := bnd2_e hq
    refine m_calli (As := [.int 1]) (rest := []) B hW hl.1 (c_fails M1 1 hg) mC_fails rfl ⟨by decide, by decide⟩ rfl (Nat.le_of_ble_eq_true rfl) dX12_combine_16 (fun H locs hW => ?_)
    clear hg
    exact m_iret B hW hq dX12_combine_19
  · replace hq := if_n hc hq
    refine lv_iload_n hx hb dX12_combine_9 rfl (lv_at hl 1 rfl) ?_
    refine lv_iconst (v := 3) hx hb dX12_combine_10 (by decide) ?_
    refine lv_icmp_le (tgt := 20) hx hb dX12_combine_11 (by decide) (fun hc => ?_) (fun hc => ?_)
    · replace hq := if_y hc hq
      refine lv_aload_n hx hb dX12_combine_20 rfl (lv_at hl 0 rfl) ?_
      refine lv_bipush (v := 8) hx hb dX12_combine_21 (by decide) ?_
      refine lv_iconst (v := 2) hx hb dX12_combine_23 (by decide) ?_
      refine lv_aload_n hx hb dX12_combine_24 rfl (lv_at hl 0 rfl) ?_
      refine m_get B hW 38 (by decide) u_880 (v := .int (M1 38 0)) rfl dX12_combine_25 ?_
      refine lv_imul hx hb dX12_combine_28 ?_
      refine lv_iadd hx hb dX12_combine_29 ?_
      obtain ⟨r5, M4, hg, hq⟩ := bnd2_e hq
      refine m_calli (As := [.int (8 + (2 * (M1 38 0)))]) (rest := []) B hW hl.1 (c_isFull M1 (8 + (2 * (M1 38 0))) hg) mC_isFull rfl ⟨by decide, by decide⟩ rfl (Nat.le_of_ble_eq_true rfl) dX12_combine_30 (fun H locs hW => ?_)
      clear hg
      refine lv_if_eq (tgt := 42) hx hb dX12_combine_33 (by decide) (fun hc => ?_) (fun hc => ?_)
      · replace hq := if_y hc hq
        refine lv_aload_n hx hb dX12_combine_42 rfl (lv_at hl 0 rfl) ?_
        obtain ⟨r7, M6, hg, hq⟩ := bnd2_e hq
        refine m_calli (As := []) (rest := []) B hW hl.1 (c_capability M4 hg) mC_capability rfl ⟨by decide, by decide⟩ rfl (Nat.le_of_ble_eq_true rfl) dX12_combine_43 (fun H locs hW => ?_)
        clear hg
        refine lv_istore_n (lv' := [(2, .int r7), (0, .ref G.2.2.1), (1, .int p1)]) hx hb dX12_combine_46 rfl hl (by decide) rfl (fun ls hl => ?_)
        refine lv_aload_n hx hb dX12_combine_47 rfl (lv_at hl 1 rfl) ?_
        obtain ⟨r9, M8, hg, hq⟩ := bnd2_e hq
        refine m_calli (As := []) (rest := []) B hW hl.1 (c_group n M6 hg) mC_group rfl ⟨by decide, by decide⟩ rfl (Nat.le_of_ble_eq_true rfl) dX12_combine_48 (fun H locs hW => ?_)
        clear hg
        refine lv_istore_n (lv' := [(3, .int r9), (2, .int r7), (0, .ref G.2.2.1), (1, .int p1)]) hx hb dX12_combine_51 rfl hl (by decide) rfl (fun ls hl => ?_)
        refine lv_aload_n hx hb dX12_combine_52 rfl (lv_at hl 2 rfl) ?_
        refine m_get B hW 46 (by decide) u_888 (v := .ref (G.2.2.2 46)) rfl dX12_combine_53 ?_
        refine lv_iload_n hx hb dX12_combine_56 rfl (lv_at hl 0 rfl) ?_
        refine lv_iload_n hx hb dX12_combine_57 rfl (lv_at hl 1 rfl) ?_
        obtain ⟨hc, hq⟩ := chk_e hq
        refine m_iast B hW mA_46 hc dX12_combine_58 (fun H locs M10 eM hW => ?_)
        replace hq := lt9_u eM hq
        clear eM
        refine lv_aload_n hx hb dX12_combine_59 rfl (lv_at hl 2 rfl) ?_
        refine m_get B hW 45 (by decide) u_887 (v := .ref (G.2.2.2 45)) rfl dX12_combine_60 ?_
        refine lv_iload_n hx hb dX12_combine_63 rfl (lv_at hl 0 rfl) ?_
        refine lv_iconst (v := 1) hx hb dX12_combine_64 (by decide) ?_
        obtain ⟨hc, hq⟩ := chk_e hq
        refine m_iast B hW mA_45 hc dX12_combine_65 (fun H locs M11 eM hW => ?_)
        replace hq := lt9_u eM hq
        clear eM
        refine lv_iconst (v := 0) hx hb dX12_combine_66 (by decide) ?_
        refine lv_istore (lv' := [(4, .int 0), (3, .int r9), (2, .int r7), (0, .ref G.2.2.1), (1, .int p1)]) hx hb dX12_combine_67 hl (by decide) rfl (fun ls hl => ?_)
        exact k_combine_69 B n M11 p1 r7 r9 0 hq _ _ ls hW (lv_sub hl [3, 4, 2, 1, 0] rfl)
      · replace hq := if_n hc hq
        refine lv_aload_n hx hb dX12_combine_36 rfl (lv_at hl 0 rfl) ?_
        refine lv_iconst (v := 2) hx hb dX12_combine_37 (by decide) ?_
        obtain ⟨r36, M35, hg, hq⟩ := bnd2_e hq
        refine m_calli (As := [.int 2]) (rest := []) B hW hl.1 (c_fails M4 2 hg) mC_fails rfl ⟨by decide, by decide⟩ rfl (Nat.le_of_ble_eq_true rfl) dX12_combine_38 (fun H locs hW => ?_)
        clear hg
        exact m_iret B hW hq dX12_combine_41
    · replace hq := if_n hc hq
      refine lv_aload_n hx hb dX12_combine_14 rfl (lv_at hl 0 rfl) ?_
      refine lv_iconst (v := 1) hx hb dX12_combine_15 (by decide) ?_
      obtain ⟨r38, M37, hg, hq⟩ := bnd2_e hq
      refine m_calli (As := [.int 1]) (rest := []) B hW hl.1 (c_fails M1 1 hg) mC_fails rfl ⟨by decide, by decide⟩ rfl (Nat.le_of_ble_eq_true rfl) dX12_combine_16 (fun H locs hW => ?_)
      clear hg
      exact m_iret B hW hq dX12_combine_19
end
section
set_option maxHeartbeats 4000000 in
set_option maxRecDepth 100000 in
theorem c_goOn {l : Launch} {D : va_G} {A : Nat → Prop} {G : MG} (n : Nat) (M : MS) (p1 : Int32) {M' : MS} (hq : q_goOn n M p1 = some M') : Met l yX12_goOn (wM yX12_goOn prog_14_method_30_code 3 none) (rM 4 93) (va_Pc [.ref G.2.2.1, .int p1] (mPre D A G M)) (mQv D A G M') 0 0 A := by
  refine m_head (by decide) rfl (Nat.le_of_ble_eq_true rfl) ?_
  intro p e s m args below meth c ls B hW hl
  have hx := B.1
  have hb := B.2.1
  have hl : lv_has ls 3 [(0, .ref G.2.2.1), (1, .int p1)] := hl
  unfold q_goOn at hq
  refine lv_aload_n hx hb dX12_goOn_0 rfl (lv_at hl 0 rfl) ?_
  refine m_get B hW 49 (by decide) u_891 (v := .ref (G.2.2.2 49)) rfl dX12_goOn_1 ?_
  refine lv_iload_n hx hb dX12_goOn_4 rfl (lv_at hl 1 rfl) ?_
  obtain ⟨hc, hq⟩ := chk_e hq
  refine m_iald B hW mA_49 hc dX12_goOn_5 ?_
  refine lv_aload_n hx hb dX12_goOn_6 rfl (lv_at hl 0 rfl) ?_
  refine m_get B hW 44 (by decide) u_886 (v := .ref (G.2.2.2 44)) rfl dX12_goOn_7 ?_
  refine lv_iload_n hx hb dX12_goOn_10 rfl (lv_at hl 1 rfl) ?_
  obtain ⟨hc, hq⟩ := chk_e hq
  refine m_iald B hW mA_44 hc dX12_goOn_11 ?_
  refine lv_icmp_ne (tgt := 32) hx hb dX12_goOn_12 (by decide) (fun hc => ?_) (fun hc => ?_)
  · replace hq := if_n hc hq
    refine lv_aload_n hx hb dX12_goOn_32 rfl (lv_at hl 0 rfl) ?_
    refine m_get B hW 39 (by decide) u_881 (v := .ref (G.2.2.2 39)) rfl dX12_goOn_33 ?_
    refine lv_aload_n hx hb dX12_goOn_36 rfl (lv_at hl 0 rfl) ?_
    refine m_get B hW 43 (by decide) u_885 (v := .ref (G.2.2.2 43)) rfl dX12_goOn_37 ?_
    refine lv_iload_n hx hb dX12_goOn_40 rfl (lv_at hl 1 rfl) ?_
    obtain ⟨hc, hq⟩ := chk_e hq
    refine m_iald B hW mA_43 hc dX12_goOn_41 ?_
    refine lv_aload_n hx hb dX12_goOn_42 rfl (lv_at hl 0 rfl) ?_
    refine m_get B hW 49 (by decide) u_891 (v := .ref (G.2.2.2 49)) rfl dX12_goOn_43 ?_
    refine lv_iload_n hx hb dX12_goOn_46 rfl (lv_at hl 1 rfl) ?_
    obtain ⟨hc, hq⟩ := chk_e hq
    refine m_iald B hW mA_49 hc dX12_goOn_47 ?_
    refine lv_iadd hx hb dX12_goOn_48 ?_
    obtain ⟨hc, hq⟩ := chk_e hq
    refine m_iald B hW mA_39 hc dX12_goOn_49 ?_
    refine lv_istore_n (lv' := [(2, .int (M 39 ((M 43 p1.toNatClampNeg) + (M 49 p1.toNatClampNeg)).toNatClampNeg)), (0, .ref G.2.2.1), (1, .int p1)]) hx hb dX12_goOn_50 rfl hl (by decide) rfl (fun ls hl => ?_)
    refine lv_aload_n hx hb dX12_goOn_51 rfl (lv_at hl 1 rfl) ?_
    refine m_get B hW 49 (by decide) u_891 (v := .ref (G.2.2.2 49)) rfl dX12_goOn_52 ?_
    refine lv_iload_n hx hb dX12_goOn_55 rfl (lv_at hl 2 rfl) ?_
    refine lv_dup2_11 hx hb dX12_goOn_56 rfl rfl ?_
    obtain ⟨hc, hq⟩ := chk_e hq
    refine m_iald B hW mA_49 hc dX12_goOn_57 ?_
    refine lv_iconst (v := 1) hx hb dX12_goOn_58 (by decide) ?_
    refine lv_iadd hx hb dX12_goOn_59 ?_
    obtain ⟨hc, hq⟩ := chk_e hq
    refine m_iast B hW mA_49 hc dX12_goOn_60 (fun H locs M1 eM hW => ?_)
    replace hq := lt9_u eM hq
    clear eM
    refine lv_aload_n hx hb dX12_goOn_61 rfl (lv_at hl 1 rfl) ?_
    refine lv_aload_n hx hb dX12_goOn_62 rfl (lv_at hl 1 rfl) ?_
    refine lv_iload_n hx hb dX12_goOn_63 rfl (lv_at hl 0 rfl) ?_
    obtain ⟨r3, M2, hg, hq⟩ := bnd2_e hq
    refine m_calli (As := [.int (M 39 ((M 43 p1.toNatClampNeg) + (M 49 p1.toNatClampNeg)).toNatClampNeg)]) (rest := [.ref G.2.2.1]) B hW hl.1 (c_promiseOf n M1 (M 39 ((M 43 p1.toNatClampNeg) + (M 49 p1.toNatClampNeg)).toNatClampNeg) hg) mC_promiseOf rfl ⟨by decide, by decide⟩ rfl (Nat.le_of_ble_eq_true rfl) dX12_goOn_64 (fun H locs hW => ?_)
    clear hg
    refine lv_bipush (v := 12) hx hb dX12_goOn_67 (by decide) ?_
    refine lv_iload_n hx hb dX12_goOn_69 rfl (lv_at hl 2 rfl) ?_
    refine lv_bipush (v := 13) hx hb dX12_goOn_70 (by decide) ?_
    refine lv_iload_n hx hb dX12_goOn_72 rfl (lv_at hl 2 rfl) ?_
    refine lv_iconst (v := (-1)) hx hb dX12_goOn_73 (by decide) ?_
    obtain ⟨M4, hg, hq⟩ := bnd_e hq
    refine m_callv (As := [.int r3, .int 12, .int p1, .int 13, .int p1, .int (-1)]) (rest := []) B hW hl.1 (c_performThen n M2 r3 12 p1 13 p1 (-1) hg) mC_performThen rfl ⟨by decide, by decide⟩ rfl (Nat.le_of_ble_eq_true rfl) dX12_goOn_74 (fun H locs hW => ?_)
    clear hg
    exact m_vret B hW hq dX12_goOn_77
  · replace hq := if_y hc hq
    refine lv_aload_n hx hb dX12_goOn_15 rfl (lv_at hl 0 rfl) ?_
    refine lv_aload_n hx hb dX12_goOn_16 rfl (lv_at hl 0 rfl) ?_
    refine m_get B hW 46 (by decide) u_888 (v := .ref (G.2.2.2 46)) rfl dX12_goOn_17 ?_
    refine lv_iload_n hx hb dX12_goOn_20 rfl (lv_at hl 1 rfl) ?_
    obtain ⟨hc, hq⟩ := chk_e hq
    refine m_iald B hW mA_46 hc dX12_goOn_21 ?_
    refine lv_aload_n hx hb dX12_goOn_22 rfl (lv_at hl 0 rfl) ?_
    refine m_get B hW 47 (by decide) u_889 (v := .ref (G.2.2.2 47)) rfl dX12_goOn_23 ?_
    refine lv_iload_n hx hb dX12_goOn_26 rfl (lv_at hl 1 rfl) ?_
    obtain ⟨hc, hq⟩ := chk_e hq
    refine m_iald B hW mA_47 hc dX12_goOn_27 ?_
    obtain ⟨M5, hg, hq⟩ := bnd_e hq
    refine m_callv (As := [.int (M 46 p1.toNatClampNeg), .int (M 47 p1.toNatClampNeg)]) (rest := []) B hW hl.1 (c_resolve n M (M 46 p1.toNatClampNeg) (M 47 p1.toNatClampNeg) hg) mC_resolve rfl ⟨by decide, by decide⟩ rfl (Nat.le_of_ble_eq_true rfl) dX12_goOn_28 (fun H locs hW => ?_)
    clear hg
    exact m_vret B hW hq dX12_goOn_31
theorem mC_goOn : mC yX12_goOn prog_14_method_30_code 3 none 244 1 := ⟨fun _ => g_V u_1135 u_1137 us_59 u_5 u_1138, by decide +kernel⟩
set_option maxHeartbeats 4000000 in
set_option maxRecDepth 100000 in
theorem k_async_32 {p : Program} {l : Launch} {e : Env} {s : State} {m : MethodId} {args : Array Value} {below : List Frame} {meth : Method} {c : Code} {D : va_G} {A : Nat → Prop} {G : MG} {r : Int32} {M' : MS} (B : mB p s m args meth c D G prog_14_method_45_code 5 (some .int) (Cond.code yX12_async prog_14_method_45_code 5 (some .int))) :
    ∀ (n : Nat) (M : MS) (v1 v2 : Int32), q_async_32 n M v1 v2 = some (r, M') → ∀ (H : Heap) (locs : List Loc) (ls : Array Slot), mOK D A G M s.heap H locs → lv_has ls 5 [(0, .ref G.2.2.1), (1, .int v1), (2, .int v2)] → W p l e (rM 5 115) s m args below meth c H locs 0 0 (MQ below (mQi D A G r M') args s 0 0 A) (F0 m 32 ls []) := by
  have hx := B.1
  have hb := B.2.1
  intro n M v1 v2 hq _ _ ls hW hl
  unfold q_async_32 at hq
  refine lv_aload_n hx hb dX12_async_32 rfl (lv_at hl 0 rfl) ?_
  refine lv_bipush (v := 8) hx hb dX12_async_33 (by decide) ?_
  obtain ⟨r7, M6, hg, hq⟩ := bnd2_e hq
  refine m_calli (As := [.int 8]) (rest := []) B hW hl.1 (c_isFull M 8 hg) mC_isFull rfl ⟨by decide, by decide⟩ rfl (Nat.le_of_ble_eq_true rfl) dX12_async_35 (fun H locs hW => ?_)
  clear hg
  refine lv_if_eq (tgt := 47) hx hb dX12_async_38 (by decide) (fun hc => ?_) (fun hc => ?_)
  · replace hq := if_y hc hq
    refine lv_aload_n hx hb dX12_async_47 rfl (lv_at hl 0 rfl) ?_
    obtain ⟨r9, M8, hg, hq⟩ := bnd2_e hq
    refine m_calli (As := []) (rest := []) B hW hl.1 (c_capability M6 hg) mC_capability rfl ⟨by decide, by decide⟩ rfl (Nat.le_of_ble_eq_true rfl) dX12_async_48 (fun H locs hW => ?_)
    clear hg
    refine lv_istore_n (lv' := [(3, .int r9), (0, .ref G.2.2.1), (1, .int v1), (2, .int v2)]) hx hb dX12_async_51 rfl hl (by decide) rfl (fun ls hl => ?_)
    refine lv_aload_n hx hb dX12_async_52 rfl (lv_at hl 1 rfl) ?_
    obtain ⟨r11, M10, hg, hq⟩ := bnd2_e hq
    refine m_calli (As := []) (rest := []) B hW hl.1 (c_group n M8 hg) mC_group rfl ⟨by decide, by decide⟩ rfl (Nat.le_of_ble_eq_true rfl) dX12_async_53 (fun H locs hW => ?_)
    clear hg
    refine lv_istore (lv' := [(4, .int r11), (3, .int r9), (0, .ref G.2.2.1), (1, .int v1), (2, .int v2)]) hx hb dX12_async_56 hl (by decide) rfl (fun ls hl => ?_)
    refine lv_aload_n hx hb dX12_async_58 rfl (lv_at hl 2 rfl) ?_
    refine m_get B hW 46 (by decide) u_888 (v := .ref (G.2.2.2 46)) rfl dX12_async_59 ?_
    refine lv_iload hx hb dX12_async_62 (lv_at hl 0 rfl) ?_
    refine lv_iload_n hx hb dX12_async_64 rfl (lv_at hl 1 rfl) ?_
    obtain ⟨hc, hq⟩ := chk_e hq
    refine m_iast B hW mA_46 hc dX12_async_65 (fun H locs M12 eM hW => ?_)
    replace hq := lt9_u eM hq
    clear eM
    refine lv_aload_n hx hb dX12_async_66 rfl (lv_at hl 2 rfl) ?_
    refine m_get B hW 49 (by decide) u_891 (v := .ref (G.2.2.2 49)) rfl dX12_async_67 ?_
    refine lv_iload hx hb dX12_async_70 (lv_at hl 0 rfl) ?_
    refine lv_iconst (v := 0) hx hb dX12_async_72 (by decide) ?_
    obtain ⟨hc, hq⟩ := chk_e hq
    refine m_iast B hW mA_49 hc dX12_async_73 (fun H locs M13 eM hW => ?_)
    replace hq := lt9_u eM hq
    clear eM
    refine lv_aload_n hx hb dX12_async_74 rfl (lv_at hl 2 rfl) ?_
    refine m_get B hW 47 (by decide) u_889 (v := .ref (G.2.2.2 47)) rfl dX12_async_75 ?_
    refine lv_iload hx hb dX12_async_78 (lv_at hl 0 rfl) ?_
    refine lv_iload_n hx hb dX12_async_80 rfl (lv_at hl 3 rfl) ?_
    obtain ⟨hc, hq⟩ := chk_e hq
    refine m_iast B hW mA_47 hc dX12_async_81 (fun H locs M14 eM hW => ?_)
    replace hq := lt9_u eM hq
    clear eM
    refine lv_aload_n hx hb dX12_async_82 rfl (lv_at hl 2 rfl) ?_
    refine m_get B hW 48 (by decide) u_890 (v := .ref (G.2.2.2 48)) rfl dX12_async_83 ?_
    refine lv_iload hx hb dX12_async_86 (lv_at hl 0 rfl) ?_
    refine lv_iload_n hx hb dX12_async_88 rfl (lv_at hl 4 rfl) ?_
    obtain ⟨hc, hq⟩ := chk_e hq
    refine m_iast B hW mA_48 hc dX12_async_89 (fun H locs M15 eM hW => ?_)
    replace hq := lt9_u eM hq
    clear eM
    refine lv_aload_n hx hb dX12_async_90 rfl (lv_at hl 2 rfl) ?_
    refine lv_iload hx hb dX12_async_91 (lv_at hl 0 rfl) ?_
    obtain ⟨M16, hg, hq⟩ := bnd_e hq
    refine m_callv (As := [.int r11]) (rest := []) B hW hl.1 (c_goOn n M15 r11 hg) mC_goOn rfl ⟨by decide, by decide⟩ rfl (Nat.le_of_ble_eq_true rfl) dX12_async_93 (fun H locs hW => ?_)
    clear hg
    refine lv_aload_n hx hb dX12_async_96 rfl (lv_at hl 2 rfl) ?_
    refine m_get B hW 13 (by decide) u_855 (v := .ref (G.2.2.2 13)) rfl dX12_async_97 ?_
    refine lv_iload_n hx hb dX12_async_100 rfl (lv_at hl 1 rfl) ?_
    obtain ⟨hc, hq⟩ := chk_e hq
    refine m_iald B hW mA_13 hc dX12_async_101 ?_
    refine m_valueOf (rest := []) B hW hl.1 ⟨by decide, by decide⟩ (Nat.le_of_ble_eq_true rfl) dX12_async_102 (fun H locs hW => ?_)
    exact m_iret B hW hq dX12_async_105
  · replace hq := if_n hc hq
    refine lv_aload_n hx hb dX12_async_41 rfl (lv_at hl 0 rfl) ?_
    refine lv_iconst (v := 2) hx hb dX12_async_42 (by decide) ?_
    obtain ⟨r18, M17, hg, hq⟩ := bnd2_e hq
    refine m_calli (As := [.int 2]) (rest := []) B hW hl.1 (c_fails M6 2 hg) mC_fails rfl ⟨by decide, by decide⟩ rfl (Nat.le_of_ble_eq_true rfl) dX12_async_43 (fun H locs hW => ?_)
    clear hg
    exact m_iret B hW hq dX12_async_46
set_option maxHeartbeats 4000000 in
set_option maxRecDepth 100000 in
theorem c_async {l : Launch} {D : va_G} {A : Nat → Prop} {G : MG} (n : Nat) (M : MS) (p1 p2 : Int32) {r : Int32} {M' : MS} (hq : q_async n M p1 p2 = some (r, M')) : Met l yX12_async (wM yX12_async prog_14_method_45_code 5 (some .int)) (rM 5 115) (va_Pc [.ref G.2.2.1, .int p1, .int p2] (mPre D A G M)) (mQi D A G r M') 0 0 A := by
  refine m_head (by decide) rfl (Nat.le_of_ble_eq_true rfl) ?_
  intro p e s m args below meth c ls B hW hl
  have hx := B.1
  have hb := B.2.1
  have hl : lv_has ls 5 [(0, .ref G.2.2.1), (1, .int p1), (2, .int p2)] := hl
  unfold q_async at hq
  refine lv_aload_n hx hb dX12_async_0 rfl (lv_at hl 0 rfl) ?_
  refine lv_iconst (v := 0) hx hb dX12_async_1 (by decide) ?_
  refine m_put B hW 0 (by decide) u_842 mS_0 rfl (ty := .int) (tyX12_ok 0 (by decide)) rfl rfl (Nat.le_of_ble_eq_true rfl) dX12_async_2 (fun H locs M1 eM hW => ?_)
  replace hq := lt9_u eM hq
  clear eM
  refine lv_aload_n hx hb dX12_async_5 rfl (lv_at hl 0 rfl) ?_
  refine lv_iload_n hx hb dX12_async_6 rfl (lv_at hl 1 rfl) ?_
  obtain ⟨r3, M2, hg, hq⟩ := bnd2_e hq
  refine m_calli (As := [.int p1]) (rest := []) B hW hl.1 (c_isValue M1 p1 hg) mC_isValue rfl ⟨by decide, by decide⟩ rfl (Nat.le_of_ble_eq_true rfl) dX12_async_7 (fun H locs hW => ?_)
  clear hg
  refine lv_if_eq (tgt := 26) hx hb dX12_async_10 (by decide) (fun hc => ?_) (fun hc => ?_)
  · replace hq := if_y hc hq
    refine lv_aload_n hx hb dX12_async_26 rfl (lv_at hl 0 rfl) ?_
    refine lv_iconst (v := 1) hx hb dX12_async_27 (by decide) ?_
    obtain ⟨r5, M4, hg, hq⟩ := bnd2_e hq
    refine m_calli (As := [.int 1]) (rest := []) B hW hl.1 (c_fails M2 1 hg) mC_fails rfl ⟨by decide, by decide⟩ rfl (Nat.le_of_ble_eq_true rfl) dX12_async_28 (fun H locs hW => ?_)
    clear hg
    exact m_iret B hW hq dX12_async_31
  · replace hq := if_n hc hq
    refine lv_iload_n hx hb dX12_async_13 rfl (lv_at hl 2 rfl) ?_
    refine lv_iconst (v := (-1)) hx hb dX12_async_14 (by decide) ?_
    refine lv_icmp_eq (tgt := 32) hx hb dX12_async_15 (by decide) (fun hc => ?_) (fun hc => ?_)
    · replace hq := if_y hc hq
      exact k_async_32 B n M2 p1 p2 hq _ _ ls hW (lv_sub hl [0, 1, 2] rfl)
    · replace hq := if_n hc hq
      refine lv_aload_n hx hb dX12_async_18 rfl (lv_at hl 0 rfl) ?_
      refine lv_iload_n hx hb dX12_async_19 rfl (lv_at hl 2 rfl) ?_
      obtain ⟨r20, M19, hg, hq⟩ := bnd2_e hq
      refine m_calli (As := [.int p2]) (rest := []) B hW hl.1 (c_isHandler M2 p2 hg) mC_isHandler rfl ⟨by decide, by decide⟩ rfl (Nat.le_of_ble_eq_true rfl) dX12_async_20 (fun H locs hW => ?_)
      clear hg
      refine lv_if_ne (tgt := 32) hx hb dX12_async_23 (by decide) (fun hc => ?_) (fun hc => ?_)
      · replace hq := if_n hc hq
        exact k_async_32 B n M19 p1 p2 hq _ _ ls hW (lv_sub hl [0, 1, 2] rfl)
      · replace hq := if_y hc hq
        refine lv_aload_n hx hb dX12_async_26 rfl (lv_at hl 0 rfl) ?_
        refine lv_iconst (v := 1) hx hb dX12_async_27 (by decide) ?_
        obtain ⟨r22, M21, hg, hq⟩ := bnd2_e hq
        refine m_calli (As := [.int 1]) (rest := []) B hW hl.1 (c_fails M19 1 hg) mC_fails rfl ⟨by decide, by decide⟩ rfl (Nat.le_of_ble_eq_true rfl) dX12_async_28 (fun H locs hW => ?_)
        clear hg
        exact m_iret B hW hq dX12_async_31
set_option maxHeartbeats 4000000 in
set_option maxRecDepth 100000 in
theorem k_element_86 {p : Program} {l : Launch} {e : Env} {s : State} {m : MethodId} {args : Array Value} {below : List Frame} {meth : Method} {c : Code} {D : va_G} {A : Nat → Prop} {G : MG} {M' : MS} (B : mB p s m args meth c D G prog_14_method_25_code 6 none (Cond.code yX12_element prog_14_method_25_code 6 none)) :
    ∀ (n : Nat) (M : MS) (v1 v4 : Int32), q_element_86 n M v1 v4 = some M' → ∀ (H : Heap) (locs : List Loc) (ls : Array Slot), mOK D A G M s.heap H locs → lv_has ls 6 [(0, .ref G.2.2.1), (1, .int v1), (4, .int v4)] → W p l e (rM 4 94) s m args below meth c H locs 0 0 (MQ below (mQv D A G M') args s 0 0 A) (F0 m 86 ls []) := by
  have hx := B.1
  have hb := B.2.1
  intro n M v1 v4 hq _ _ ls hW hl
  unfold q_element_86 at hq
  refine lv_aload_n hx hb dX12_element_86 rfl (lv_at hl 0 rfl) ?_
  refine m_get B hW 45 (by decide) u_887 (v := .ref (G.2.2.2 45)) rfl dX12_element_87 ?_
  refine lv_iload hx hb dX12_element_90 (lv_at hl 2 rfl) ?_
  refine lv_dup2_11 hx hb dX12_element_92 rfl rfl ?_
  obtain ⟨hc, hq⟩ := chk_e hq
  refine m_iald B hW mA_45 hc dX12_element_93 ?_
  refine lv_iconst (v := 1) hx hb dX12_element_94 (by decide) ?_
  refine lv_isub hx hb dX12_element_95 ?_
  obtain ⟨hc, hq⟩ := chk_e hq
  refine m_iast B hW mA_45 hc dX12_element_96 (fun H locs M8 eM hW => ?_)
  replace hq := lt9_u eM hq
  clear eM
  refine lv_aload_n hx hb dX12_element_97 rfl (lv_at hl 0 rfl) ?_
  refine m_get B hW 45 (by decide) u_887 (v := .ref (G.2.2.2 45)) rfl dX12_element_98 ?_
  refine lv_iload hx hb dX12_element_101 (lv_at hl 2 rfl) ?_
  obtain ⟨hc, hq⟩ := chk_e hq
  refine m_iald B hW mA_45 hc dX12_element_103 ?_
  refine lv_if_ne (tgt := 124) hx hb dX12_element_104 (by decide) (fun hc => ?_) (fun hc => ?_)
  · replace hq := if_n hc hq
    exact m_vret B hW hq dX12_element_124
  · replace hq := if_y hc hq
    refine lv_aload_n hx hb dX12_element_107 rfl (lv_at hl 0 rfl) ?_
    refine lv_iload hx hb dX12_element_108 (lv_at hl 2 rfl) ?_
    refine lv_iload_n hx hb dX12_element_110 rfl (lv_at hl 1 rfl) ?_
    refine lv_bipush (v := 7) hx hb dX12_element_111 (by decide) ?_
    refine lv_icmp_ne (tgt := 120) hx hb dX12_element_113 (by decide) (fun hc => ?_) (fun hc => ?_)
    · replace hq := if_n hc hq
      refine lv_iconst (v := 0) hx hb dX12_element_120 (by decide) ?_
      obtain ⟨M9, hg, hq⟩ := bnd_e hq
      refine m_callv (As := [.int v4, .int 0]) (rest := []) B hW hl.1 (c_finish n M8 v4 0 hg) mC_finish rfl ⟨by decide, by decide⟩ rfl (Nat.le_of_ble_eq_true rfl) dX12_element_121 (fun H locs hW => ?_)
      clear hg
      exact m_vret B hW hq dX12_element_124
    · replace hq := if_y hc hq
      refine lv_iconst (v := 1) hx hb dX12_element_116 (by decide) ?_
      refine lv_goto (tgt := 121) hx hb dX12_element_117 (by decide) ?_
      obtain ⟨M10, hg, hq⟩ := bnd_e hq
      refine m_callv (As := [.int v4, .int 1]) (rest := []) B hW hl.1 (c_finish n M8 v4 1 hg) mC_finish rfl ⟨by decide, by decide⟩ rfl (Nat.le_of_ble_eq_true rfl) dX12_element_121 (fun H locs hW => ?_)
      clear hg
      exact m_vret B hW hq dX12_element_124
set_option maxHeartbeats 4000000 in
set_option maxRecDepth 100000 in
theorem k_element_66 {p : Program} {l : Launch} {e : Env} {s : State} {m : MethodId} {args : Array Value} {below : List Frame} {meth : Method} {c : Code} {D : va_G} {A : Nat → Prop} {G : MG} {M' : MS} (B : mB p s m args meth c D G prog_14_method_25_code 6 none (Cond.code yX12_element prog_14_method_25_code 6 none)) :
    ∀ (n : Nat) (M : MS) (v1 v2 v3 v4 v5 z0 z1 : Int32), q_element_66 n M v1 v2 v3 v4 v5 z0 z1 = some M' → ∀ (H : Heap) (locs : List Loc) (ls : Array Slot), mOK D A G M s.heap H locs → lv_has ls 6 [(0, .ref G.2.2.1), (1, .int v1), (2, .int v2), (3, .int v3), (4, .int v4), (5, .int v5)] → W p l e (rM 4 94) s m args below meth c H locs 0 0 (MQ below (mQv D A G M') args s 0 0 A) (F0 m 66 ls [.int z0, .int z1, .ref (G.2.2.2 8)]) := by
  have hx := B.1
  have hb := B.2.1
  intro n M v1 v2 v3 v4 v5 z0 z1 hq _ _ ls hW hl
  unfold q_element_66 at hq
  obtain ⟨hc, hq⟩ := chk_e hq
  refine m_iast B hW mA_8 hc dX12_element_66 (fun H locs M5 eM hW => ?_)
  replace hq := lt9_u eM hq
  clear eM
  refine lv_aload_n hx hb dX12_element_67 rfl (lv_at hl 0 rfl) ?_
  refine m_get B hW 9 (by decide) u_851 (v := .ref (G.2.2.2 9)) rfl dX12_element_68 ?_
  refine lv_iload hx hb dX12_element_71 (lv_at hl 5 rfl) ?_
  refine lv_iload_n hx hb dX12_element_73 rfl (lv_at hl 3 rfl) ?_
  obtain ⟨hc, hq⟩ := chk_e hq
  refine m_iast B hW mA_9 hc dX12_element_74 (fun H locs M6 eM hW => ?_)
  replace hq := lt9_u eM hq
  clear eM
  refine lv_aload_n hx hb dX12_element_75 rfl (lv_at hl 0 rfl) ?_
  refine m_get B hW 39 (by decide) u_881 (v := .ref (G.2.2.2 39)) rfl dX12_element_76 ?_
  refine lv_iload_n hx hb dX12_element_79 rfl (lv_at hl 2 rfl) ?_
  refine lv_iload hx hb dX12_element_80 (lv_at hl 5 rfl) ?_
  refine m_valueOf (rest := [.int v2, .ref (G.2.2.2 39)]) B hW hl.1 ⟨by decide, by decide⟩ (Nat.le_of_ble_eq_true rfl) dX12_element_82 (fun H locs hW => ?_)
  obtain ⟨hc, hq⟩ := chk_e hq
  refine m_iast B hW mA_39 hc dX12_element_85 (fun H locs M7 eM hW => ?_)
  replace hq := lt9_u eM hq
  clear eM
  exact k_element_86 B n M7 v1 v4 hq _ _ ls hW (lv_sub hl [0, 1, 4] rfl)
set_option maxHeartbeats 4000000 in
set_option maxRecDepth 100000 in
theorem k_element_43 {p : Program} {l : Launch} {e : Env} {s : State} {m : MethodId} {args : Array Value} {below : List Frame} {meth : Method} {c : Code} {D : va_G} {A : Nat → Prop} {G : MG} {M' : MS} (B : mB p s m args meth c D G prog_14_method_25_code 6 none (Cond.code yX12_element prog_14_method_25_code 6 none)) :
    ∀ (n : Nat) (M : MS) (v1 v2 v3 v4 : Int32), q_element_43 n M v1 v2 v3 v4 = some M' → ∀ (H : Heap) (locs : List Loc) (ls : Array Slot), mOK D A G M s.heap H locs → lv_has ls 6 [(0, .ref G.2.2.1), (1, .int v1), (2, .int v2), (3, .int v3), (4, .int v4)] → W p l e (rM 4 94) s m args below meth c H locs 0 0 (MQ below (mQv D A G M') args s 0 0 A) (F0 m 43 ls []) := by
  have hx := B.1
  have hb := B.2.1
  intro n M v1 v2 v3 v4 hq _ _ ls hW hl
  unfold q_element_43 at hq
  refine lv_aload_n hx hb dX12_element_43 rfl (lv_at hl 0 rfl) ?_
  refine lv_iconst (v := 5) hx hb dX12_element_44 (by decide) ?_
  obtain ⟨r4, M3, hg, hq⟩ := bnd2_e hq
  refine m_calli (As := [.int 5]) (rest := []) B hW hl.1 (c_newObject M 5 hg) mC_newObject rfl ⟨by decide, by decide⟩ rfl (Nat.le_of_ble_eq_true rfl) dX12_element_45 (fun H locs hW => ?_)
  clear hg
  refine lv_istore (lv' := [(5, .int r4), (0, .ref G.2.2.1), (1, .int v1), (2, .int v2), (3, .int v3), (4, .int v4)]) hx hb dX12_element_48 hl (by decide) rfl (fun ls hl => ?_)
  refine lv_aload_n hx hb dX12_element_50 rfl (lv_at hl 1 rfl) ?_
  refine m_get B hW 8 (by decide) u_850 (v := .ref (G.2.2.2 8)) rfl dX12_element_51 ?_
  refine lv_iload hx hb dX12_element_54 (lv_at hl 0 rfl) ?_
  refine lv_iload_n hx hb dX12_element_56 rfl (lv_at hl 2 rfl) ?_
  refine lv_iconst (v := 5) hx hb dX12_element_57 (by decide) ?_
  refine lv_icmp_ne (tgt := 65) hx hb dX12_element_58 (by decide) (fun hc => ?_) (fun hc => ?_)
  · replace hq := if_n hc hq
    refine lv_iconst (v := 0) hx hb dX12_element_65 (by decide) ?_
    exact k_element_66 B n M3 v1 v2 v3 v4 r4 0 r4 hq _ _ ls hW (lv_sub hl [1, 2, 3, 4, 5, 0] rfl)
  · replace hq := if_y hc hq
    refine lv_iconst (v := 1) hx hb dX12_element_61 (by decide) ?_
    refine lv_goto (tgt := 66) hx hb dX12_element_62 (by decide) ?_
    exact k_element_66 B n M3 v1 v2 v3 v4 r4 1 r4 hq _ _ ls hW (lv_sub hl [1, 2, 3, 4, 5, 0] rfl)
set_option maxHeartbeats 4000000 in
set_option maxRecDepth 100000 in
theorem c_element {l : Launch} {D : va_G} {A : Nat → Prop} {G : MG} (n : Nat) (M : MS) (p1 p2 p3 : Int32) {M' : MS} (hq : q_element n M p1 p2 p3 = some M') : Met l yX12_element (wM yX12_element prog_14_method_25_code 6 none) (rM 4 94) (va_Pc [.ref G.2.2.1, .int p1, .int p2, .int p3] (mPre D A G M)) (mQv D A G M') 0 0 A := by
  refine m_head (by decide) rfl (Nat.le_of_ble_eq_true rfl) ?_
  intro p e s m args below meth c ls B hW hl
  have hx := B.1
  have hb := B.2.1
  have hl : lv_has ls 6 [(0, .ref G.2.2.1), (1, .int p1), (2, .int p2), (3, .int p3)] := hl
  unfold q_element at hq
  refine lv_aload_n hx hb dX12_element_0 rfl (lv_at hl 0 rfl) ?_
  refine m_get B hW 41 (by decide) u_883 (v := .ref (G.2.2.2 41)) rfl dX12_element_1 ?_
  refine lv_iload_n hx hb dX12_element_4 rfl (lv_at hl 2 rfl) ?_
  obtain ⟨hc, hq⟩ := chk_e hq
  refine m_zald B hW mA_41 hc dX12_element_5 ?_
  refine lv_if_eq (tgt := 10) hx hb dX12_element_6 (by decide) (fun hc => ?_) (fun hc => ?_)
  · replace hq := if_y hc hq
    refine lv_aload_n hx hb dX12_element_10 rfl (lv_at hl 0 rfl) ?_
    refine m_get B hW 41 (by decide) u_883 (v := .ref (G.2.2.2 41)) rfl dX12_element_11 ?_
    refine lv_iload_n hx hb dX12_element_14 rfl (lv_at hl 2 rfl) ?_
    refine lv_iconst (v := 1) hx hb dX12_element_15 (by decide) ?_
    obtain ⟨hc, hq⟩ := chk_e hq
    obtain ⟨hc2, hq⟩ := chk_e hq
    refine m_zast B hW mA_41 hc2 hc dX12_element_16 (fun H locs M1 eM hW => ?_)
    replace hq := lt9_u eM hq
    clear eM
    refine lv_aload_n hx hb dX12_element_17 rfl (lv_at hl 0 rfl) ?_
    refine m_get B hW 40 (by decide) u_882 (v := .ref (G.2.2.2 40)) rfl dX12_element_18 ?_
    refine lv_iload_n hx hb dX12_element_21 rfl (lv_at hl 2 rfl) ?_
    obtain ⟨hc, hq⟩ := chk_e hq
    refine m_iald B hW mA_40 hc dX12_element_22 ?_
    refine lv_istore (lv' := [(4, .int (M1 40 p2.toNatClampNeg)), (0, .ref G.2.2.1), (1, .int p1), (2, .int p2), (3, .int p3)]) hx hb dX12_element_23 hl (by decide) rfl (fun ls hl => ?_)
    refine lv_aload_n hx hb dX12_element_25 rfl (lv_at hl 1 rfl) ?_
    refine m_get B hW 39 (by decide) u_881 (v := .ref (G.2.2.2 39)) rfl dX12_element_26 ?_
    refine lv_iload_n hx hb dX12_element_29 rfl (lv_at hl 3 rfl) ?_
    refine lv_iload_n hx hb dX12_element_30 rfl (lv_at hl 4 rfl) ?_
    obtain ⟨hc, hq⟩ := chk_e hq
    refine m_iast B hW mA_39 hc dX12_element_31 (fun H locs M2 eM hW => ?_)
    replace hq := lt9_u eM hq
    clear eM
    refine lv_iload_n hx hb dX12_element_32 rfl (lv_at hl 2 rfl) ?_
    refine lv_iconst (v := 5) hx hb dX12_element_33 (by decide) ?_
    refine lv_icmp_eq (tgt := 43) hx hb dX12_element_34 (by decide) (fun hc => ?_) (fun hc => ?_)
    · replace hq := if_y hc hq
      exact k_element_43 B n M2 p1 p2 p3 (M1 40 p2.toNatClampNeg) hq _ _ ls hW (lv_sub hl [1, 2, 3, 4, 0] rfl)
    · replace hq := if_n hc hq
      refine lv_iload_n hx hb dX12_element_37 rfl (lv_at hl 2 rfl) ?_
      refine lv_bipush (v := 6) hx hb dX12_element_38 (by decide) ?_
      refine lv_icmp_ne (tgt := 86) hx hb dX12_element_40 (by decide) (fun hc => ?_) (fun hc => ?_)
      · replace hq := if_n hc hq
        exact k_element_86 B n M2 p1 (M1 40 p2.toNatClampNeg) hq _ _ ls hW (lv_sub hl [1, 2, 0] rfl)
      · replace hq := if_y hc hq
        exact k_element_43 B n M2 p1 p2 p3 (M1 40 p2.toNatClampNeg) hq _ _ ls hW (lv_sub hl [1, 2, 3, 4, 0] rfl)
  · replace hq := if_n hc hq
    exact m_vret B hW hq dX12_element_9
theorem mC_element : mC yX12_element prog_14_method_25_code 6 none 204 3 := ⟨fun _ => g_V u_1167 u_1169 us_66 u_5 u_1170, by decide +kernel⟩
set_option maxHeartbeats 4000000 in
set_option maxRecDepth 100000 in
theorem c_note {l : Launch} {D : va_G} {A : Nat → Prop} {G : MG} (M : MS) (p1 p2 : Int32) {M' : MS} (hq : q_note M p1 p2 = some M') : Met l yX12_note (wM yX12_note prog_14_method_20_code 3 none) (rM 0 0) (va_Pc [.ref G.2.2.1, .int p1, .int p2] (mPre D A G M)) (mQv D A G M') 0 0 A := by
  refine m_head (by decide) rfl (Nat.le_of_ble_eq_true rfl) ?_
  intro p e s m args below meth c ls B hW hl
  have hx := B.1
  have hb := B.2.1
  have hl : lv_has ls 3 [(0, .ref G.2.2.1), (1, .int p1), (2, .int p2)] := hl
  unfold q_note at hq
  refine lv_aload_n hx hb dX12_note_0 rfl (lv_at hl 0 rfl) ?_
  refine m_get B hW 34 (by decide) u_876 (v := .ref (G.2.2.2 34)) rfl dX12_note_1 ?_
  refine lv_aload_n hx hb dX12_note_4 rfl (lv_at hl 0 rfl) ?_
  refine m_get B hW 36 (by decide) u_878 (v := .int (M 36 0)) rfl dX12_note_5 ?_
  refine lv_iload_n hx hb dX12_note_8 rfl (lv_at hl 1 rfl) ?_
  obtain ⟨hc, hq⟩ := chk_e hq
  refine m_iast B hW mA_34 hc dX12_note_9 (fun H locs M1 eM hW => ?_)
  replace hq := lt9_u eM hq
  clear eM
  refine lv_aload_n hx hb dX12_note_10 rfl (lv_at hl 0 rfl) ?_
  refine m_get B hW 35 (by decide) u_877 (v := .ref (G.2.2.2 35)) rfl dX12_note_11 ?_
  refine lv_aload_n hx hb dX12_note_14 rfl (lv_at hl 0 rfl) ?_
  refine m_get B hW 36 (by decide) u_878 (v := .int (M1 36 0)) rfl dX12_note_15 ?_
  refine lv_iload_n hx hb dX12_note_18 rfl (lv_at hl 2 rfl) ?_
  obtain ⟨hc, hq⟩ := chk_e hq
  refine m_iast B hW mA_35 hc dX12_note_19 (fun H locs M2 eM hW => ?_)
  replace hq := lt9_u eM hq
  clear eM
  refine lv_aload_n hx hb dX12_note_20 rfl (lv_at hl 0 rfl) ?_
  refine lv_dup hx hb dX12_note_21 rfl ?_
  refine m_get B hW 36 (by decide) u_878 (v := .int (M2 36 0)) rfl dX12_note_22 ?_
  refine lv_iconst (v := 1) hx hb dX12_note_25 (by decide) ?_
  refine lv_iadd hx hb dX12_note_26 ?_
  refine m_put B hW 36 (by decide) u_878 mS_36 rfl (ty := .int) (tyX12_ok 36 (by decide)) rfl rfl (Nat.le_of_ble_eq_true rfl) dX12_note_27 (fun H locs M3 eM hW => ?_)
  replace hq := lt9_u eM hq
  clear eM
  exact m_vret B hW hq dX12_note_30
theorem mC_note : mC yX12_note prog_14_method_20_code 3 none 190 2 := ⟨fun _ => g_V u_1151 u_1153 us_62 u_5 u_1154, by decide +kernel⟩
set_option maxHeartbeats 4000000 in
set_option maxRecDepth 100000 in
theorem k_handle_32 {p : Program} {l : Launch} {e : Env} {s : State} {m : MethodId} {args : Array Value} {below : List Frame} {meth : Method} {c : Code} {D : va_G} {A : Nat → Prop} {G : MG} {r : Int32} {M' : MS} (B : mB p s m args meth c D G prog_14_method_21_code 4 (some .int) (Cond.code yX12_handle prog_14_method_21_code 4 (some .int))) :
    ∀ (n : Nat) (M : MS) (v1 v2 z0 : Int32), q_handle_32 n M v1 v2 z0 = some (r, M') → ∀ (H : Heap) (locs : List Loc) (ls : Array Slot), mOK D A G M s.heap H locs → lv_has ls 4 [(0, .ref G.2.2.1), (1, .int v1), (2, .int v2)] → W p l e (rM 3 71) s m args below meth c H locs 0 0 (MQ below (mQi D A G r M') args s 0 0 A) (F0 m 32 ls [.int z0, .ref G.2.2.1]) := by
  have hx := B.1
  have hb := B.2.1
  intro n M v1 v2 z0 hq _ _ ls hW hl
  unfold q_handle_32 at hq
  obtain ⟨hc, hq⟩ := chk_e hq
  refine m_put B hW 51 (by decide) u_893 mS_51 rfl (ty := .boolean) (tyX12_ok 51 (by decide)) (isB_narrow hc) (isB_fits hc) (Nat.le_of_ble_eq_true rfl) dX12_handle_32 (fun H locs M2 eM hW => ?_)
  replace hq := lt9_u eM hq
  clear eM
  refine lv_aload_n hx hb dX12_handle_35 rfl (lv_at hl 0 rfl) ?_
  refine m_get B hW 31 (by decide) u_873 (v := .ref (G.2.2.2 31)) rfl dX12_handle_36 ?_
  refine lv_iload_n hx hb dX12_handle_39 rfl (lv_at hl 1 rfl) ?_
  obtain ⟨hc, hq⟩ := chk_e hq
  refine m_iald B hW mA_31 hc dX12_handle_40 ?_
  by_cases hc0 : (M2 31 v1.toNatClampNeg) = 0
  · replace hq := if_y hc0 hq
    refine lv_tableIn (off := 31) (tgt := 72) hx hb dX12_handle_41 (by rw [hc0]; decide) (by rw [hc0]; decide) (by rw [hc0]; rfl) (by decide) ?_
    refine lv_aload_n hx hb dX12_handle_72 rfl (lv_at hl 0 rfl) ?_
    refine m_get B hW 32 (by decide) u_874 (v := .ref (G.2.2.2 32)) rfl dX12_handle_73 ?_
    refine lv_iload_n hx hb dX12_handle_76 rfl (lv_at hl 1 rfl) ?_
    obtain ⟨hc, hq⟩ := chk_e hq
    refine m_iald B hW mA_32 hc dX12_handle_77 ?_
    exact m_iret B hW hq dX12_handle_78
  replace hq := if_n hc0 hq
  by_cases hc1 : (M2 31 v1.toNatClampNeg) = 1
  · replace hq := if_y hc1 hq
    refine lv_tableIn (off := 38) (tgt := 79) hx hb dX12_handle_41 (by rw [hc1]; decide) (by rw [hc1]; decide) (by rw [hc1]; rfl) (by decide) ?_
    refine lv_iload_n hx hb dX12_handle_79 rfl (lv_at hl 2 rfl) ?_
    exact m_iret B hW hq dX12_handle_80
  replace hq := if_n hc1 hq
  by_cases hc2 : (M2 31 v1.toNatClampNeg) = 2
  · replace hq := if_y hc2 hq
    refine lv_tableIn (off := 31) (tgt := 72) hx hb dX12_handle_41 (by rw [hc2]; decide) (by rw [hc2]; decide) (by rw [hc2]; rfl) (by decide) ?_
    refine lv_aload_n hx hb dX12_handle_72 rfl (lv_at hl 0 rfl) ?_
    refine m_get B hW 32 (by decide) u_874 (v := .ref (G.2.2.2 32)) rfl dX12_handle_73 ?_
    refine lv_iload_n hx hb dX12_handle_76 rfl (lv_at hl 1 rfl) ?_
    obtain ⟨hc, hq⟩ := chk_e hq
    refine m_iald B hW mA_32 hc dX12_handle_77 ?_
    exact m_iret B hW hq dX12_handle_78
  replace hq := if_n hc2 hq
  by_cases hc3 : (M2 31 v1.toNatClampNeg) = 3
  · replace hq := if_y hc3 hq
    refine lv_tableIn (off := 38) (tgt := 79) hx hb dX12_handle_41 (by rw [hc3]; decide) (by rw [hc3]; decide) (by rw [hc3]; rfl) (by decide) ?_
    refine lv_iload_n hx hb dX12_handle_79 rfl (lv_at hl 2 rfl) ?_
    exact m_iret B hW hq dX12_handle_80
  replace hq := if_n hc3 hq
  have hd0 : ((M2 31 v1.toNatClampNeg)).toInt ≠ 0 := fun e9 => hc0 (Int32.toInt_inj.mp (e9.trans (by decide)))
  have hd1 : ((M2 31 v1.toNatClampNeg)).toInt ≠ 1 := fun e9 => hc1 (Int32.toInt_inj.mp (e9.trans (by decide)))
  have hd2 : ((M2 31 v1.toNatClampNeg)).toInt ≠ 2 := fun e9 => hc2 (Int32.toInt_inj.mp (e9.trans (by decide)))
  have hd3 : ((M2 31 v1.toNatClampNeg)).toInt ≠ 3 := fun e9 => hc3 (Int32.toInt_inj.mp (e9.trans (by decide)))
  refine lv_tableOut (tgt := 81) hx hb dX12_handle_41 (by omega) (by decide) ?_
  refine lv_aload_n hx hb dX12_handle_81 rfl (lv_at hl 0 rfl) ?_
  refine m_get B hW 6 (by decide) u_848 (v := .ref (G.2.2.2 6)) rfl dX12_handle_82 ?_
  refine lv_bipush (v := (-2)) hx hb dX12_handle_85 (by decide) ?_
  refine lv_aload_n hx hb dX12_handle_87 rfl (lv_at hl 0 rfl) ?_
  refine m_get B hW 32 (by decide) u_874 (v := .ref (G.2.2.2 32)) rfl dX12_handle_88 ?_
  refine lv_iload_n hx hb dX12_handle_91 rfl (lv_at hl 1 rfl) ?_
  obtain ⟨hc, hq⟩ := chk_e hq
  refine m_iald B hW mA_32 hc dX12_handle_92 ?_
  refine lv_isub hx hb dX12_handle_93 ?_
  obtain ⟨hc, hq⟩ := chk_e hq
  refine m_iald B hW mA_6 hc dX12_handle_94 ?_
  refine lv_istore_n (lv' := [(3, .int (M2 6 ((-2) - (M2 32 v1.toNatClampNeg)).toNatClampNeg)), (0, .ref G.2.2.1), (1, .int v1), (2, .int v2)]) hx hb dX12_handle_95 rfl hl (by decide) rfl (fun ls hl => ?_)
  refine lv_aload_n hx hb dX12_handle_96 rfl (lv_at hl 1 rfl) ?_
  refine m_get B hW 31 (by decide) u_873 (v := .ref (G.2.2.2 31)) rfl dX12_handle_97 ?_
  refine lv_iload_n hx hb dX12_handle_100 rfl (lv_at hl 2 rfl) ?_
  obtain ⟨hc, hq⟩ := chk_e hq
  refine m_iald B hW mA_31 hc dX12_handle_101 ?_
  refine lv_iconst (v := 4) hx hb dX12_handle_102 (by decide) ?_
  refine lv_icmp_ne (tgt := 115) hx hb dX12_handle_103 (by decide) (fun hc => ?_) (fun hc => ?_)
  · replace hq := if_n hc hq
    refine lv_aload_n hx hb dX12_handle_115 rfl (lv_at hl 1 rfl) ?_
    refine lv_iload_n hx hb dX12_handle_116 rfl (lv_at hl 0 rfl) ?_
    refine lv_iload_n hx hb dX12_handle_117 rfl (lv_at hl 3 rfl) ?_
    obtain ⟨M3, hg, hq⟩ := bnd_e hq
    refine m_callv (As := [.int (M2 6 ((-2) - (M2 32 v1.toNatClampNeg)).toNatClampNeg), .int v2]) (rest := []) B hW hl.1 (c_reject n M2 (M2 6 ((-2) - (M2 32 v1.toNatClampNeg)).toNatClampNeg) v2 hg) mC_reject rfl ⟨by decide, by decide⟩ rfl (Nat.le_of_ble_eq_true rfl) dX12_handle_118 (fun H locs hW => ?_)
    clear hg
    refine lv_aload_n hx hb dX12_handle_121 rfl (lv_at hl 1 rfl) ?_
    refine lv_iconst (v := 0) hx hb dX12_handle_122 (by decide) ?_
    obtain ⟨hc, hq⟩ := chk_e hq
    refine m_put B hW 51 (by decide) u_893 mS_51 rfl (ty := .boolean) (tyX12_ok 51 (by decide)) (isB_narrow hc) (isB_fits hc) (Nat.le_of_ble_eq_true rfl) dX12_handle_123 (fun H locs M4 eM hW => ?_)
    replace hq := lt9_u eM hq
    clear eM
    refine lv_iconst (v := (-1)) hx hb dX12_handle_126 (by decide) ?_
    exact m_iret B hW hq dX12_handle_127
  · replace hq := if_y hc hq
    refine lv_aload_n hx hb dX12_handle_106 rfl (lv_at hl 1 rfl) ?_
    refine lv_iload_n hx hb dX12_handle_107 rfl (lv_at hl 0 rfl) ?_
    refine lv_iload_n hx hb dX12_handle_108 rfl (lv_at hl 3 rfl) ?_
    obtain ⟨M5, hg, hq⟩ := bnd_e hq
    refine m_callv (As := [.int (M2 6 ((-2) - (M2 32 v1.toNatClampNeg)).toNatClampNeg), .int v2]) (rest := []) B hW hl.1 (c_resolve n M2 (M2 6 ((-2) - (M2 32 v1.toNatClampNeg)).toNatClampNeg) v2 hg) mC_resolve rfl ⟨by decide, by decide⟩ rfl (Nat.le_of_ble_eq_true rfl) dX12_handle_109 (fun H locs hW => ?_)
    clear hg
    refine lv_goto (tgt := 121) hx hb dX12_handle_112 (by decide) ?_
    refine lv_aload_n hx hb dX12_handle_121 rfl (lv_at hl 1 rfl) ?_
    refine lv_iconst (v := 0) hx hb dX12_handle_122 (by decide) ?_
    obtain ⟨hc, hq⟩ := chk_e hq
    refine m_put B hW 51 (by decide) u_893 mS_51 rfl (ty := .boolean) (tyX12_ok 51 (by decide)) (isB_narrow hc) (isB_fits hc) (Nat.le_of_ble_eq_true rfl) dX12_handle_123 (fun H locs M6 eM hW => ?_)
    replace hq := lt9_u eM hq
    clear eM
    refine lv_iconst (v := (-1)) hx hb dX12_handle_126 (by decide) ?_
    exact m_iret B hW hq dX12_handle_127
set_option maxHeartbeats 4000000 in
set_option maxRecDepth 100000 in
theorem k_handle_27 {p : Program} {l : Launch} {e : Env} {s : State} {m : MethodId} {args : Array Value} {below : List Frame} {meth : Method} {c : Code} {D : va_G} {A : Nat → Prop} {G : MG} {r : Int32} {M' : MS} (B : mB p s m args meth c D G prog_14_method_21_code 4 (some .int) (Cond.code yX12_handle prog_14_method_21_code 4 (some .int))) :
    ∀ (n : Nat) (M : MS) (v1 v2 : Int32), q_handle_27 n M v1 v2 = some (r, M') → ∀ (H : Heap) (locs : List Loc) (ls : Array Slot), mOK D A G M s.heap H locs → lv_has ls 4 [(0, .ref G.2.2.1), (1, .int v1), (2, .int v2)] → W p l e (rM 3 71) s m args below meth c H locs 0 0 (MQ below (mQi D A G r M') args s 0 0 A) (F0 m 27 ls [.ref G.2.2.1]) := by
  have hx := B.1
  have hb := B.2.1
  intro n M v1 v2 hq _ _ ls hW hl
  unfold q_handle_27 at hq
  refine lv_iconst (v := 1) hx hb dX12_handle_27 (by decide) ?_
  refine lv_goto (tgt := 32) hx hb dX12_handle_28 (by decide) ?_
  exact k_handle_32 B n M v1 v2 1 hq _ _ ls hW (lv_sub hl [0, 1, 2] rfl)
set_option maxHeartbeats 4000000 in
set_option maxRecDepth 100000 in
theorem c_handle {l : Launch} {D : va_G} {A : Nat → Prop} {G : MG} (n : Nat) (M : MS) (p1 p2 : Int32) {r : Int32} {M' : MS} (hq : q_handle n M p1 p2 = some (r, M')) : Met l yX12_handle (wM yX12_handle prog_14_method_21_code 4 (some .int)) (rM 3 71) (va_Pc [.ref G.2.2.1, .int p1, .int p2] (mPre D A G M)) (mQi D A G r M') 0 0 A := by
  refine m_head (by decide) rfl (Nat.le_of_ble_eq_true rfl) ?_
  intro p e s m args below meth c ls B hW hl
  have hx := B.1
  have hb := B.2.1
  have hl : lv_has ls 4 [(0, .ref G.2.2.1), (1, .int p1), (2, .int p2)] := hl
  unfold q_handle at hq
  refine lv_aload_n hx hb dX12_handle_0 rfl (lv_at hl 0 rfl) ?_
  refine lv_iload_n hx hb dX12_handle_1 rfl (lv_at hl 1 rfl) ?_
  refine lv_iload_n hx hb dX12_handle_2 rfl (lv_at hl 2 rfl) ?_
  obtain ⟨M1, hg, hq⟩ := bnd_e hq
  refine m_callv (As := [.int p1, .int p2]) (rest := []) B hW hl.1 (c_note M p1 p2 hg) mC_note rfl ⟨by decide, by decide⟩ rfl (Nat.le_of_ble_eq_true rfl) dX12_handle_3 (fun H locs hW => ?_)
  clear hg
  refine lv_aload_n hx hb dX12_handle_6 rfl (lv_at hl 0 rfl) ?_
  refine lv_aload_n hx hb dX12_handle_7 rfl (lv_at hl 0 rfl) ?_
  refine m_get B hW 31 (by decide) u_873 (v := .ref (G.2.2.2 31)) rfl dX12_handle_8 ?_
  refine lv_iload_n hx hb dX12_handle_11 rfl (lv_at hl 1 rfl) ?_
  obtain ⟨hc, hq⟩ := chk_e hq
  refine m_iald B hW mA_31 hc dX12_handle_12 ?_
  refine lv_iconst (v := 2) hx hb dX12_handle_13 (by decide) ?_
  refine lv_icmp_eq (tgt := 27) hx hb dX12_handle_14 (by decide) (fun hc => ?_) (fun hc => ?_)
  · replace hq := if_y hc hq
    exact k_handle_27 B n M1 p1 p2 hq _ _ ls hW (lv_sub hl [0, 1, 2] rfl)
  · replace hq := if_n hc hq
    refine lv_aload_n hx hb dX12_handle_17 rfl (lv_at hl 0 rfl) ?_
    refine m_get B hW 31 (by decide) u_873 (v := .ref (G.2.2.2 31)) rfl dX12_handle_18 ?_
    refine lv_iload_n hx hb dX12_handle_21 rfl (lv_at hl 1 rfl) ?_
    obtain ⟨hc, hq⟩ := chk_e hq
    refine m_iald B hW mA_31 hc dX12_handle_22 ?_
    refine lv_iconst (v := 3) hx hb dX12_handle_23 (by decide) ?_
    refine lv_icmp_ne (tgt := 31) hx hb dX12_handle_24 (by decide) (fun hc => ?_) (fun hc => ?_)
    · replace hq := if_n hc hq
      refine lv_iconst (v := 0) hx hb dX12_handle_31 (by decide) ?_
      exact k_handle_32 B n M1 p1 p2 0 hq _ _ ls hW (lv_sub hl [0, 1, 2] rfl)
    · replace hq := if_y hc hq
      exact k_handle_27 B n M1 p1 p2 hq _ _ ls hW (lv_sub hl [0, 1, 2] rfl)
theorem mC_handle : mC yX12_handle prog_14_method_21_code 4 (some .int) 200 2 := ⟨fun _ => g_V u_1163 u_1165 us_65 u_5 u_1166, by decide +kernel⟩
set_option maxHeartbeats 4000000 in
set_option maxRecDepth 100000 in
theorem k_last_66 {p : Program} {l : Launch} {e : Env} {s : State} {m : MethodId} {args : Array Value} {below : List Frame} {meth : Method} {c : Code} {D : va_G} {A : Nat → Prop} {G : MG} {r : Int32} {M' : MS} (B : mB p s m args meth c D G prog_14_method_23_code 8 (some .int) (Cond.code yX12_last prog_14_method_23_code 8 (some .int))) :
    ∀ (n : Nat) (M : MS) (v6 z0 z1 : Int32), q_last_66 n M v6 z0 z1 = some (r, M') → ∀ (H : Heap) (locs : List Loc) (ls : Array Slot), mOK D A G M s.heap H locs → lv_has ls 8 [(0, .ref G.2.2.1), (6, .int v6)] → W p l e (rM 4 94) s m args below meth c H locs 0 0 (MQ below (mQi D A G r M') args s 0 0 A) (F0 m 66 ls [.int z0, .int z1, .ref G.2.2.1]) := by
  have hx := B.1
  have hb := B.2.1
  intro n M v6 z0 z1 hq _ _ ls hW hl
  unfold q_last_66 at hq
  refine lv_iload hx hb dX12_last_66 (lv_at hl 1 rfl) ?_
  refine lv_iconst (v := 0) hx hb dX12_last_68 (by decide) ?_
  refine lv_iconst (v := 0) hx hb dX12_last_69 (by decide) ?_
  obtain ⟨r8, M7, hg, hq⟩ := bnd2_e hq
  refine m_calli (As := [.int z1, .int z0, .int v6, .int 0, .int 0]) (rest := []) B hW hl.1 (c_then n M z1 z0 v6 0 0 hg) mC_then rfl ⟨by decide, by decide⟩ rfl (Nat.le_of_ble_eq_true rfl) dX12_last_70 (fun H locs hW => ?_)
  clear hg
  refine m_valueOf (rest := []) B hW hl.1 ⟨by decide, by decide⟩ (Nat.le_of_ble_eq_true rfl) dX12_last_73 (fun H locs hW => ?_)
  refine lv_istore (lv' := [(7, .int (-2 - r8)), (0, .ref G.2.2.1), (6, .int v6)]) hx hb dX12_last_76 hl (by decide) rfl (fun ls hl => ?_)
  refine lv_aload_n hx hb dX12_last_78 rfl (lv_at hl 1 rfl) ?_
  refine lv_iconst (v := 0) hx hb dX12_last_79 (by decide) ?_
  obtain ⟨hc, hq⟩ := chk_e hq
  refine m_put B hW 51 (by decide) u_893 mS_51 rfl (ty := .boolean) (tyX12_ok 51 (by decide)) (isB_narrow hc) (isB_fits hc) (Nat.le_of_ble_eq_true rfl) dX12_last_80 (fun H locs M9 eM hW => ?_)
  replace hq := lt9_u eM hq
  clear eM
  refine lv_iload hx hb dX12_last_83 (lv_at hl 0 rfl) ?_
  exact m_iret B hW hq dX12_last_85
set_option maxHeartbeats 4000000 in
set_option maxRecDepth 100000 in
theorem c_last {l : Launch} {D : va_G} {A : Nat → Prop} {G : MG} (n : Nat) (M : MS) (p1 p2 p3 : Int32) {r : Int32} {M' : MS} (hq : q_last n M p1 p2 p3 = some (r, M')) : Met l yX12_last (wM yX12_last prog_14_method_23_code 8 (some .int)) (rM 4 94) (va_Pc [.ref G.2.2.1, .int p1, .int p2, .int p3] (mPre D A G M)) (mQi D A G r M') 0 0 A := by
  refine m_head (by decide) rfl (Nat.le_of_ble_eq_true rfl) ?_
  intro p e s m args below meth c ls B hW hl
  have hx := B.1
  have hb := B.2.1
  have hl : lv_has ls 8 [(0, .ref G.2.2.1), (1, .int p1), (2, .int p2), (3, .int p3)] := hl
  unfold q_last at hq
  refine lv_aload_n hx hb dX12_last_0 rfl (lv_at hl 0 rfl) ?_
  refine lv_iload_n hx hb dX12_last_1 rfl (lv_at hl 2 rfl) ?_
  refine lv_iconst (v := (-1)) hx hb dX12_last_2 (by decide) ?_
  obtain ⟨r2, M1, hg, hq⟩ := bnd2_e hq
  refine m_calli (As := [.int p2, .int (-1)]) (rest := []) B hW hl.1 (c_handle n M p2 (-1) hg) mC_handle rfl ⟨by decide, by decide⟩ rfl (Nat.le_of_ble_eq_true rfl) dX12_last_3 (fun H locs hW => ?_)
  clear hg
  refine lv_istore (lv' := [(4, .int r2), (0, .ref G.2.2.1), (1, .int p1), (2, .int p2), (3, .int p3)]) hx hb dX12_last_6 hl (by decide) rfl (fun ls hl => ?_)
  refine lv_aload_n hx hb dX12_last_8 rfl (lv_at hl 1 rfl) ?_
  refine m_get B hW 51 (by decide) u_893 (v := .int (M1 51 0)) rfl dX12_last_9 ?_
  refine lv_if_eq (tgt := 18) hx hb dX12_last_12 (by decide) (fun hc => ?_) (fun hc => ?_)
  · replace hq := if_y hc hq
    refine lv_aload_n hx hb dX12_last_18 rfl (lv_at hl 1 rfl) ?_
    refine lv_iload hx hb dX12_last_19 (lv_at hl 0 rfl) ?_
    obtain ⟨r4, M3, hg, hq⟩ := bnd2_e hq
    refine m_calli (As := [.int r2]) (rest := []) B hW hl.1 (c_promiseOf n M1 r2 hg) mC_promiseOf rfl ⟨by decide, by decide⟩ rfl (Nat.le_of_ble_eq_true rfl) dX12_last_21 (fun H locs hW => ?_)
    clear hg
    refine lv_istore (lv' := [(5, .int r4), (4, .int r2), (0, .ref G.2.2.1), (1, .int p1), (2, .int p2), (3, .int p3)]) hx hb dX12_last_24 hl (by decide) rfl (fun ls hl => ?_)
    refine lv_aload_n hx hb dX12_last_26 rfl (lv_at hl 2 rfl) ?_
    refine m_get B hW 42 (by decide) u_884 (v := .int (M3 42 0)) rfl dX12_last_27 ?_
    refine lv_istore (lv' := [(6, .int (M3 42 0)), (5, .int r4), (4, .int r2), (0, .ref G.2.2.1), (1, .int p1), (2, .int p2), (3, .int p3)]) hx hb dX12_last_30 hl (by decide) rfl (fun ls hl => ?_)
    refine lv_aload_n hx hb dX12_last_32 rfl (lv_at hl 3 rfl) ?_
    refine lv_dup hx hb dX12_last_33 rfl ?_
    refine m_get B hW 42 (by decide) u_884 (v := .int (M3 42 0)) rfl dX12_last_34 ?_
    refine lv_iconst (v := 1) hx hb dX12_last_37 (by decide) ?_
    refine lv_iadd hx hb dX12_last_38 ?_
    refine m_put B hW 42 (by decide) u_884 mS_42 rfl (ty := .int) (tyX12_ok 42 (by decide)) rfl rfl (Nat.le_of_ble_eq_true rfl) dX12_last_39 (fun H locs M5 eM hW => ?_)
    replace hq := lt9_u eM hq
    clear eM
    refine lv_aload_n hx hb dX12_last_42 rfl (lv_at hl 3 rfl) ?_
    refine m_get B hW 39 (by decide) u_881 (v := .ref (G.2.2.2 39)) rfl dX12_last_43 ?_
    refine lv_iload hx hb dX12_last_46 (lv_at hl 0 rfl) ?_
    refine lv_iload_n hx hb dX12_last_48 rfl (lv_at hl 6 rfl) ?_
    obtain ⟨hc, hq⟩ := chk_e hq
    refine m_iast B hW mA_39 hc dX12_last_49 (fun H locs M6 eM hW => ?_)
    replace hq := lt9_u eM hq
    clear eM
    refine lv_aload_n hx hb dX12_last_50 rfl (lv_at hl 3 rfl) ?_
    refine lv_iload hx hb dX12_last_51 (lv_at hl 1 rfl) ?_
    refine lv_iload_n hx hb dX12_last_53 rfl (lv_at hl 4 rfl) ?_
    refine lv_bipush (v := 8) hx hb dX12_last_54 (by decide) ?_
    refine lv_icmp_ne (tgt := 64) hx hb dX12_last_56 (by decide) (fun hc => ?_) (fun hc => ?_)
    · replace hq := if_n hc hq
      refine lv_bipush (v := 11) hx hb dX12_last_64 (by decide) ?_
      exact k_last_66 B n M6 (M3 42 0) 11 r4 hq _ _ ls hW (lv_sub hl [3, 0] rfl)
    · replace hq := if_y hc hq
      refine lv_bipush (v := 10) hx hb dX12_last_59 (by decide) ?_
      refine lv_goto (tgt := 66) hx hb dX12_last_61 (by decide) ?_
      exact k_last_66 B n M6 (M3 42 0) 10 r4 hq _ _ ls hW (lv_sub hl [3, 0] rfl)
  · replace hq := if_n hc hq
    refine lv_iload hx hb dX12_last_15 (lv_at hl 0 rfl) ?_
    exact m_iret B hW hq dX12_last_17
theorem mC_last : mC yX12_last prog_14_method_23_code 8 (some .int) 207 3 := ⟨fun _ => g_V u_1171 u_1173 us_67 u_5 u_1174, by decide +kernel⟩
set_option maxHeartbeats 4000000 in
set_option maxRecDepth 100000 in
theorem c_resume {l : Launch} {D : va_G} {A : Nat → Prop} {G : MG} (n : Nat) (M : MS) (p1 p2 : Int32) {M' : MS} (hq : q_resume n M p1 p2 = some M') : Met l yX12_resume (wM yX12_resume prog_14_method_31_code 4 none) (rM 5 115) (va_Pc [.ref G.2.2.1, .int p1, .int p2] (mPre D A G M)) (mQv D A G M') 0 0 A := by
  refine m_head (by decide) rfl (Nat.le_of_ble_eq_true rfl) ?_
  intro p e s m args below meth c ls B hW hl
  have hx := B.1
  have hb := B.2.1
  have hl : lv_has ls 4 [(0, .ref G.2.2.1), (1, .int p1), (2, .int p2)] := hl
  unfold q_resume at hq
  refine lv_aload_n hx hb dX12_resume_0 rfl (lv_at hl 0 rfl) ?_
  refine m_get B hW 48 (by decide) u_890 (v := .ref (G.2.2.2 48)) rfl dX12_resume_1 ?_
  refine lv_iload_n hx hb dX12_resume_4 rfl (lv_at hl 1 rfl) ?_
  obtain ⟨hc, hq⟩ := chk_e hq
  refine m_iald B hW mA_48 hc dX12_resume_5 ?_
  refine lv_if_lt (tgt := 45) hx hb dX12_resume_6 (by decide) (fun hc => ?_) (fun hc => ?_)
  · replace hq := if_y hc hq
    refine lv_aload_n hx hb dX12_resume_45 rfl (lv_at hl 0 rfl) ?_
    refine lv_iload_n hx hb dX12_resume_46 rfl (lv_at hl 1 rfl) ?_
    obtain ⟨M1, hg, hq⟩ := bnd_e hq
    refine m_callv (As := [.int p1]) (rest := []) B hW hl.1 (c_goOn n M p1 hg) mC_goOn rfl ⟨by decide, by decide⟩ rfl (Nat.le_of_ble_eq_true rfl) dX12_resume_47 (fun H locs hW => ?_)
    clear hg
    refine lv_aload_n hx hb dX12_resume_50 rfl (lv_at hl 0 rfl) ?_
    refine lv_iconst (v := 0) hx hb dX12_resume_51 (by decide) ?_
    obtain ⟨hc, hq⟩ := chk_e hq
    refine m_put B hW 51 (by decide) u_893 mS_51 rfl (ty := .boolean) (tyX12_ok 51 (by decide)) (isB_narrow hc) (isB_fits hc) (Nat.le_of_ble_eq_true rfl) dX12_resume_52 (fun H locs M2 eM hW => ?_)
    replace hq := lt9_u eM hq
    clear eM
    exact m_vret B hW hq dX12_resume_55
  · replace hq := if_n hc hq
    refine lv_aload_n hx hb dX12_resume_9 rfl (lv_at hl 0 rfl) ?_
    refine lv_aload_n hx hb dX12_resume_10 rfl (lv_at hl 0 rfl) ?_
    refine m_get B hW 48 (by decide) u_890 (v := .ref (G.2.2.2 48)) rfl dX12_resume_11 ?_
    refine lv_iload_n hx hb dX12_resume_14 rfl (lv_at hl 1 rfl) ?_
    obtain ⟨hc, hq⟩ := chk_e hq
    refine m_iald B hW mA_48 hc dX12_resume_15 ?_
    refine lv_iload_n hx hb dX12_resume_16 rfl (lv_at hl 2 rfl) ?_
    obtain ⟨r4, M3, hg, hq⟩ := bnd2_e hq
    refine m_calli (As := [.int (M 48 p1.toNatClampNeg), .int p2]) (rest := []) B hW hl.1 (c_handle n M (M 48 p1.toNatClampNeg) p2 hg) mC_handle rfl ⟨by decide, by decide⟩ rfl (Nat.le_of_ble_eq_true rfl) dX12_resume_17 (fun H locs hW => ?_)
    clear hg
    refine lv_istore_n (lv' := [(3, .int r4), (0, .ref G.2.2.1), (1, .int p1), (2, .int p2)]) hx hb dX12_resume_20 rfl hl (by decide) rfl (fun ls hl => ?_)
    refine lv_aload_n hx hb dX12_resume_21 rfl (lv_at hl 1 rfl) ?_
    refine m_get B hW 51 (by decide) u_893 (v := .int (M3 51 0)) rfl dX12_resume_22 ?_
    refine lv_if_eq (tgt := 45) hx hb dX12_resume_25 (by decide) (fun hc => ?_) (fun hc => ?_)
    · replace hq := if_y hc hq
      refine lv_aload_n hx hb dX12_resume_45 rfl (lv_at hl 1 rfl) ?_
      refine lv_iload_n hx hb dX12_resume_46 rfl (lv_at hl 2 rfl) ?_
      obtain ⟨M5, hg, hq⟩ := bnd_e hq
      refine m_callv (As := [.int p1]) (rest := []) B hW hl.1 (c_goOn n M3 p1 hg) mC_goOn rfl ⟨by decide, by decide⟩ rfl (Nat.le_of_ble_eq_true rfl) dX12_resume_47 (fun H locs hW => ?_)
      clear hg
      refine lv_aload_n hx hb dX12_resume_50 rfl (lv_at hl 1 rfl) ?_
      refine lv_iconst (v := 0) hx hb dX12_resume_51 (by decide) ?_
      obtain ⟨hc, hq⟩ := chk_e hq
      refine m_put B hW 51 (by decide) u_893 mS_51 rfl (ty := .boolean) (tyX12_ok 51 (by decide)) (isB_narrow hc) (isB_fits hc) (Nat.le_of_ble_eq_true rfl) dX12_resume_52 (fun H locs M6 eM hW => ?_)
      replace hq := lt9_u eM hq
      clear eM
      exact m_vret B hW hq dX12_resume_55
    · replace hq := if_n hc hq
      refine lv_aload_n hx hb dX12_resume_28 rfl (lv_at hl 1 rfl) ?_
      refine lv_iconst (v := 0) hx hb dX12_resume_29 (by decide) ?_
      obtain ⟨hc, hq⟩ := chk_e hq
      refine m_put B hW 51 (by decide) u_893 mS_51 rfl (ty := .boolean) (tyX12_ok 51 (by decide)) (isB_narrow hc) (isB_fits hc) (Nat.le_of_ble_eq_true rfl) dX12_resume_30 (fun H locs M7 eM hW => ?_)
      replace hq := lt9_u eM hq
      clear eM
      refine lv_aload_n hx hb dX12_resume_33 rfl (lv_at hl 1 rfl) ?_
      refine lv_aload_n hx hb dX12_resume_34 rfl (lv_at hl 1 rfl) ?_
      refine m_get B hW 46 (by decide) u_888 (v := .ref (G.2.2.2 46)) rfl dX12_resume_35 ?_
      refine lv_iload_n hx hb dX12_resume_38 rfl (lv_at hl 2 rfl) ?_
      obtain ⟨hc, hq⟩ := chk_e hq
      refine m_iald B hW mA_46 hc dX12_resume_39 ?_
      refine lv_iload_n hx hb dX12_resume_40 rfl (lv_at hl 0 rfl) ?_
      obtain ⟨M8, hg, hq⟩ := bnd_e hq
      refine m_callv (As := [.int (M7 46 p1.toNatClampNeg), .int r4]) (rest := []) B hW hl.1 (c_reject n M7 (M7 46 p1.toNatClampNeg) r4 hg) mC_reject rfl ⟨by decide, by decide⟩ rfl (Nat.le_of_ble_eq_true rfl) dX12_resume_41 (fun H locs hW => ?_)
      clear hg
      exact m_vret B hW hq dX12_resume_44
theorem mC_resume : mC yX12_resume prog_14_method_31_code 4 none 211 2 := ⟨fun _ => g_V u_1175 u_1177 us_68 u_5 u_1178, by decide +kernel⟩
set_option maxHeartbeats 4000000 in
set_option maxRecDepth 100000 in
theorem c_call {l : Launch} {D : va_G} {A : Nat → Prop} {G : MG} (n : Nat) (M : MS) (p1 p2 p3 : Int32) {r : Int32} {M' : MS} (hq : q_call n M p1 p2 p3 = some (r, M')) : Met l yX12_call (wM yX12_call prog_14_method_22_code 4 (some .int)) (rM 6 138) (va_Pc [.ref G.2.2.1, .int p1, .int p2, .int p3] (mPre D A G M)) (mQi D A G r M') 0 0 A := by
  refine m_head (by decide) rfl (Nat.le_of_ble_eq_true rfl) ?_
  intro p e s m args below meth c ls B hW hl
  have hx := B.1
  have hb := B.2.1
  have hl : lv_has ls 4 [(0, .ref G.2.2.1), (1, .int p1), (2, .int p2), (3, .int p3)] := hl
  unfold q_call at hq
  refine lv_aload_n hx hb dX12_call_0 rfl (lv_at hl 0 rfl) ?_
  refine lv_iconst (v := 0) hx hb dX12_call_1 (by decide) ?_
  obtain ⟨hc, hq⟩ := chk_e hq
  refine m_put B hW 51 (by decide) u_893 mS_51 rfl (ty := .boolean) (tyX12_ok 51 (by decide)) (isB_narrow hc) (isB_fits hc) (Nat.le_of_ble_eq_true rfl) dX12_call_2 (fun H locs M1 eM hW => ?_)
  replace hq := lt9_u eM hq
  clear eM
  refine lv_iload_n hx hb dX12_call_5 rfl (lv_at hl 1 rfl) ?_
  by_cases hc1 : p1 = 1
  · replace hq := if_y hc1 hq
    refine lv_tableIn (off := 62) (tgt := 68) hx hb dX12_call_6 (by rw [hc1]; decide) (by rw [hc1]; decide) (by rw [hc1]; rfl) (by decide) ?_
    refine lv_aload_n hx hb dX12_call_68 rfl (lv_at hl 0 rfl) ?_
    refine lv_iload_n hx hb dX12_call_69 rfl (lv_at hl 2 rfl) ?_
    refine lv_iload_n hx hb dX12_call_70 rfl (lv_at hl 3 rfl) ?_
    obtain ⟨r4, M3, hg, hq⟩ := bnd2_e hq
    refine m_calli (As := [.int p2, .int p3]) (rest := []) B hW hl.1 (c_handle n M1 p2 p3 hg) mC_handle rfl ⟨by decide, by decide⟩ rfl (Nat.le_of_ble_eq_true rfl) dX12_call_71 (fun H locs hW => ?_)
    clear hg
    exact m_iret B hW hq dX12_call_74
  replace hq := if_n hc1 hq
  by_cases hc2 : p1 = 2
  · replace hq := if_y hc2 hq
    refine lv_tableIn (off := 69) (tgt := 75) hx hb dX12_call_6 (by rw [hc2]; decide) (by rw [hc2]; decide) (by rw [hc2]; rfl) (by decide) ?_
    refine lv_aload_n hx hb dX12_call_75 rfl (lv_at hl 0 rfl) ?_
    refine lv_iload_n hx hb dX12_call_76 rfl (lv_at hl 2 rfl) ?_
    refine lv_iload_n hx hb dX12_call_77 rfl (lv_at hl 3 rfl) ?_
    obtain ⟨M5, hg, hq⟩ := bnd_e hq
    refine m_callv (As := [.int p2, .int p3]) (rest := []) B hW hl.1 (c_resolve n M1 p2 p3 hg) mC_resolve rfl ⟨by decide, by decide⟩ rfl (Nat.le_of_ble_eq_true rfl) dX12_call_78 (fun H locs hW => ?_)
    clear hg
    refine lv_iconst (v := (-1)) hx hb dX12_call_81 (by decide) ?_
    exact m_iret B hW hq dX12_call_82
  replace hq := if_n hc2 hq
  by_cases hc3 : p1 = 3
  · replace hq := if_y hc3 hq
    refine lv_tableIn (off := 77) (tgt := 83) hx hb dX12_call_6 (by rw [hc3]; decide) (by rw [hc3]; decide) (by rw [hc3]; rfl) (by decide) ?_
    refine lv_aload_n hx hb dX12_call_83 rfl (lv_at hl 0 rfl) ?_
    refine lv_iload_n hx hb dX12_call_84 rfl (lv_at hl 2 rfl) ?_
    refine lv_iload_n hx hb dX12_call_85 rfl (lv_at hl 3 rfl) ?_
    obtain ⟨M6, hg, hq⟩ := bnd_e hq
    refine m_callv (As := [.int p2, .int p3]) (rest := []) B hW hl.1 (c_reject n M1 p2 p3 hg) mC_reject rfl ⟨by decide, by decide⟩ rfl (Nat.le_of_ble_eq_true rfl) dX12_call_86 (fun H locs hW => ?_)
    clear hg
    refine lv_iconst (v := (-1)) hx hb dX12_call_89 (by decide) ?_
    exact m_iret B hW hq dX12_call_90
  replace hq := if_n hc3 hq
  by_cases hc4 : p1 = 4
  · replace hq := if_y hc4 hq
    refine lv_tableIn (off := 85) (tgt := 91) hx hb dX12_call_6 (by rw [hc4]; decide) (by rw [hc4]; decide) (by rw [hc4]; rfl) (by decide) ?_
    refine lv_aload_n hx hb dX12_call_91 rfl (lv_at hl 0 rfl) ?_
    refine lv_iload_n hx hb dX12_call_92 rfl (lv_at hl 1 rfl) ?_
    refine lv_iload_n hx hb dX12_call_93 rfl (lv_at hl 2 rfl) ?_
    refine lv_iload_n hx hb dX12_call_94 rfl (lv_at hl 3 rfl) ?_
    obtain ⟨M7, hg, hq⟩ := bnd_e hq
    refine m_callv (As := [.int p1, .int p2, .int p3]) (rest := []) B hW hl.1 (c_element n M1 p1 p2 p3 hg) mC_element rfl ⟨by decide, by decide⟩ rfl (Nat.le_of_ble_eq_true rfl) dX12_call_95 (fun H locs hW => ?_)
    clear hg
    refine lv_iconst (v := (-1)) hx hb dX12_call_98 (by decide) ?_
    exact m_iret B hW hq dX12_call_99
  replace hq := if_n hc4 hq
  by_cases hc5 : p1 = 5
  · replace hq := if_y hc5 hq
    refine lv_tableIn (off := 85) (tgt := 91) hx hb dX12_call_6 (by rw [hc5]; decide) (by rw [hc5]; decide) (by rw [hc5]; rfl) (by decide) ?_
    refine lv_aload_n hx hb dX12_call_91 rfl (lv_at hl 0 rfl) ?_
    refine lv_iload_n hx hb dX12_call_92 rfl (lv_at hl 1 rfl) ?_
    refine lv_iload_n hx hb dX12_call_93 rfl (lv_at hl 2 rfl) ?_
    refine lv_iload_n hx hb dX12_call_94 rfl (lv_at hl 3 rfl) ?_
    obtain ⟨M8, hg, hq⟩ := bnd_e hq
    refine m_callv (As := [.int p1, .int p2, .int p3]) (rest := []) B hW hl.1 (c_element n M1 p1 p2 p3 hg) mC_element rfl ⟨by decide, by decide⟩ rfl (Nat.le_of_ble_eq_true rfl) dX12_call_95 (fun H locs hW => ?_)
    clear hg
    refine lv_iconst (v := (-1)) hx hb dX12_call_98 (by decide) ?_
    exact m_iret B hW hq dX12_call_99
  replace hq := if_n hc5 hq
  by_cases hc6 : p1 = 6
  · replace hq := if_y hc6 hq
    refine lv_tableIn (off := 85) (tgt := 91) hx hb dX12_call_6 (by rw [hc6]; decide) (by rw [hc6]; decide) (by rw [hc6]; rfl) (by decide) ?_
    refine lv_aload_n hx hb dX12_call_91 rfl (lv_at hl 0 rfl) ?_
    refine lv_iload_n hx hb dX12_call_92 rfl (lv_at hl 1 rfl) ?_
    refine lv_iload_n hx hb dX12_call_93 rfl (lv_at hl 2 rfl) ?_
    refine lv_iload_n hx hb dX12_call_94 rfl (lv_at hl 3 rfl) ?_
    obtain ⟨M9, hg, hq⟩ := bnd_e hq
    refine m_callv (As := [.int p1, .int p2, .int p3]) (rest := []) B hW hl.1 (c_element n M1 p1 p2 p3 hg) mC_element rfl ⟨by decide, by decide⟩ rfl (Nat.le_of_ble_eq_true rfl) dX12_call_95 (fun H locs hW => ?_)
    clear hg
    refine lv_iconst (v := (-1)) hx hb dX12_call_98 (by decide) ?_
    exact m_iret B hW hq dX12_call_99
  replace hq := if_n hc6 hq
  by_cases hc7 : p1 = 7
  · replace hq := if_y hc7 hq
    refine lv_tableIn (off := 85) (tgt := 91) hx hb dX12_call_6 (by rw [hc7]; decide) (by rw [hc7]; decide) (by rw [hc7]; rfl) (by decide) ?_
    refine lv_aload_n hx hb dX12_call_91 rfl (lv_at hl 0 rfl) ?_
    refine lv_iload_n hx hb dX12_call_92 rfl (lv_at hl 1 rfl) ?_
    refine lv_iload_n hx hb dX12_call_93 rfl (lv_at hl 2 rfl) ?_
    refine lv_iload_n hx hb dX12_call_94 rfl (lv_at hl 3 rfl) ?_
    obtain ⟨M10, hg, hq⟩ := bnd_e hq
    refine m_callv (As := [.int p1, .int p2, .int p3]) (rest := []) B hW hl.1 (c_element n M1 p1 p2 p3 hg) mC_element rfl ⟨by decide, by decide⟩ rfl (Nat.le_of_ble_eq_true rfl) dX12_call_95 (fun H locs hW => ?_)
    clear hg
    refine lv_iconst (v := (-1)) hx hb dX12_call_98 (by decide) ?_
    exact m_iret B hW hq dX12_call_99
  replace hq := if_n hc7 hq
  by_cases hc8 : p1 = 8
  · replace hq := if_y hc8 hq
    refine lv_tableIn (off := 94) (tgt := 100) hx hb dX12_call_6 (by rw [hc8]; decide) (by rw [hc8]; decide) (by rw [hc8]; rfl) (by decide) ?_
    refine lv_aload_n hx hb dX12_call_100 rfl (lv_at hl 0 rfl) ?_
    refine lv_iload_n hx hb dX12_call_101 rfl (lv_at hl 1 rfl) ?_
    refine lv_iload_n hx hb dX12_call_102 rfl (lv_at hl 2 rfl) ?_
    refine lv_iload_n hx hb dX12_call_103 rfl (lv_at hl 3 rfl) ?_
    obtain ⟨r12, M11, hg, hq⟩ := bnd2_e hq
    refine m_calli (As := [.int p1, .int p2, .int p3]) (rest := []) B hW hl.1 (c_last n M1 p1 p2 p3 hg) mC_last rfl ⟨by decide, by decide⟩ rfl (Nat.le_of_ble_eq_true rfl) dX12_call_104 (fun H locs hW => ?_)
    clear hg
    exact m_iret B hW hq dX12_call_107
  replace hq := if_n hc8 hq
  by_cases hc9 : p1 = 9
  · replace hq := if_y hc9 hq
    refine lv_tableIn (off := 94) (tgt := 100) hx hb dX12_call_6 (by rw [hc9]; decide) (by rw [hc9]; decide) (by rw [hc9]; rfl) (by decide) ?_
    refine lv_aload_n hx hb dX12_call_100 rfl (lv_at hl 0 rfl) ?_
    refine lv_iload_n hx hb dX12_call_101 rfl (lv_at hl 1 rfl) ?_
    refine lv_iload_n hx hb dX12_call_102 rfl (lv_at hl 2 rfl) ?_
    refine lv_iload_n hx hb dX12_call_103 rfl (lv_at hl 3 rfl) ?_
    obtain ⟨r14, M13, hg, hq⟩ := bnd2_e hq
    refine m_calli (As := [.int p1, .int p2, .int p3]) (rest := []) B hW hl.1 (c_last n M1 p1 p2 p3 hg) mC_last rfl ⟨by decide, by decide⟩ rfl (Nat.le_of_ble_eq_true rfl) dX12_call_104 (fun H locs hW => ?_)
    clear hg
    exact m_iret B hW hq dX12_call_107
  replace hq := if_n hc9 hq
  by_cases hc10 : p1 = 10
  · replace hq := if_y hc10 hq
    refine lv_tableIn (off := 102) (tgt := 108) hx hb dX12_call_6 (by rw [hc10]; decide) (by rw [hc10]; decide) (by rw [hc10]; rfl) (by decide) ?_
    refine lv_aload_n hx hb dX12_call_108 rfl (lv_at hl 0 rfl) ?_
    refine m_get B hW 39 (by decide) u_881 (v := .ref (G.2.2.2 39)) rfl dX12_call_109 ?_
    refine lv_iload_n hx hb dX12_call_112 rfl (lv_at hl 2 rfl) ?_
    obtain ⟨hc, hq⟩ := chk_e hq
    refine m_iald B hW mA_39 hc dX12_call_113 ?_
    exact m_iret B hW hq dX12_call_114
  replace hq := if_n hc10 hq
  by_cases hc11 : p1 = 11
  · replace hq := if_y hc11 hq
    refine lv_tableIn (off := 109) (tgt := 115) hx hb dX12_call_6 (by rw [hc11]; decide) (by rw [hc11]; decide) (by rw [hc11]; rfl) (by decide) ?_
    refine lv_aload_n hx hb dX12_call_115 rfl (lv_at hl 0 rfl) ?_
    refine lv_iconst (v := 1) hx hb dX12_call_116 (by decide) ?_
    obtain ⟨hc, hq⟩ := chk_e hq
    refine m_put B hW 51 (by decide) u_893 mS_51 rfl (ty := .boolean) (tyX12_ok 51 (by decide)) (isB_narrow hc) (isB_fits hc) (Nat.le_of_ble_eq_true rfl) dX12_call_117 (fun H locs M15 eM hW => ?_)
    replace hq := lt9_u eM hq
    clear eM
    refine lv_aload_n hx hb dX12_call_120 rfl (lv_at hl 0 rfl) ?_
    refine m_get B hW 39 (by decide) u_881 (v := .ref (G.2.2.2 39)) rfl dX12_call_121 ?_
    refine lv_iload_n hx hb dX12_call_124 rfl (lv_at hl 2 rfl) ?_
    obtain ⟨hc, hq⟩ := chk_e hq
    refine m_iald B hW mA_39 hc dX12_call_125 ?_
    exact m_iret B hW hq dX12_call_126
  replace hq := if_n hc11 hq
  by_cases hc12 : p1 = 12
  · replace hq := if_y hc12 hq
    refine lv_tableIn (off := 121) (tgt := 127) hx hb dX12_call_6 (by rw [hc12]; decide) (by rw [hc12]; decide) (by rw [hc12]; rfl) (by decide) ?_
    refine lv_aload_n hx hb dX12_call_127 rfl (lv_at hl 0 rfl) ?_
    refine lv_iload_n hx hb dX12_call_128 rfl (lv_at hl 2 rfl) ?_
    refine lv_iload_n hx hb dX12_call_129 rfl (lv_at hl 3 rfl) ?_
    obtain ⟨M16, hg, hq⟩ := bnd_e hq
    refine m_callv (As := [.int p2, .int p3]) (rest := []) B hW hl.1 (c_resume n M1 p2 p3 hg) mC_resume rfl ⟨by decide, by decide⟩ rfl (Nat.le_of_ble_eq_true rfl) dX12_call_130 (fun H locs hW => ?_)
    clear hg
    refine lv_iconst (v := (-1)) hx hb dX12_call_133 (by decide) ?_
    exact m_iret B hW hq dX12_call_134
  replace hq := if_n hc12 hq
  have hd1 : (p1).toInt ≠ 1 := fun e9 => hc1 (Int32.toInt_inj.mp (e9.trans (by decide)))
  have hd2 : (p1).toInt ≠ 2 := fun e9 => hc2 (Int32.toInt_inj.mp (e9.trans (by decide)))
  have hd3 : (p1).toInt ≠ 3 := fun e9 => hc3 (Int32.toInt_inj.mp (e9.trans (by decide)))
  have hd4 : (p1).toInt ≠ 4 := fun e9 => hc4 (Int32.toInt_inj.mp (e9.trans (by decide)))
  have hd5 : (p1).toInt ≠ 5 := fun e9 => hc5 (Int32.toInt_inj.mp (e9.trans (by decide)))
  have hd6 : (p1).toInt ≠ 6 := fun e9 => hc6 (Int32.toInt_inj.mp (e9.trans (by decide)))
  have hd7 : (p1).toInt ≠ 7 := fun e9 => hc7 (Int32.toInt_inj.mp (e9.trans (by decide)))
  have hd8 : (p1).toInt ≠ 8 := fun e9 => hc8 (Int32.toInt_inj.mp (e9.trans (by decide)))
  have hd9 : (p1).toInt ≠ 9 := fun e9 => hc9 (Int32.toInt_inj.mp (e9.trans (by decide)))
  have hd10 : (p1).toInt ≠ 10 := fun e9 => hc10 (Int32.toInt_inj.mp (e9.trans (by decide)))
  have hd11 : (p1).toInt ≠ 11 := fun e9 => hc11 (Int32.toInt_inj.mp (e9.trans (by decide)))
  have hd12 : (p1).toInt ≠ 12 := fun e9 => hc12 (Int32.toInt_inj.mp (e9.trans (by decide)))
  refine lv_tableOut (tgt := 135) hx hb dX12_call_6 (by omega) (by decide) ?_
  refine lv_aload_n hx hb dX12_call_135 rfl (lv_at hl 0 rfl) ?_
  refine lv_aload_n hx hb dX12_call_136 rfl (lv_at hl 0 rfl) ?_
  refine m_get B hW 46 (by decide) u_888 (v := .ref (G.2.2.2 46)) rfl dX12_call_137 ?_
  refine lv_iload_n hx hb dX12_call_140 rfl (lv_at hl 2 rfl) ?_
  obtain ⟨hc, hq⟩ := chk_e hq
  refine m_iald B hW mA_46 hc dX12_call_141 ?_
  refine lv_iload_n hx hb dX12_call_142 rfl (lv_at hl 3 rfl) ?_
  obtain ⟨M2, hg, hq⟩ := bnd_e hq
  refine m_callv (As := [.int (M1 46 p2.toNatClampNeg), .int p3]) (rest := []) B hW hl.1 (c_reject n M1 (M1 46 p2.toNatClampNeg) p3 hg) mC_reject rfl ⟨by decide, by decide⟩ rfl (Nat.le_of_ble_eq_true rfl) dX12_call_143 (fun H locs hW => ?_)
  clear hg
  refine lv_iconst (v := (-1)) hx hb dX12_call_146 (by decide) ?_
  exact m_iret B hW hq dX12_call_147
theorem mC_call : mC yX12_call prog_14_method_22_code 4 (some .int) 237 3 := ⟨fun _ => g_V u_1159 u_1161 us_64 u_5 u_1162, by decide +kernel⟩
end
section
set_option maxHeartbeats 4000000 in
set_option maxRecDepth 100000 in
theorem k_does_58 {p : Program} {l : Launch} {e : Env} {s : State} {m : MethodId} {args : Array Value} {below : List Frame} {meth : Method} {c : Code} {D : va_G} {A : Nat → Prop} {G : MG} {r : Int32} {M' : MS} (B : mB p s m args meth c D G prog_14_method_29_code 5 (some .boolean) (Cond.code yX12_does prog_14_method_29_code 5 (some .boolean))) :
    ∀ (n : Nat) (M : MS) (v2 : Int32), q_does_58 n M v2 = some (r, M') → ∀ (H : Heap) (locs : List Loc) (ls : Array Slot), mOK D A G M s.heap H locs → lv_has ls 5 [(0, .ref G.2.2.1), (2, .int v2)] → W p l e (rM 3 71) s m args below meth c H locs 0 0 (MQ below (mQi D A G r M') args s 0 0 A) (F0 m 58 ls []) := by
  have hx := B.1
  have hb := B.2.1
  intro n M v2 hq _ _ ls hW hl
  unfold q_does_58 at hq
  refine lv_iload_n hx hb dX12_does_58 rfl (lv_at hl 1 rfl) ?_
  refine lv_iconst (v := 3) hx hb dX12_does_59 (by decide) ?_
  refine lv_icmp_ne (tgt := 67) hx hb dX12_does_60 (by decide) (fun hc => ?_) (fun hc => ?_)
  · replace hq := if_n hc hq
    refine lv_iconst (v := 0) hx hb dX12_does_67 (by decide) ?_
    obtain ⟨hc, hq⟩ := chk_e hq
    exact m_zret B hW hc hq dX12_does_68
  · replace hq := if_y hc hq
    refine lv_iconst (v := 1) hx hb dX12_does_63 (by decide) ?_
    refine lv_goto (tgt := 68) hx hb dX12_does_64 (by decide) ?_
    obtain ⟨hc, hq⟩ := chk_e hq
    exact m_zret B hW hc hq dX12_does_68
set_option maxHeartbeats 4000000 in
set_option maxRecDepth 100000 in
theorem c_does {l : Launch} {D : va_G} {A : Nat → Prop} {G : MG} (n : Nat) (M : MS) (p1 p2 p3 p4 : Int32) {r : Int32} {M' : MS} (hq : q_does n M p1 p2 p3 p4 = some (r, M')) : Met l yX12_does (wM yX12_does prog_14_method_29_code 5 (some .boolean)) (rM 3 71) (va_Pc [.ref G.2.2.1, .int p1, .int p2, .int p3, .int p4] (mPre D A G M)) (mQi D A G r M') 0 0 A := by
  refine m_head (by decide) rfl (Nat.le_of_ble_eq_true rfl) ?_
  intro p e s m args below meth c ls B hW hl
  have hx := B.1
  have hb := B.2.1
  have hl : lv_has ls 5 [(0, .ref G.2.2.1), (1, .int p1), (2, .int p2), (3, .int p3), (4, .int p4)] := hl
  unfold q_does at hq
  refine lv_iload_n hx hb dX12_does_0 rfl (lv_at hl 2 rfl) ?_
  refine lv_iconst (v := 1) hx hb dX12_does_1 (by decide) ?_
  refine lv_icmp_ne (tgt := 15) hx hb dX12_does_2 (by decide) (fun hc => ?_) (fun hc => ?_)
  · replace hq := if_n hc hq
    refine lv_iload_n hx hb dX12_does_15 rfl (lv_at hl 2 rfl) ?_
    refine lv_iconst (v := 2) hx hb dX12_does_16 (by decide) ?_
    refine lv_icmp_ne (tgt := 30) hx hb dX12_does_17 (by decide) (fun hc => ?_) (fun hc => ?_)
    · replace hq := if_n hc hq
      refine lv_iload_n hx hb dX12_does_30 rfl (lv_at hl 2 rfl) ?_
      refine lv_iconst (v := 3) hx hb dX12_does_31 (by decide) ?_
      refine lv_icmp_ne (tgt := 45) hx hb dX12_does_32 (by decide) (fun hc => ?_) (fun hc => ?_)
      · replace hq := if_n hc hq
        refine lv_iload_n hx hb dX12_does_45 rfl (lv_at hl 2 rfl) ?_
        refine lv_iconst (v := 4) hx hb dX12_does_46 (by decide) ?_
        refine lv_icmp_ne (tgt := 58) hx hb dX12_does_47 (by decide) (fun hc => ?_) (fun hc => ?_)
        · replace hq := if_n hc hq
          exact k_does_58 B n M p2 hq _ _ ls hW (lv_sub hl [0, 2] rfl)
        · replace hq := if_y hc hq
          refine lv_aload_n hx hb dX12_does_50 rfl (lv_at hl 0 rfl) ?_
          refine m_get B hW 6 (by decide) u_848 (v := .ref (G.2.2.2 6)) rfl dX12_does_51 ?_
          refine lv_iload_n hx hb dX12_does_54 rfl (lv_at hl 1 rfl) ?_
          refine lv_iload hx hb dX12_does_55 (lv_at hl 4 rfl) ?_
          obtain ⟨hc, hq⟩ := chk_e hq
          refine m_iast B hW mA_6 hc dX12_does_57 (fun H locs M1 eM hW => ?_)
          replace hq := lt9_u eM hq
          clear eM
          exact k_does_58 B n M1 p2 hq _ _ ls hW (lv_sub hl [0, 2] rfl)
      · replace hq := if_y hc hq
        refine lv_aload_n hx hb dX12_does_35 rfl (lv_at hl 0 rfl) ?_
        refine lv_iload hx hb dX12_does_36 (lv_at hl 4 rfl) ?_
        refine lv_iload_n hx hb dX12_does_38 rfl (lv_at hl 3 rfl) ?_
        obtain ⟨M2, hg, hq⟩ := bnd_e hq
        refine m_callv (As := [.int p4, .int p3]) (rest := []) B hW hl.1 (c_reject n M p4 p3 hg) mC_reject rfl ⟨by decide, by decide⟩ rfl (Nat.le_of_ble_eq_true rfl) dX12_does_39 (fun H locs hW => ?_)
        clear hg
        refine lv_goto (tgt := 58) hx hb dX12_does_42 (by decide) ?_
        exact k_does_58 B n M2 p2 hq _ _ ls hW (lv_sub hl [0, 2] rfl)
    · replace hq := if_y hc hq
      refine lv_aload_n hx hb dX12_does_20 rfl (lv_at hl 0 rfl) ?_
      refine lv_iload hx hb dX12_does_21 (lv_at hl 4 rfl) ?_
      refine lv_iload_n hx hb dX12_does_23 rfl (lv_at hl 3 rfl) ?_
      obtain ⟨M3, hg, hq⟩ := bnd_e hq
      refine m_callv (As := [.int p4, .int p3]) (rest := []) B hW hl.1 (c_reject n M p4 p3 hg) mC_reject rfl ⟨by decide, by decide⟩ rfl (Nat.le_of_ble_eq_true rfl) dX12_does_24 (fun H locs hW => ?_)
      clear hg
      refine lv_goto (tgt := 58) hx hb dX12_does_27 (by decide) ?_
      exact k_does_58 B n M3 p2 hq _ _ ls hW (lv_sub hl [0, 2] rfl)
  · replace hq := if_y hc hq
    refine lv_aload_n hx hb dX12_does_5 rfl (lv_at hl 0 rfl) ?_
    refine lv_iload hx hb dX12_does_6 (lv_at hl 4 rfl) ?_
    refine lv_iload_n hx hb dX12_does_8 rfl (lv_at hl 3 rfl) ?_
    obtain ⟨M4, hg, hq⟩ := bnd_e hq
    refine m_callv (As := [.int p4, .int p3]) (rest := []) B hW hl.1 (c_resolve n M p4 p3 hg) mC_resolve rfl ⟨by decide, by decide⟩ rfl (Nat.le_of_ble_eq_true rfl) dX12_does_9 (fun H locs hW => ?_)
    clear hg
    refine lv_goto (tgt := 58) hx hb dX12_does_12 (by decide) ?_
    exact k_does_58 B n M4 p2 hq _ _ ls hW (lv_sub hl [0, 2] rfl)
theorem mC_does : mC yX12_does prog_14_method_29_code 5 (some .boolean) 240 4 := ⟨fun _ => g_V u_1155 u_1157 us_63 u_5 u_1158, by decide +kernel⟩
set_option maxHeartbeats 4000000 in
set_option maxRecDepth 100000 in
theorem c_thenJob {l : Launch} {D : va_G} {A : Nat → Prop} {G : MG} (n : Nat) (M : MS) (p1 p2 : Int32) {M' : MS} (hq : q_thenJob n M p1 p2 = some M') : Met l yX12_thenJob (wM yX12_thenJob prog_14_method_28_code 4 none) (rM 4 95) (va_Pc [.ref G.2.2.1, .int p1, .int p2] (mPre D A G M)) (mQv D A G M') 0 0 A := by
  refine m_head (by decide) rfl (Nat.le_of_ble_eq_true rfl) ?_
  intro p e s m args below meth c ls B hW hl
  have hx := B.1
  have hb := B.2.1
  have hl : lv_has ls 4 [(0, .ref G.2.2.1), (1, .int p1), (2, .int p2)] := hl
  unfold q_thenJob at hq
  refine lv_aload_n hx hb dX12_thenJob_0 rfl (lv_at hl 0 rfl) ?_
  refine lv_iload_n hx hb dX12_thenJob_1 rfl (lv_at hl 2 rfl) ?_
  obtain ⟨r2, M1, hg, hq⟩ := bnd2_e hq
  refine m_calli (As := [.int p2]) (rest := []) B hW hl.1 (c_record M p2 hg) mC_record rfl ⟨by decide, by decide⟩ rfl (Nat.le_of_ble_eq_true rfl) dX12_thenJob_2 (fun H locs hW => ?_)
  clear hg
  refine lv_istore_n (lv' := [(3, .int r2), (0, .ref G.2.2.1), (1, .int p1), (2, .int p2)]) hx hb dX12_thenJob_5 rfl hl (by decide) rfl (fun ls hl => ?_)
  refine lv_aload_n hx hb dX12_thenJob_6 rfl (lv_at hl 1 rfl) ?_
  refine m_get B hW 2 (by decide) u_844 (v := .ref (G.2.2.2 2)) rfl dX12_thenJob_7 ?_
  refine lv_iload_n hx hb dX12_thenJob_10 rfl (lv_at hl 2 rfl) ?_
  obtain ⟨hc, hq⟩ := chk_e hq
  refine m_iald B hW mA_2 hc dX12_thenJob_11 ?_
  refine lv_if_ne (tgt := 26) hx hb dX12_thenJob_12 (by decide) (fun hc => ?_) (fun hc => ?_)
  · replace hq := if_n hc hq
    refine lv_aload_n hx hb dX12_thenJob_26 rfl (lv_at hl 1 rfl) ?_
    refine lv_iload_n hx hb dX12_thenJob_27 rfl (lv_at hl 2 rfl) ?_
    refine m_valueOf (rest := [.ref G.2.2.1]) B hW hl.1 ⟨by decide, by decide⟩ (Nat.le_of_ble_eq_true rfl) dX12_thenJob_28 (fun H locs hW => ?_)
    refine lv_iconst (v := (-1)) hx hb dX12_thenJob_31 (by decide) ?_
    obtain ⟨M3, hg, hq⟩ := bnd_e hq
    refine m_callv (As := [.int (-2 - p1), .int (-1)]) (rest := []) B hW hl.1 (c_note M1 (-2 - p1) (-1) hg) mC_note rfl ⟨by decide, by decide⟩ rfl (Nat.le_of_ble_eq_true rfl) dX12_thenJob_32 (fun H locs hW => ?_)
    clear hg
    refine lv_aload_n hx hb dX12_thenJob_35 rfl (lv_at hl 1 rfl) ?_
    refine lv_iload_n hx hb dX12_thenJob_36 rfl (lv_at hl 2 rfl) ?_
    refine lv_aload_n hx hb dX12_thenJob_37 rfl (lv_at hl 1 rfl) ?_
    refine m_get B hW 9 (by decide) u_851 (v := .ref (G.2.2.2 9)) rfl dX12_thenJob_38 ?_
    refine lv_iload_n hx hb dX12_thenJob_41 rfl (lv_at hl 2 rfl) ?_
    obtain ⟨hc, hq⟩ := chk_e hq
    refine m_iald B hW mA_9 hc dX12_thenJob_42 ?_
    refine lv_aload_n hx hb dX12_thenJob_43 rfl (lv_at hl 1 rfl) ?_
    refine m_get B hW 10 (by decide) u_852 (v := .ref (G.2.2.2 10)) rfl dX12_thenJob_44 ?_
    refine lv_iload_n hx hb dX12_thenJob_47 rfl (lv_at hl 2 rfl) ?_
    obtain ⟨hc, hq⟩ := chk_e hq
    refine m_iald B hW mA_10 hc dX12_thenJob_48 ?_
    refine lv_iload_n hx hb dX12_thenJob_49 rfl (lv_at hl 0 rfl) ?_
    obtain ⟨r5, M4, hg, hq⟩ := bnd2_e hq
    refine m_calli (As := [.int p1, .int (M3 9 p1.toNatClampNeg), .int (M3 10 p1.toNatClampNeg), .int r2]) (rest := []) B hW hl.1 (c_does n M3 p1 (M3 9 p1.toNatClampNeg) (M3 10 p1.toNatClampNeg) r2 hg) mC_does rfl ⟨by decide, by decide⟩ rfl (Nat.le_of_ble_eq_true rfl) dX12_thenJob_50 (fun H locs hW => ?_)
    clear hg
    refine lv_if_ne (tgt := 75) hx hb dX12_thenJob_53 (by decide) (fun hc => ?_) (fun hc => ?_)
    · replace hq := if_n hc hq
      exact m_vret B hW hq dX12_thenJob_75
    · replace hq := if_y hc hq
      refine lv_aload_n hx hb dX12_thenJob_56 rfl (lv_at hl 1 rfl) ?_
      refine lv_iload_n hx hb dX12_thenJob_57 rfl (lv_at hl 2 rfl) ?_
      refine lv_aload_n hx hb dX12_thenJob_58 rfl (lv_at hl 1 rfl) ?_
      refine m_get B hW 11 (by decide) u_853 (v := .ref (G.2.2.2 11)) rfl dX12_thenJob_59 ?_
      refine lv_iload_n hx hb dX12_thenJob_62 rfl (lv_at hl 2 rfl) ?_
      obtain ⟨hc, hq⟩ := chk_e hq
      refine m_iald B hW mA_11 hc dX12_thenJob_63 ?_
      refine lv_aload_n hx hb dX12_thenJob_64 rfl (lv_at hl 1 rfl) ?_
      refine m_get B hW 12 (by decide) u_854 (v := .ref (G.2.2.2 12)) rfl dX12_thenJob_65 ?_
      refine lv_iload_n hx hb dX12_thenJob_68 rfl (lv_at hl 2 rfl) ?_
      obtain ⟨hc, hq⟩ := chk_e hq
      refine m_iald B hW mA_12 hc dX12_thenJob_69 ?_
      refine lv_iload_n hx hb dX12_thenJob_70 rfl (lv_at hl 0 rfl) ?_
      obtain ⟨r7, M6, hg, hq⟩ := bnd2_e hq
      refine m_calli (As := [.int p1, .int (M4 11 p1.toNatClampNeg), .int (M4 12 p1.toNatClampNeg), .int r2]) (rest := []) B hW hl.1 (c_does n M4 p1 (M4 11 p1.toNatClampNeg) (M4 12 p1.toNatClampNeg) r2 hg) mC_does rfl ⟨by decide, by decide⟩ rfl (Nat.le_of_ble_eq_true rfl) dX12_thenJob_71 (fun H locs hW => ?_)
      clear hg
      refine lv_pop hx hb dX12_thenJob_74 rfl ?_
      exact m_vret B hW hq dX12_thenJob_75
  · replace hq := if_y hc hq
    refine lv_aload_n hx hb dX12_thenJob_15 rfl (lv_at hl 1 rfl) ?_
    refine lv_iload_n hx hb dX12_thenJob_16 rfl (lv_at hl 2 rfl) ?_
    refine lv_iconst (v := 2) hx hb dX12_thenJob_17 (by decide) ?_
    refine lv_iload_n hx hb dX12_thenJob_18 rfl (lv_at hl 0 rfl) ?_
    refine lv_iconst (v := 3) hx hb dX12_thenJob_19 (by decide) ?_
    refine lv_iload_n hx hb dX12_thenJob_20 rfl (lv_at hl 0 rfl) ?_
    obtain ⟨r9, M8, hg, hq⟩ := bnd2_e hq
    refine m_calli (As := [.int p1, .int 2, .int r2, .int 3, .int r2]) (rest := []) B hW hl.1 (c_then n M1 p1 2 r2 3 r2 hg) mC_then rfl ⟨by decide, by decide⟩ rfl (Nat.le_of_ble_eq_true rfl) dX12_thenJob_21 (fun H locs hW => ?_)
    clear hg
    refine lv_pop hx hb dX12_thenJob_24 rfl ?_
    exact m_vret B hW hq dX12_thenJob_25
theorem mC_thenJob : mC yX12_thenJob prog_14_method_28_code 4 none 234 2 := ⟨fun _ => g_V u_1147 u_1149 us_61 u_5 u_1150, by decide +kernel⟩
set_option maxHeartbeats 4000000 in
set_option maxRecDepth 100000 in
theorem k_job_85 {p : Program} {l : Launch} {e : Env} {s : State} {m : MethodId} {args : Array Value} {below : List Frame} {meth : Method} {c : Code} {D : va_G} {A : Nat → Prop} {G : MG} {M' : MS} (B : mB p s m args meth c D G prog_14_method_27_code 3 none (Cond.code yX12_job prog_14_method_27_code 3 none)) :
    ∀ (n : Nat) (M : MS) (v1 v2 : Int32), q_job_85 n M v1 v2 = some M' → ∀ (H : Heap) (locs : List Loc) (ls : Array Slot), mOK D A G M s.heap H locs → lv_has ls 3 [(0, .ref G.2.2.1), (1, .int v1), (2, .int v2)] → W p l e (rM 7 161) s m args below meth c H locs 0 0 (MQ below (mQv D A G M') args s 0 0 A) (F0 m 85 ls []) := by
  have hx := B.1
  have hb := B.2.1
  intro n M v1 v2 hq _ _ ls hW hl
  unfold q_job_85 at hq
  refine lv_aload_n hx hb dX12_job_85 rfl (lv_at hl 0 rfl) ?_
  refine m_get B hW 25 (by decide) u_867 (v := .ref (G.2.2.2 25)) rfl dX12_job_86 ?_
  refine lv_iload_n hx hb dX12_job_89 rfl (lv_at hl 1 rfl) ?_
  obtain ⟨hc, hq⟩ := chk_e hq
  refine m_iald B hW mA_25 hc dX12_job_90 ?_
  refine lv_if_ge (tgt := 95) hx hb dX12_job_91 (by decide) (fun hc => ?_) (fun hc => ?_)
  · replace hq := if_y hc hq
    refine lv_aload_n hx hb dX12_job_95 rfl (lv_at hl 0 rfl) ?_
    refine m_get B hW 51 (by decide) u_893 (v := .int (M 51 0)) rfl dX12_job_96 ?_
    refine lv_if_eq (tgt := 116) hx hb dX12_job_99 (by decide) (fun hc => ?_) (fun hc => ?_)
    · replace hq := if_y hc hq
      refine lv_aload_n hx hb dX12_job_116 rfl (lv_at hl 0 rfl) ?_
      refine lv_aload_n hx hb dX12_job_117 rfl (lv_at hl 0 rfl) ?_
      refine m_get B hW 25 (by decide) u_867 (v := .ref (G.2.2.2 25)) rfl dX12_job_118 ?_
      refine lv_iload_n hx hb dX12_job_121 rfl (lv_at hl 1 rfl) ?_
      obtain ⟨hc, hq⟩ := chk_e hq
      refine m_iald B hW mA_25 hc dX12_job_122 ?_
      refine lv_iload_n hx hb dX12_job_123 rfl (lv_at hl 2 rfl) ?_
      obtain ⟨M3, hg, hq⟩ := bnd_e hq
      refine m_callv (As := [.int (M 25 v1.toNatClampNeg), .int v2]) (rest := []) B hW hl.1 (c_resolve n M (M 25 v1.toNatClampNeg) v2 hg) mC_resolve rfl ⟨by decide, by decide⟩ rfl (Nat.le_of_ble_eq_true rfl) dX12_job_124 (fun H locs hW => ?_)
      clear hg
      exact m_vret B hW hq dX12_job_127
    · replace hq := if_n hc hq
      refine lv_aload_n hx hb dX12_job_102 rfl (lv_at hl 0 rfl) ?_
      refine lv_aload_n hx hb dX12_job_103 rfl (lv_at hl 0 rfl) ?_
      refine m_get B hW 25 (by decide) u_867 (v := .ref (G.2.2.2 25)) rfl dX12_job_104 ?_
      refine lv_iload_n hx hb dX12_job_107 rfl (lv_at hl 1 rfl) ?_
      obtain ⟨hc, hq⟩ := chk_e hq
      refine m_iald B hW mA_25 hc dX12_job_108 ?_
      refine lv_iload_n hx hb dX12_job_109 rfl (lv_at hl 2 rfl) ?_
      obtain ⟨M4, hg, hq⟩ := bnd_e hq
      refine m_callv (As := [.int (M 25 v1.toNatClampNeg), .int v2]) (rest := []) B hW hl.1 (c_reject n M (M 25 v1.toNatClampNeg) v2 hg) mC_reject rfl ⟨by decide, by decide⟩ rfl (Nat.le_of_ble_eq_true rfl) dX12_job_110 (fun H locs hW => ?_)
      clear hg
      refine lv_goto (tgt := 127) hx hb dX12_job_113 (by decide) ?_
      exact m_vret B hW hq dX12_job_127
  · replace hq := if_n hc hq
    exact m_vret B hW hq dX12_job_94
set_option maxHeartbeats 4000000 in
set_option maxRecDepth 100000 in
theorem c_job {l : Launch} {D : va_G} {A : Nat → Prop} {G : MG} (n : Nat) (M : MS) {M' : MS} (hq : q_job n M = some M') : Met l yX12_job (wM yX12_job prog_14_method_27_code 3 none) (rM 7 161) (va_Pc [.ref G.2.2.1] (mPre D A G M)) (mQv D A G M') 0 0 A := by
  refine m_head (by decide) rfl (Nat.le_of_ble_eq_true rfl) ?_
  intro p e s m args below meth c ls B hW hl
  have hx := B.1
  have hb := B.2.1
  have hl : lv_has ls 3 [(0, .ref G.2.2.1)] := hl
  unfold q_job at hq
  refine lv_aload_n hx hb dX12_job_0 rfl (lv_at hl 0 rfl) ?_
  refine m_get B hW 29 (by decide) u_871 (v := .int (M 29 0)) rfl dX12_job_1 ?_
  refine lv_istore_n (lv' := [(1, .int (M 29 0)), (0, .ref G.2.2.1)]) hx hb dX12_job_4 rfl hl (by decide) rfl (fun ls hl => ?_)
  refine lv_aload_n hx hb dX12_job_5 rfl (lv_at hl 1 rfl) ?_
  refine lv_dup hx hb dX12_job_6 rfl ?_
  refine m_get B hW 29 (by decide) u_871 (v := .int (M 29 0)) rfl dX12_job_7 ?_
  refine lv_iconst (v := 1) hx hb dX12_job_10 (by decide) ?_
  refine lv_iadd hx hb dX12_job_11 ?_
  refine m_put B hW 29 (by decide) u_871 mS_29 rfl (ty := .int) (tyX12_ok 29 (by decide)) rfl rfl (Nat.le_of_ble_eq_true rfl) dX12_job_12 (fun H locs M1 eM hW => ?_)
  replace hq := lt9_u eM hq
  clear eM
  refine lv_aload_n hx hb dX12_job_15 rfl (lv_at hl 1 rfl) ?_
  refine m_get B hW 28 (by decide) u_870 (v := .ref (G.2.2.2 28)) rfl dX12_job_16 ?_
  refine lv_iload_n hx hb dX12_job_19 rfl (lv_at hl 0 rfl) ?_
  obtain ⟨hc, hq⟩ := chk_e hq
  refine m_zald B hW mA_28 hc dX12_job_20 ?_
  refine lv_if_eq (tgt := 41) hx hb dX12_job_21 (by decide) (fun hc => ?_) (fun hc => ?_)
  · replace hq := if_y hc hq
    refine lv_aload_n hx hb dX12_job_41 rfl (lv_at hl 1 rfl) ?_
    refine lv_aload_n hx hb dX12_job_42 rfl (lv_at hl 1 rfl) ?_
    refine m_get B hW 27 (by decide) u_869 (v := .ref (G.2.2.2 27)) rfl dX12_job_43 ?_
    refine lv_iload_n hx hb dX12_job_46 rfl (lv_at hl 0 rfl) ?_
    obtain ⟨hc, hq⟩ := chk_e hq
    refine m_zald B hW mA_27 hc dX12_job_47 ?_
    obtain ⟨hc, hq⟩ := chk_e hq
    refine m_put B hW 51 (by decide) u_893 mS_51 rfl (ty := .boolean) (tyX12_ok 51 (by decide)) (isB_narrow hc) (isB_fits hc) (Nat.le_of_ble_eq_true rfl) dX12_job_48 (fun H locs M2 eM hW => ?_)
    replace hq := lt9_u eM hq
    clear eM
    refine lv_aload_n hx hb dX12_job_51 rfl (lv_at hl 1 rfl) ?_
    refine m_get B hW 26 (by decide) u_868 (v := .ref (G.2.2.2 26)) rfl dX12_job_52 ?_
    refine lv_iload_n hx hb dX12_job_55 rfl (lv_at hl 0 rfl) ?_
    obtain ⟨hc, hq⟩ := chk_e hq
    refine m_iald B hW mA_26 hc dX12_job_56 ?_
    refine lv_istore_n (lv' := [(2, .int (M2 26 (M 29 0).toNatClampNeg)), (1, .int (M 29 0)), (0, .ref G.2.2.1)]) hx hb dX12_job_57 rfl hl (by decide) rfl (fun ls hl => ?_)
    refine lv_aload_n hx hb dX12_job_58 rfl (lv_at hl 2 rfl) ?_
    refine m_get B hW 23 (by decide) u_865 (v := .ref (G.2.2.2 23)) rfl dX12_job_59 ?_
    refine lv_iload_n hx hb dX12_job_62 rfl (lv_at hl 1 rfl) ?_
    obtain ⟨hc, hq⟩ := chk_e hq
    refine m_iald B hW mA_23 hc dX12_job_63 ?_
    refine lv_if_eq (tgt := 85) hx hb dX12_job_64 (by decide) (fun hc => ?_) (fun hc => ?_)
    · replace hq := if_y hc hq
      exact k_job_85 B n M2 (M 29 0) (M2 26 (M 29 0).toNatClampNeg) hq _ _ ls hW (lv_sub hl [2, 1, 0] rfl)
    · replace hq := if_n hc hq
      refine lv_aload_n hx hb dX12_job_67 rfl (lv_at hl 2 rfl) ?_
      refine lv_aload_n hx hb dX12_job_68 rfl (lv_at hl 2 rfl) ?_
      refine m_get B hW 23 (by decide) u_865 (v := .ref (G.2.2.2 23)) rfl dX12_job_69 ?_
      refine lv_iload_n hx hb dX12_job_72 rfl (lv_at hl 1 rfl) ?_
      obtain ⟨hc, hq⟩ := chk_e hq
      refine m_iald B hW mA_23 hc dX12_job_73 ?_
      refine lv_aload_n hx hb dX12_job_74 rfl (lv_at hl 2 rfl) ?_
      refine m_get B hW 24 (by decide) u_866 (v := .ref (G.2.2.2 24)) rfl dX12_job_75 ?_
      refine lv_iload_n hx hb dX12_job_78 rfl (lv_at hl 1 rfl) ?_
      obtain ⟨hc, hq⟩ := chk_e hq
      refine m_iald B hW mA_24 hc dX12_job_79 ?_
      refine lv_iload_n hx hb dX12_job_80 rfl (lv_at hl 0 rfl) ?_
      obtain ⟨r6, M5, hg, hq⟩ := bnd2_e hq
      refine m_calli (As := [.int (M2 23 (M 29 0).toNatClampNeg), .int (M2 24 (M 29 0).toNatClampNeg), .int (M2 26 (M 29 0).toNatClampNeg)]) (rest := []) B hW hl.1 (c_call n M2 (M2 23 (M 29 0).toNatClampNeg) (M2 24 (M 29 0).toNatClampNeg) (M2 26 (M 29 0).toNatClampNeg) hg) mC_call rfl ⟨by decide, by decide⟩ rfl (Nat.le_of_ble_eq_true rfl) dX12_job_81 (fun H locs hW => ?_)
      clear hg
      refine lv_istore_n (lv' := [(2, .int r6), (1, .int (M 29 0)), (0, .ref G.2.2.1)]) hx hb dX12_job_84 rfl hl (by decide) rfl (fun ls hl => ?_)
      exact k_job_85 B n M5 (M 29 0) r6 hq _ _ ls hW (lv_sub hl [2, 1, 0] rfl)
  · replace hq := if_n hc hq
    refine lv_aload_n hx hb dX12_job_24 rfl (lv_at hl 1 rfl) ?_
    refine lv_aload_n hx hb dX12_job_25 rfl (lv_at hl 1 rfl) ?_
    refine m_get B hW 24 (by decide) u_866 (v := .ref (G.2.2.2 24)) rfl dX12_job_26 ?_
    refine lv_iload_n hx hb dX12_job_29 rfl (lv_at hl 0 rfl) ?_
    obtain ⟨hc, hq⟩ := chk_e hq
    refine m_iald B hW mA_24 hc dX12_job_30 ?_
    refine lv_aload_n hx hb dX12_job_31 rfl (lv_at hl 1 rfl) ?_
    refine m_get B hW 25 (by decide) u_867 (v := .ref (G.2.2.2 25)) rfl dX12_job_32 ?_
    refine lv_iload_n hx hb dX12_job_35 rfl (lv_at hl 0 rfl) ?_
    obtain ⟨hc, hq⟩ := chk_e hq
    refine m_iald B hW mA_25 hc dX12_job_36 ?_
    obtain ⟨M7, hg, hq⟩ := bnd_e hq
    refine m_callv (As := [.int (M1 24 (M 29 0).toNatClampNeg), .int (M1 25 (M 29 0).toNatClampNeg)]) (rest := []) B hW hl.1 (c_thenJob n M1 (M1 24 (M 29 0).toNatClampNeg) (M1 25 (M 29 0).toNatClampNeg) hg) mC_thenJob rfl ⟨by decide, by decide⟩ rfl (Nat.le_of_ble_eq_true rfl) dX12_job_37 (fun H locs hW => ?_)
    clear hg
    exact m_vret B hW hq dX12_job_40
theorem mC_job : mC yX12_job prog_14_method_27_code 3 none 272 0 := ⟨fun _ => g_V u_1143 u_1145 us_60 u_5 u_1146, by decide +kernel⟩
set_option maxHeartbeats 4000000 in
set_option maxRecDepth 100000 in
theorem k_jobs_7 {p : Program} {l : Launch} {e : Env} {s : State} {m : MethodId} {args : Array Value} {below : List Frame} {meth : Method} {c : Code} {D : va_G} {A : Nat → Prop} {G : MG} {r : Int32} {M' : MS} (B : mB p s m args meth c D G prog_14_method_46_code 3 (some .int) (Cond.code yX12_jobs prog_14_method_46_code 3 (some .int))) :
    ∀ (n : Nat) (M : MS) (v1 v2 : Int32), q_jobs_7 n M v1 v2 = some (r, M') → ∀ (H : Heap) (locs : List Loc) (ls : Array Slot), mOK D A G M s.heap H locs → lv_has ls 3 [(0, .ref G.2.2.1), (1, .int v1), (2, .int v2)] → W p l e (rM 8 183) s m args below meth c H locs 0 0 (MQ below (mQi D A G r M') args s 0 0 A) (F0 m 7 ls []) := by
  have hx := B.1
  have hb := B.2.1
  intro n
  induction n with
  | zero => intro M v1 v2 hq; cases hq
  | succ n ih =>
    intro M v1 v2 hq _ _ ls hW hl
    replace hq : (if v1 ≤ v2 then some (v2, M) else if (M 30 0) ≤ (M 29 0) then some (v2, M) else bnd2 (q_isFull M 8) (fun r3 M2 => if r3 = 0 then if (M2 36 0) < 4000 then bnd (q_job n M2 ) (fun M6 => q_jobs_7 n M6 v1 (v2 + 1)) else bnd2 (q_fails M2 1) (fun r8 M7 => some (r8, M7)) else bnd2 (q_fails M2 1) (fun r5 M4 => some (r5, M4)))) = some (r, M') := hq
    refine lv_iload_n hx hb dX12_jobs_7 rfl (lv_at hl 2 rfl) ?_
    refine lv_iload_n hx hb dX12_jobs_8 rfl (lv_at hl 1 rfl) ?_
    refine lv_icmp_ge (tgt := 58) hx hb dX12_jobs_9 (by decide) (fun hc => ?_) (fun hc => ?_)
    · replace hq := if_y hc hq
      refine lv_iload_n hx hb dX12_jobs_58 rfl (lv_at hl 2 rfl) ?_
      exact m_iret B hW hq dX12_jobs_59
    · replace hq := if_n hc hq
      refine lv_aload_n hx hb dX12_jobs_12 rfl (lv_at hl 0 rfl) ?_
      refine m_get B hW 29 (by decide) u_871 (v := .int (M 29 0)) rfl dX12_jobs_13 ?_
      refine lv_aload_n hx hb dX12_jobs_16 rfl (lv_at hl 0 rfl) ?_
      refine m_get B hW 30 (by decide) u_872 (v := .int (M 30 0)) rfl dX12_jobs_17 ?_
      refine lv_icmp_ge (tgt := 58) hx hb dX12_jobs_20 (by decide) (fun hc => ?_) (fun hc => ?_)
      · replace hq := if_y hc hq
        refine lv_iload_n hx hb dX12_jobs_58 rfl (lv_at hl 2 rfl) ?_
        exact m_iret B hW hq dX12_jobs_59
      · replace hq := if_n hc hq
        refine lv_aload_n hx hb dX12_jobs_23 rfl (lv_at hl 0 rfl) ?_
        refine lv_bipush (v := 8) hx hb dX12_jobs_24 (by decide) ?_
        obtain ⟨r3, M2, hg, hq⟩ := bnd2_e hq
        refine m_calli (As := [.int 8]) (rest := []) B hW hl.1 (c_isFull M 8 hg) mC_isFull rfl ⟨by decide, by decide⟩ rfl (Nat.le_of_ble_eq_true rfl) dX12_jobs_26 (fun H locs hW => ?_)
        clear hg
        refine lv_if_ne (tgt := 42) hx hb dX12_jobs_29 (by decide) (fun hc => ?_) (fun hc => ?_)
        · replace hq := if_n hc hq
          refine lv_aload_n hx hb dX12_jobs_42 rfl (lv_at hl 0 rfl) ?_
          refine lv_iconst (v := 1) hx hb dX12_jobs_43 (by decide) ?_
          obtain ⟨r5, M4, hg, hq⟩ := bnd2_e hq
          refine m_calli (As := [.int 1]) (rest := []) B hW hl.1 (c_fails M2 1 hg) mC_fails rfl ⟨by decide, by decide⟩ rfl (Nat.le_of_ble_eq_true rfl) dX12_jobs_44 (fun H locs hW => ?_)
          clear hg
          exact m_iret B hW hq dX12_jobs_47
        · replace hq := if_y hc hq
          refine lv_aload_n hx hb dX12_jobs_32 rfl (lv_at hl 0 rfl) ?_
          refine m_get B hW 36 (by decide) u_878 (v := .int (M2 36 0)) rfl dX12_jobs_33 ?_
          refine lv_sipush (v := 4000) hx hb dX12_jobs_36 (by decide) ?_
          refine lv_icmp_lt (tgt := 48) hx hb dX12_jobs_39 (by decide) (fun hc => ?_) (fun hc => ?_)
          · replace hq := if_y hc hq
            refine lv_aload_n hx hb dX12_jobs_48 rfl (lv_at hl 0 rfl) ?_
            obtain ⟨M6, hg, hq⟩ := bnd_e hq
            refine m_callv (As := []) (rest := []) B hW hl.1 (c_job n M2 hg) mC_job rfl ⟨by decide, by decide⟩ rfl (Nat.le_of_ble_eq_true rfl) dX12_jobs_49 (fun H locs hW => ?_)
            clear hg
            refine lv_iinc (v := v2 + 1) (lv' := [(2, .int (v2 + 1)), (0, .ref G.2.2.1), (1, .int v1)]) hx hb dX12_jobs_52 hl (k := 2) rfl rfl (by decide) rfl (fun ls hl => ?_)
            refine lv_goto (tgt := 7) hx hb dX12_jobs_55 (by decide) ?_
            exact ih M6 v1 (v2 + 1) hq _ _ ls hW (lv_sub hl [1, 2, 0] rfl)
          · replace hq := if_n hc hq
            refine lv_aload_n hx hb dX12_jobs_42 rfl (lv_at hl 0 rfl) ?_
            refine lv_iconst (v := 1) hx hb dX12_jobs_43 (by decide) ?_
            obtain ⟨r8, M7, hg, hq⟩ := bnd2_e hq
            refine m_calli (As := [.int 1]) (rest := []) B hW hl.1 (c_fails M2 1 hg) mC_fails rfl ⟨by decide, by decide⟩ rfl (Nat.le_of_ble_eq_true rfl) dX12_jobs_44 (fun H locs hW => ?_)
            clear hg
            exact m_iret B hW hq dX12_jobs_47
set_option maxHeartbeats 4000000 in
set_option maxRecDepth 100000 in
theorem c_jobs {l : Launch} {D : va_G} {A : Nat → Prop} {G : MG} (n : Nat) (M : MS) (p1 : Int32) {r : Int32} {M' : MS} (hq : q_jobs n M p1 = some (r, M')) : Met l yX12_jobs (wM yX12_jobs prog_14_method_46_code 3 (some .int)) (rM 8 183) (va_Pc [.ref G.2.2.1, .int p1] (mPre D A G M)) (mQi D A G r M') 0 0 A := by
  refine m_head (by decide) rfl (Nat.le_of_ble_eq_true rfl) ?_
  intro p e s m args below meth c ls B hW hl
  have hx := B.1
  have hb := B.2.1
  have hl : lv_has ls 3 [(0, .ref G.2.2.1), (1, .int p1)] := hl
  unfold q_jobs at hq
  refine lv_aload_n hx hb dX12_jobs_0 rfl (lv_at hl 0 rfl) ?_
  refine lv_iconst (v := 0) hx hb dX12_jobs_1 (by decide) ?_
  refine m_put B hW 0 (by decide) u_842 mS_0 rfl (ty := .int) (tyX12_ok 0 (by decide)) rfl rfl (Nat.le_of_ble_eq_true rfl) dX12_jobs_2 (fun H locs M1 eM hW => ?_)
  replace hq := lt9_u eM hq
  clear eM
  refine lv_iconst (v := 0) hx hb dX12_jobs_5 (by decide) ?_
  refine lv_istore_n (lv' := [(2, .int 0), (0, .ref G.2.2.1), (1, .int p1)]) hx hb dX12_jobs_6 rfl hl (by decide) rfl (fun ls hl => ?_)
  exact k_jobs_7 B n M1 p1 0 hq _ _ ls hW (lv_sub hl [1, 2, 0] rfl)
set_option maxHeartbeats 4000000 in
set_option maxRecDepth 100000 in
theorem c_state {l : Launch} {D : va_G} {A : Nat → Prop} {G : MG} (M : MS) (p1 : Int32) {r : Int32} {M' : MS} (hq : q_state M p1 = some (r, M')) : Met l yX12_state (wM yX12_state prog_14_method_47_code 2 (some .int)) (rM 2 43) (va_Pc [.ref G.2.2.1, .int p1] (mPre D A G M)) (mQi D A G r M') 0 0 A := by
  refine m_head (by decide) rfl (Nat.le_of_ble_eq_true rfl) ?_
  intro p e s m args below meth c ls B hW hl
  have hx := B.1
  have hb := B.2.1
  have hl : lv_has ls 2 [(0, .ref G.2.2.1), (1, .int p1)] := hl
  unfold q_state at hq
  refine lv_aload_n hx hb dX12_state_0 rfl (lv_at hl 0 rfl) ?_
  refine lv_iconst (v := 0) hx hb dX12_state_1 (by decide) ?_
  refine m_put B hW 0 (by decide) u_842 mS_0 rfl (ty := .int) (tyX12_ok 0 (by decide)) rfl rfl (Nat.le_of_ble_eq_true rfl) dX12_state_2 (fun H locs M1 eM hW => ?_)
  replace hq := lt9_u eM hq
  clear eM
  refine lv_aload_n hx hb dX12_state_5 rfl (lv_at hl 0 rfl) ?_
  refine lv_iload_n hx hb dX12_state_6 rfl (lv_at hl 1 rfl) ?_
  refine lv_iconst (v := 0) hx hb dX12_state_7 (by decide) ?_
  obtain ⟨r3, M2, hg, hq⟩ := bnd2_e hq
  refine m_calli (As := [.int p1, .int 0]) (rest := []) B hW hl.1 (c_isKind M1 p1 0 hg) mC_isKind rfl ⟨by decide, by decide⟩ rfl (Nat.le_of_ble_eq_true rfl) dX12_state_8 (fun H locs hW => ?_)
  clear hg
  refine lv_if_ne (tgt := 20) hx hb dX12_state_11 (by decide) (fun hc => ?_) (fun hc => ?_)
  · replace hq := if_n hc hq
    refine lv_aload_n hx hb dX12_state_20 rfl (lv_at hl 0 rfl) ?_
    refine m_get B hW 3 (by decide) u_845 (v := .ref (G.2.2.2 3)) rfl dX12_state_21 ?_
    refine lv_bipush (v := (-2)) hx hb dX12_state_24 (by decide) ?_
    refine lv_iload_n hx hb dX12_state_26 rfl (lv_at hl 1 rfl) ?_
    refine lv_isub hx hb dX12_state_27 ?_
    obtain ⟨hc, hq⟩ := chk_e hq
    refine m_iald B hW mA_3 hc dX12_state_28 ?_
    refine lv_aload_n hx hb dX12_state_29 rfl (lv_at hl 0 rfl) ?_
    refine m_get B hW 7 (by decide) u_849 (v := .ref (G.2.2.2 7)) rfl dX12_state_30 ?_
    refine lv_bipush (v := (-2)) hx hb dX12_state_33 (by decide) ?_
    refine lv_iload_n hx hb dX12_state_35 rfl (lv_at hl 1 rfl) ?_
    refine lv_isub hx hb dX12_state_36 ?_
    obtain ⟨hc, hq⟩ := chk_e hq
    refine m_zald B hW mA_7 hc dX12_state_37 ?_
    refine lv_if_eq (tgt := 45) hx hb dX12_state_38 (by decide) (fun hc => ?_) (fun hc => ?_)
    · replace hq := if_y hc hq
      refine lv_iconst (v := 0) hx hb dX12_state_45 (by decide) ?_
      refine lv_iadd hx hb dX12_state_46 ?_
      exact m_iret B hW hq dX12_state_47
    · replace hq := if_n hc hq
      refine lv_iconst (v := 4) hx hb dX12_state_41 (by decide) ?_
      refine lv_goto (tgt := 46) hx hb dX12_state_42 (by decide) ?_
      refine lv_iadd hx hb dX12_state_46 ?_
      exact m_iret B hW hq dX12_state_47
  · replace hq := if_y hc hq
    refine lv_aload_n hx hb dX12_state_14 rfl (lv_at hl 0 rfl) ?_
    refine lv_iconst (v := 1) hx hb dX12_state_15 (by decide) ?_
    obtain ⟨r5, M4, hg, hq⟩ := bnd2_e hq
    refine m_calli (As := [.int 1]) (rest := []) B hW hl.1 (c_fails M2 1 hg) mC_fails rfl ⟨by decide, by decide⟩ rfl (Nat.le_of_ble_eq_true rfl) dX12_state_16 (fun H locs hW => ?_)
    clear hg
    exact m_iret B hW hq dX12_state_19
set_option maxHeartbeats 4000000 in
set_option maxRecDepth 100000 in
theorem c_result {l : Launch} {D : va_G} {A : Nat → Prop} {G : MG} (M : MS) (p1 : Int32) {r : Int32} {M' : MS} (hq : q_result M p1 = some (r, M')) : Met l yX12_result (wM yX12_result prog_14_method_48_code 2 (some .int)) (rM 2 43) (va_Pc [.ref G.2.2.1, .int p1] (mPre D A G M)) (mQi D A G r M') 0 0 A := by
  refine m_head (by decide) rfl (Nat.le_of_ble_eq_true rfl) ?_
  intro p e s m args below meth c ls B hW hl
  have hx := B.1
  have hb := B.2.1
  have hl : lv_has ls 2 [(0, .ref G.2.2.1), (1, .int p1)] := hl
  unfold q_result at hq
  refine lv_aload_n hx hb dX12_result_0 rfl (lv_at hl 0 rfl) ?_
  refine lv_iconst (v := 0) hx hb dX12_result_1 (by decide) ?_
  refine m_put B hW 0 (by decide) u_842 mS_0 rfl (ty := .int) (tyX12_ok 0 (by decide)) rfl rfl (Nat.le_of_ble_eq_true rfl) dX12_result_2 (fun H locs M1 eM hW => ?_)
  replace hq := lt9_u eM hq
  clear eM
  refine lv_aload_n hx hb dX12_result_5 rfl (lv_at hl 0 rfl) ?_
  refine lv_iload_n hx hb dX12_result_6 rfl (lv_at hl 1 rfl) ?_
  refine lv_iconst (v := 0) hx hb dX12_result_7 (by decide) ?_
  obtain ⟨r3, M2, hg, hq⟩ := bnd2_e hq
  refine m_calli (As := [.int p1, .int 0]) (rest := []) B hW hl.1 (c_isKind M1 p1 0 hg) mC_isKind rfl ⟨by decide, by decide⟩ rfl (Nat.le_of_ble_eq_true rfl) dX12_result_8 (fun H locs hW => ?_)
  clear hg
  refine lv_if_eq (tgt := 26) hx hb dX12_result_11 (by decide) (fun hc => ?_) (fun hc => ?_)
  · replace hq := if_y hc hq
    refine lv_aload_n hx hb dX12_result_26 rfl (lv_at hl 0 rfl) ?_
    refine lv_iconst (v := 1) hx hb dX12_result_27 (by decide) ?_
    obtain ⟨r5, M4, hg, hq⟩ := bnd2_e hq
    refine m_calli (As := [.int 1]) (rest := []) B hW hl.1 (c_fails M2 1 hg) mC_fails rfl ⟨by decide, by decide⟩ rfl (Nat.le_of_ble_eq_true rfl) dX12_result_28 (fun H locs hW => ?_)
    clear hg
    exact m_iret B hW hq dX12_result_31
  · replace hq := if_n hc hq
    refine lv_aload_n hx hb dX12_result_14 rfl (lv_at hl 0 rfl) ?_
    refine m_get B hW 4 (by decide) u_846 (v := .ref (G.2.2.2 4)) rfl dX12_result_15 ?_
    refine lv_bipush (v := (-2)) hx hb dX12_result_18 (by decide) ?_
    refine lv_iload_n hx hb dX12_result_20 rfl (lv_at hl 1 rfl) ?_
    refine lv_isub hx hb dX12_result_21 ?_
    obtain ⟨hc, hq⟩ := chk_e hq
    refine m_iald B hW mA_4 hc dX12_result_22 ?_
    refine lv_goto (tgt := 31) hx hb dX12_result_23 (by decide) ?_
    exact m_iret B hW hq dX12_result_31
set_option maxHeartbeats 4000000 in
set_option maxRecDepth 100000 in
theorem c_kind {l : Launch} {D : va_G} {A : Nat → Prop} {G : MG} (M : MS) (p1 : Int32) {r : Int32} {M' : MS} (hq : q_kind M p1 = some (r, M')) : Met l yX12_kind (wM yX12_kind prog_14_method_49_code 2 (some .int)) (rM 1 21) (va_Pc [.ref G.2.2.1, .int p1] (mPre D A G M)) (mQi D A G r M') 0 0 A := by
  refine m_head (by decide) rfl (Nat.le_of_ble_eq_true rfl) ?_
  intro p e s m args below meth c ls B hW hl
  have hx := B.1
  have hb := B.2.1
  have hl : lv_has ls 2 [(0, .ref G.2.2.1), (1, .int p1)] := hl
  unfold q_kind at hq
  refine lv_aload_n hx hb dX12_kind_0 rfl (lv_at hl 0 rfl) ?_
  refine lv_iconst (v := 0) hx hb dX12_kind_1 (by decide) ?_
  refine m_put B hW 0 (by decide) u_842 mS_0 rfl (ty := .int) (tyX12_ok 0 (by decide)) rfl rfl (Nat.le_of_ble_eq_true rfl) dX12_kind_2 (fun H locs M1 eM hW => ?_)
  replace hq := lt9_u eM hq
  clear eM
  refine lv_aload_n hx hb dX12_kind_5 rfl (lv_at hl 0 rfl) ?_
  refine lv_iload_n hx hb dX12_kind_6 rfl (lv_at hl 1 rfl) ?_
  obtain ⟨r3, M2, hg, hq⟩ := bnd2_e hq
  refine m_calli (As := [.int p1]) (rest := []) B hW hl.1 (c_isObject M1 p1 hg) mC_isObject rfl ⟨by decide, by decide⟩ rfl (Nat.le_of_ble_eq_true rfl) dX12_kind_7 (fun H locs hW => ?_)
  clear hg
  refine lv_if_eq (tgt := 25) hx hb dX12_kind_10 (by decide) (fun hc => ?_) (fun hc => ?_)
  · replace hq := if_y hc hq
    refine lv_aload_n hx hb dX12_kind_25 rfl (lv_at hl 0 rfl) ?_
    refine lv_iconst (v := 1) hx hb dX12_kind_26 (by decide) ?_
    obtain ⟨r5, M4, hg, hq⟩ := bnd2_e hq
    refine m_calli (As := [.int 1]) (rest := []) B hW hl.1 (c_fails M2 1 hg) mC_fails rfl ⟨by decide, by decide⟩ rfl (Nat.le_of_ble_eq_true rfl) dX12_kind_27 (fun H locs hW => ?_)
    clear hg
    exact m_iret B hW hq dX12_kind_30
  · replace hq := if_n hc hq
    refine lv_aload_n hx hb dX12_kind_13 rfl (lv_at hl 0 rfl) ?_
    refine m_get B hW 2 (by decide) u_844 (v := .ref (G.2.2.2 2)) rfl dX12_kind_14 ?_
    refine lv_bipush (v := (-2)) hx hb dX12_kind_17 (by decide) ?_
    refine lv_iload_n hx hb dX12_kind_19 rfl (lv_at hl 1 rfl) ?_
    refine lv_isub hx hb dX12_kind_20 ?_
    obtain ⟨hc, hq⟩ := chk_e hq
    refine m_iald B hW mA_2 hc dX12_kind_21 ?_
    refine lv_goto (tgt := 30) hx hb dX12_kind_22 (by decide) ?_
    exact m_iret B hW hq dX12_kind_30
set_option maxHeartbeats 4000000 in
set_option maxRecDepth 100000 in
theorem k_part_96 {p : Program} {l : Launch} {e : Env} {s : State} {m : MethodId} {args : Array Value} {below : List Frame} {meth : Method} {c : Code} {D : va_G} {A : Nat → Prop} {G : MG} {r : Int32} {M' : MS} (B : mB p s m args meth c D G prog_14_method_50_code 4 (some .int) (Cond.code yX12_part prog_14_method_50_code 4 (some .int))) :
    ∀ (M : MS) (v2 v3 : Int32), q_part_96 M v2 v3 = some (r, M') → ∀ (H : Heap) (locs : List Loc) (ls : Array Slot), mOK D A G M s.heap H locs → lv_has ls 4 [(0, .ref G.2.2.1), (2, .int v2), (3, .int v3)] → W p l e (rM 1 21) s m args below meth c H locs 0 0 (MQ below (mQi D A G r M') args s 0 0 A) (F0 m 96 ls []) := by
  have hx := B.1
  have hb := B.2.1
  intro M v2 v3 hq _ _ ls hW hl
  unfold q_part_96 at hq
  refine lv_iload_n hx hb dX12_part_96 rfl (lv_at hl 1 rfl) ?_
  refine lv_iconst (v := (-1)) hx hb dX12_part_97 (by decide) ?_
  refine lv_icmp_lt (tgt := 111) hx hb dX12_part_98 (by decide) (fun hc => ?_) (fun hc => ?_)
  · replace hq := if_y hc hq
    refine lv_aload_n hx hb dX12_part_111 rfl (lv_at hl 0 rfl) ?_
    refine lv_iconst (v := 1) hx hb dX12_part_112 (by decide) ?_
    obtain ⟨r5, M4, hg, hq⟩ := bnd2_e hq
    refine m_calli (As := [.int 1]) (rest := []) B hW hl.1 (c_fails M 1 hg) mC_fails rfl ⟨by decide, by decide⟩ rfl (Nat.le_of_ble_eq_true rfl) dX12_part_113 (fun H locs hW => ?_)
    clear hg
    exact m_iret B hW hq dX12_part_116
  · replace hq := if_n hc hq
    refine lv_iload_n hx hb dX12_part_101 rfl (lv_at hl 1 rfl) ?_
    refine lv_aload_n hx hb dX12_part_102 rfl (lv_at hl 0 rfl) ?_
    refine m_get B hW 9 (by decide) u_851 (v := .ref (G.2.2.2 9)) rfl dX12_part_103 ?_
    refine lv_iload_n hx hb dX12_part_106 rfl (lv_at hl 2 rfl) ?_
    obtain ⟨hc, hq⟩ := chk_e hq
    refine m_iald B hW mA_9 hc dX12_part_107 ?_
    refine lv_icmp_lt (tgt := 117) hx hb dX12_part_108 (by decide) (fun hc => ?_) (fun hc => ?_)
    · replace hq := if_y hc hq
      refine lv_iload_n hx hb dX12_part_117 rfl (lv_at hl 1 rfl) ?_
      refine lv_iconst (v := (-1)) hx hb dX12_part_118 (by decide) ?_
      refine lv_icmp_ne (tgt := 131) hx hb dX12_part_119 (by decide) (fun hc => ?_) (fun hc => ?_)
      · replace hq := if_n hc hq
        refine lv_aload_n hx hb dX12_part_131 rfl (lv_at hl 0 rfl) ?_
        refine m_get B hW 39 (by decide) u_881 (v := .ref (G.2.2.2 39)) rfl dX12_part_132 ?_
        refine lv_aload_n hx hb dX12_part_135 rfl (lv_at hl 0 rfl) ?_
        refine m_get B hW 8 (by decide) u_850 (v := .ref (G.2.2.2 8)) rfl dX12_part_136 ?_
        refine lv_iload_n hx hb dX12_part_139 rfl (lv_at hl 2 rfl) ?_
        obtain ⟨hc, hq⟩ := chk_e hq
        refine m_iald B hW mA_8 hc dX12_part_140 ?_
        refine lv_iload_n hx hb dX12_part_141 rfl (lv_at hl 1 rfl) ?_
        refine lv_iadd hx hb dX12_part_142 ?_
        obtain ⟨hc, hq⟩ := chk_e hq
        refine m_iald B hW mA_39 hc dX12_part_143 ?_
        exact m_iret B hW hq dX12_part_144
      · replace hq := if_y hc hq
        refine lv_aload_n hx hb dX12_part_122 rfl (lv_at hl 0 rfl) ?_
        refine m_get B hW 9 (by decide) u_851 (v := .ref (G.2.2.2 9)) rfl dX12_part_123 ?_
        refine lv_iload_n hx hb dX12_part_126 rfl (lv_at hl 2 rfl) ?_
        obtain ⟨hc, hq⟩ := chk_e hq
        refine m_iald B hW mA_9 hc dX12_part_127 ?_
        refine lv_goto (tgt := 144) hx hb dX12_part_128 (by decide) ?_
        exact m_iret B hW hq dX12_part_144
    · replace hq := if_n hc hq
      refine lv_aload_n hx hb dX12_part_111 rfl (lv_at hl 0 rfl) ?_
      refine lv_iconst (v := 1) hx hb dX12_part_112 (by decide) ?_
      obtain ⟨r7, M6, hg, hq⟩ := bnd2_e hq
      refine m_calli (As := [.int 1]) (rest := []) B hW hl.1 (c_fails M 1 hg) mC_fails rfl ⟨by decide, by decide⟩ rfl (Nat.le_of_ble_eq_true rfl) dX12_part_113 (fun H locs hW => ?_)
      clear hg
      exact m_iret B hW hq dX12_part_116
set_option maxHeartbeats 4000000 in
set_option maxRecDepth 100000 in
theorem c_part {l : Launch} {D : va_G} {A : Nat → Prop} {G : MG} (M : MS) (p1 p2 : Int32) {r : Int32} {M' : MS} (hq : q_part M p1 p2 = some (r, M')) : Met l yX12_part (wM yX12_part prog_14_method_50_code 4 (some .int)) (rM 1 21) (va_Pc [.ref G.2.2.1, .int p1, .int p2] (mPre D A G M)) (mQi D A G r M') 0 0 A := by
  refine m_head (by decide) rfl (Nat.le_of_ble_eq_true rfl) ?_
  intro p e s m args below meth c ls B hW hl
  have hx := B.1
  have hb := B.2.1
  have hl : lv_has ls 4 [(0, .ref G.2.2.1), (1, .int p1), (2, .int p2)] := hl
  unfold q_part at hq
  refine lv_aload_n hx hb dX12_part_0 rfl (lv_at hl 0 rfl) ?_
  refine lv_iconst (v := 0) hx hb dX12_part_1 (by decide) ?_
  refine m_put B hW 0 (by decide) u_842 mS_0 rfl (ty := .int) (tyX12_ok 0 (by decide)) rfl rfl (Nat.le_of_ble_eq_true rfl) dX12_part_2 (fun H locs M1 eM hW => ?_)
  replace hq := lt9_u eM hq
  clear eM
  refine lv_aload_n hx hb dX12_part_5 rfl (lv_at hl 0 rfl) ?_
  refine lv_iload_n hx hb dX12_part_6 rfl (lv_at hl 1 rfl) ?_
  obtain ⟨r3, M2, hg, hq⟩ := bnd2_e hq
  refine m_calli (As := [.int p1]) (rest := []) B hW hl.1 (c_isObject M1 p1 hg) mC_isObject rfl ⟨by decide, by decide⟩ rfl (Nat.le_of_ble_eq_true rfl) dX12_part_7 (fun H locs hW => ?_)
  clear hg
  refine lv_if_ne (tgt := 19) hx hb dX12_part_10 (by decide) (fun hc => ?_) (fun hc => ?_)
  · replace hq := if_n hc hq
    refine lv_bipush (v := (-2)) hx hb dX12_part_19 (by decide) ?_
    refine lv_iload_n hx hb dX12_part_21 rfl (lv_at hl 1 rfl) ?_
    refine lv_isub hx hb dX12_part_22 ?_
    refine lv_istore_n (lv' := [(3, .int ((-2) - p1)), (0, .ref G.2.2.1), (1, .int p1), (2, .int p2)]) hx hb dX12_part_23 rfl hl (by decide) rfl (fun ls hl => ?_)
    refine lv_aload_n hx hb dX12_part_24 rfl (lv_at hl 1 rfl) ?_
    refine m_get B hW 2 (by decide) u_844 (v := .ref (G.2.2.2 2)) rfl dX12_part_25 ?_
    refine lv_iload_n hx hb dX12_part_28 rfl (lv_at hl 0 rfl) ?_
    obtain ⟨hc, hq⟩ := chk_e hq
    refine m_iald B hW mA_2 hc dX12_part_29 ?_
    refine lv_iconst (v := 5) hx hb dX12_part_30 (by decide) ?_
    refine lv_icmp_ne (tgt := 76) hx hb dX12_part_31 (by decide) (fun hc => ?_) (fun hc => ?_)
    · replace hq := if_n hc hq
      refine lv_aload_n hx hb dX12_part_76 rfl (lv_at hl 1 rfl) ?_
      refine m_get B hW 2 (by decide) u_844 (v := .ref (G.2.2.2 2)) rfl dX12_part_77 ?_
      refine lv_iload_n hx hb dX12_part_80 rfl (lv_at hl 0 rfl) ?_
      obtain ⟨hc, hq⟩ := chk_e hq
      refine m_iald B hW mA_2 hc dX12_part_81 ?_
      refine lv_iconst (v := 4) hx hb dX12_part_82 (by decide) ?_
      refine lv_icmp_eq (tgt := 96) hx hb dX12_part_83 (by decide) (fun hc => ?_) (fun hc => ?_)
      · replace hq := if_y hc hq
        exact k_part_96 B M2 p2 ((-2) - p1) hq _ _ ls hW (lv_sub hl [1, 3, 0] rfl)
      · replace hq := if_n hc hq
        refine lv_aload_n hx hb dX12_part_86 rfl (lv_at hl 1 rfl) ?_
        refine m_get B hW 2 (by decide) u_844 (v := .ref (G.2.2.2 2)) rfl dX12_part_87 ?_
        refine lv_iload_n hx hb dX12_part_90 rfl (lv_at hl 0 rfl) ?_
        obtain ⟨hc, hq⟩ := chk_e hq
        refine m_iald B hW mA_2 hc dX12_part_91 ?_
        refine lv_iconst (v := 3) hx hb dX12_part_92 (by decide) ?_
        refine lv_icmp_ne (tgt := 111) hx hb dX12_part_93 (by decide) (fun hc => ?_) (fun hc => ?_)
        · replace hq := if_n hc hq
          refine lv_aload_n hx hb dX12_part_111 rfl (lv_at hl 1 rfl) ?_
          refine lv_iconst (v := 1) hx hb dX12_part_112 (by decide) ?_
          obtain ⟨r9, M8, hg, hq⟩ := bnd2_e hq
          refine m_calli (As := [.int 1]) (rest := []) B hW hl.1 (c_fails M2 1 hg) mC_fails rfl ⟨by decide, by decide⟩ rfl (Nat.le_of_ble_eq_true rfl) dX12_part_113 (fun H locs hW => ?_)
          clear hg
          exact m_iret B hW hq dX12_part_116
        · replace hq := if_y hc hq
          exact k_part_96 B M2 p2 ((-2) - p1) hq _ _ ls hW (lv_sub hl [1, 3, 0] rfl)
    · replace hq := if_y hc hq
      refine lv_iload_n hx hb dX12_part_34 rfl (lv_at hl 3 rfl) ?_
      refine lv_iconst (v := (-1)) hx hb dX12_part_35 (by decide) ?_
      refine lv_icmp_ne (tgt := 43) hx hb dX12_part_36 (by decide) (fun hc => ?_) (fun hc => ?_)
      · replace hq := if_n hc hq
        refine lv_iload_n hx hb dX12_part_43 rfl (lv_at hl 3 rfl) ?_
        refine lv_if_ne (tgt := 56) hx hb dX12_part_44 (by decide) (fun hc => ?_) (fun hc => ?_)
        · replace hq := if_n hc hq
          refine lv_iload_n hx hb dX12_part_56 rfl (lv_at hl 3 rfl) ?_
          refine lv_iconst (v := 1) hx hb dX12_part_57 (by decide) ?_
          refine lv_icmp_ne (tgt := 70) hx hb dX12_part_58 (by decide) (fun hc => ?_) (fun hc => ?_)
          · replace hq := if_n hc hq
            refine lv_aload_n hx hb dX12_part_70 rfl (lv_at hl 1 rfl) ?_
            refine lv_iconst (v := 1) hx hb dX12_part_71 (by decide) ?_
            obtain ⟨r11, M10, hg, hq⟩ := bnd2_e hq
            refine m_calli (As := [.int 1]) (rest := []) B hW hl.1 (c_fails M2 1 hg) mC_fails rfl ⟨by decide, by decide⟩ rfl (Nat.le_of_ble_eq_true rfl) dX12_part_72 (fun H locs hW => ?_)
            clear hg
            exact m_iret B hW hq dX12_part_75
          · replace hq := if_y hc hq
            refine lv_aload_n hx hb dX12_part_61 rfl (lv_at hl 1 rfl) ?_
            refine m_get B hW 9 (by decide) u_851 (v := .ref (G.2.2.2 9)) rfl dX12_part_62 ?_
            refine lv_iload_n hx hb dX12_part_65 rfl (lv_at hl 0 rfl) ?_
            obtain ⟨hc, hq⟩ := chk_e hq
            refine m_iald B hW mA_9 hc dX12_part_66 ?_
            refine lv_goto (tgt := 75) hx hb dX12_part_67 (by decide) ?_
            exact m_iret B hW hq dX12_part_75
        · replace hq := if_y hc hq
          refine lv_aload_n hx hb dX12_part_47 rfl (lv_at hl 1 rfl) ?_
          refine m_get B hW 8 (by decide) u_850 (v := .ref (G.2.2.2 8)) rfl dX12_part_48 ?_
          refine lv_iload_n hx hb dX12_part_51 rfl (lv_at hl 0 rfl) ?_
          obtain ⟨hc, hq⟩ := chk_e hq
          refine m_iald B hW mA_8 hc dX12_part_52 ?_
          refine lv_goto (tgt := 75) hx hb dX12_part_53 (by decide) ?_
          exact m_iret B hW hq dX12_part_75
      · replace hq := if_y hc hq
        refine lv_iconst (v := 2) hx hb dX12_part_39 (by decide) ?_
        refine lv_goto (tgt := 75) hx hb dX12_part_40 (by decide) ?_
        exact m_iret B hW hq dX12_part_75
  · replace hq := if_y hc hq
    refine lv_aload_n hx hb dX12_part_13 rfl (lv_at hl 0 rfl) ?_
    refine lv_iconst (v := 1) hx hb dX12_part_14 (by decide) ?_
    obtain ⟨r13, M12, hg, hq⟩ := bnd2_e hq
    refine m_calli (As := [.int 1]) (rest := []) B hW hl.1 (c_fails M2 1 hg) mC_fails rfl ⟨by decide, by decide⟩ rfl (Nat.le_of_ble_eq_true rfl) dX12_part_15 (fun H locs hW => ?_)
    clear hg
    exact m_iret B hW hq dX12_part_18
set_option maxHeartbeats 4000000 in
set_option maxRecDepth 100000 in
theorem c_log {l : Launch} {D : va_G} {A : Nat → Prop} {G : MG} (M : MS) (p1 p2 : Int32) {r : Int32} {M' : MS} (hq : q_log M p1 p2 = some (r, M')) : Met l yX12_log (wM yX12_log prog_14_method_51_code 3 (some .int)) (rM 0 0) (va_Pc [.ref G.2.2.1, .int p1, .int p2] (mPre D A G M)) (mQi D A G r M') 0 0 A := by
  refine m_head (by decide) rfl (Nat.le_of_ble_eq_true rfl) ?_
  intro p e s m args below meth c ls B hW hl
  have hx := B.1
  have hb := B.2.1
  have hl : lv_has ls 3 [(0, .ref G.2.2.1), (1, .int p1), (2, .int p2)] := hl
  unfold q_log at hq
  refine lv_aload_n hx hb dX12_log_0 rfl (lv_at hl 0 rfl) ?_
  refine lv_iconst (v := 0) hx hb dX12_log_1 (by decide) ?_
  refine m_put B hW 0 (by decide) u_842 mS_0 rfl (ty := .int) (tyX12_ok 0 (by decide)) rfl rfl (Nat.le_of_ble_eq_true rfl) dX12_log_2 (fun H locs M1 eM hW => ?_)
  replace hq := lt9_u eM hq
  clear eM
  refine lv_iload_n hx hb dX12_log_5 rfl (lv_at hl 1 rfl) ?_
  refine lv_if_lt (tgt := 17) hx hb dX12_log_6 (by decide) (fun hc => ?_) (fun hc => ?_)
  · replace hq := if_y hc hq
    refine lv_ldcw (v := (-1000000)) hx hb B.2.2.2.2.1 (B.2.2.2.2.2.1 _ (List.mem_cons_of_mem _ u_1199)) dX12_log_17 ?_
    exact m_iret B hW hq dX12_log_20
  · replace hq := if_n hc hq
    refine lv_iload_n hx hb dX12_log_9 rfl (lv_at hl 1 rfl) ?_
    refine lv_aload_n hx hb dX12_log_10 rfl (lv_at hl 0 rfl) ?_
    refine m_get B hW 36 (by decide) u_878 (v := .int (M1 36 0)) rfl dX12_log_11 ?_
    refine lv_icmp_lt (tgt := 21) hx hb dX12_log_14 (by decide) (fun hc => ?_) (fun hc => ?_)
    · replace hq := if_y hc hq
      refine lv_iload_n hx hb dX12_log_21 rfl (lv_at hl 2 rfl) ?_
      refine lv_if_eq (tgt := 34) hx hb dX12_log_22 (by decide) (fun hc => ?_) (fun hc => ?_)
      · replace hq := if_y hc hq
        refine lv_aload_n hx hb dX12_log_34 rfl (lv_at hl 0 rfl) ?_
        refine m_get B hW 34 (by decide) u_876 (v := .ref (G.2.2.2 34)) rfl dX12_log_35 ?_
        refine lv_iload_n hx hb dX12_log_38 rfl (lv_at hl 1 rfl) ?_
        obtain ⟨hc, hq⟩ := chk_e hq
        refine m_iald B hW mA_34 hc dX12_log_39 ?_
        exact m_iret B hW hq dX12_log_40
      · replace hq := if_n hc hq
        refine lv_aload_n hx hb dX12_log_25 rfl (lv_at hl 0 rfl) ?_
        refine m_get B hW 35 (by decide) u_877 (v := .ref (G.2.2.2 35)) rfl dX12_log_26 ?_
        refine lv_iload_n hx hb dX12_log_29 rfl (lv_at hl 1 rfl) ?_
        obtain ⟨hc, hq⟩ := chk_e hq
        refine m_iald B hW mA_35 hc dX12_log_30 ?_
        refine lv_goto (tgt := 40) hx hb dX12_log_31 (by decide) ?_
        exact m_iret B hW hq dX12_log_40
    · replace hq := if_n hc hq
      refine lv_ldcw (v := (-1000000)) hx hb B.2.2.2.2.1 (B.2.2.2.2.2.1 _ (List.mem_cons_of_mem _ u_1199)) dX12_log_17 ?_
      exact m_iret B hW hq dX12_log_20
set_option maxHeartbeats 4000000 in
set_option maxRecDepth 100000 in
theorem c_count {l : Launch} {D : va_G} {A : Nat → Prop} {G : MG} (M : MS) (p1 : Int32) {r : Int32} {M' : MS} (hq : q_count M p1 = some (r, M')) : Met l yX12_count (wM yX12_count prog_14_method_52_code 2 (some .int)) (rM 1 21) (va_Pc [.ref G.2.2.1, .int p1] (mPre D A G M)) (mQi D A G r M') 0 0 A := by
  refine m_head (by decide) rfl (Nat.le_of_ble_eq_true rfl) ?_
  intro p e s m args below meth c ls B hW hl
  have hx := B.1
  have hb := B.2.1
  have hl : lv_has ls 2 [(0, .ref G.2.2.1), (1, .int p1)] := hl
  unfold q_count at hq
  refine lv_aload_n hx hb dX12_count_0 rfl (lv_at hl 0 rfl) ?_
  refine lv_iconst (v := 0) hx hb dX12_count_1 (by decide) ?_
  refine m_put B hW 0 (by decide) u_842 mS_0 rfl (ty := .int) (tyX12_ok 0 (by decide)) rfl rfl (Nat.le_of_ble_eq_true rfl) dX12_count_2 (fun H locs M1 eM hW => ?_)
  replace hq := lt9_u eM hq
  clear eM
  refine lv_iload_n hx hb dX12_count_5 rfl (lv_at hl 1 rfl) ?_
  by_cases hc0 : p1 = 0
  · replace hq := if_y hc0 hq
    refine lv_tableIn (off := 34) (tgt := 40) hx hb dX12_count_6 (by rw [hc0]; decide) (by rw [hc0]; decide) (by rw [hc0]; rfl) (by decide) ?_
    refine lv_aload_n hx hb dX12_count_40 rfl (lv_at hl 0 rfl) ?_
    refine m_get B hW 1 (by decide) u_843 (v := .int (M1 1 0)) rfl dX12_count_41 ?_
    exact m_iret B hW hq dX12_count_44
  replace hq := if_n hc0 hq
  by_cases hc1 : p1 = 1
  · replace hq := if_y hc1 hq
    refine lv_tableIn (off := 39) (tgt := 45) hx hb dX12_count_6 (by rw [hc1]; decide) (by rw [hc1]; decide) (by rw [hc1]; rfl) (by decide) ?_
    refine lv_aload_n hx hb dX12_count_45 rfl (lv_at hl 0 rfl) ?_
    refine m_get B hW 30 (by decide) u_872 (v := .int (M1 30 0)) rfl dX12_count_46 ?_
    refine lv_aload_n hx hb dX12_count_49 rfl (lv_at hl 0 rfl) ?_
    refine m_get B hW 29 (by decide) u_871 (v := .int (M1 29 0)) rfl dX12_count_50 ?_
    refine lv_isub hx hb dX12_count_53 ?_
    exact m_iret B hW hq dX12_count_54
  replace hq := if_n hc1 hq
  by_cases hc2 : p1 = 2
  · replace hq := if_y hc2 hq
    refine lv_tableIn (off := 49) (tgt := 55) hx hb dX12_count_6 (by rw [hc2]; decide) (by rw [hc2]; decide) (by rw [hc2]; rfl) (by decide) ?_
    refine lv_aload_n hx hb dX12_count_55 rfl (lv_at hl 0 rfl) ?_
    refine m_get B hW 36 (by decide) u_878 (v := .int (M1 36 0)) rfl dX12_count_56 ?_
    exact m_iret B hW hq dX12_count_59
  replace hq := if_n hc2 hq
  by_cases hc3 : p1 = 3
  · replace hq := if_y hc3 hq
    refine lv_tableIn (off := 54) (tgt := 60) hx hb dX12_count_6 (by rw [hc3]; decide) (by rw [hc3]; decide) (by rw [hc3]; rfl) (by decide) ?_
    refine lv_aload_n hx hb dX12_count_60 rfl (lv_at hl 0 rfl) ?_
    refine m_get B hW 38 (by decide) u_880 (v := .int (M1 38 0)) rfl dX12_count_61 ?_
    exact m_iret B hW hq dX12_count_64
  replace hq := if_n hc3 hq
  by_cases hc4 : p1 = 4
  · replace hq := if_y hc4 hq
    refine lv_tableIn (off := 59) (tgt := 65) hx hb dX12_count_6 (by rw [hc4]; decide) (by rw [hc4]; decide) (by rw [hc4]; rfl) (by decide) ?_
    refine lv_aload_n hx hb dX12_count_65 rfl (lv_at hl 0 rfl) ?_
    refine m_get B hW 33 (by decide) u_875 (v := .int (M1 33 0)) rfl dX12_count_66 ?_
    exact m_iret B hW hq dX12_count_69
  replace hq := if_n hc4 hq
  have hd0 : (p1).toInt ≠ 0 := fun e9 => hc0 (Int32.toInt_inj.mp (e9.trans (by decide)))
  have hd1 : (p1).toInt ≠ 1 := fun e9 => hc1 (Int32.toInt_inj.mp (e9.trans (by decide)))
  have hd2 : (p1).toInt ≠ 2 := fun e9 => hc2 (Int32.toInt_inj.mp (e9.trans (by decide)))
  have hd3 : (p1).toInt ≠ 3 := fun e9 => hc3 (Int32.toInt_inj.mp (e9.trans (by decide)))
  have hd4 : (p1).toInt ≠ 4 := fun e9 => hc4 (Int32.toInt_inj.mp (e9.trans (by decide)))
  refine lv_tableOut (tgt := 70) hx hb dX12_count_6 (by omega) (by decide) ?_
  refine lv_aload_n hx hb dX12_count_70 rfl (lv_at hl 0 rfl) ?_
  refine lv_iconst (v := 1) hx hb dX12_count_71 (by decide) ?_
  obtain ⟨r3, M2, hg, hq⟩ := bnd2_e hq
  refine m_calli (As := [.int 1]) (rest := []) B hW hl.1 (c_fails M1 1 hg) mC_fails rfl ⟨by decide, by decide⟩ rfl (Nat.le_of_ble_eq_true rfl) dX12_count_72 (fun H locs hW => ?_)
  clear hg
  exact m_iret B hW hq dX12_count_75
end
section
/-! ===== BEGIN exceptions that leave a method, and their catching by the caller (launches without stack traces) ===== -/
section VXA
/-! The laws vx_back, vx_callV, vx_callS, vx_callSW, vx_throw0, vx_throwS follow proofs of the library, with one case more: JvmDerived/Free/Laws.lean (Back.of_free), Shelf42/LK1.lean (callV, callS), Shelf/KitTraced.lean (throwNew0V, throwNewS). -/
/-- where a method has thrown q: the class by its name, the cell, what was written, the world -/
def vx_T (XC : String → State → State → Prop) (st : State) (q : Addr) (t : State) (mc ms : Nat) (free : Addr → Prop) : Prop :=
  ∃ (E : String) (ce : Cell) (L : List Loc), XC E st t ∧ t.heap[q]? = some ce ∧ ce.vm = .none ∧ st.vm.findClass E = some ce.cls ∧ st.WarmedH t.vm ∧ st.sameButNew ({ t with vm := st.vm } : State) L mc ms ∧ ∀ z ∈ L, free z.base
def vx_Q (Qc : Array Value → State → Outcome → State → Prop) (XC : String → State → State → Prop) (mc ms : Nat) (free : Addr → Prop) : Array Value → State → Outcome → State → Prop := fun a st o t =>
  (Qc a st o t ∧ ∃ L, FrameEnd st o t L mc ms ∧ ∀ q ∈ L, free q.base) ∨ ∃ q, o = .threw q ∧ vx_T XC st q t mc ms free
/-- a callee that returns or throws -/
def vx_Met (l : Launch) (y : MethodName) (ws : List Cond) (rm : Room) (Pc : Array Value → State → Prop) (Qc : Array Value → State → Outcome → State → Prop) (XC : String → State → State → Prop) (mc ms : Nat) (free : Addr → Prop) : Prop :=
  MetFree l y (headSpec ws rm) Pc (fun _ _ _ _ _ => True) (vx_Q Qc XC mc ms free)
def vx_Post (XC : String → State → State → Prop) (mc ms : Nat) (free : Addr → Prop) : Pt → Array Value → Addr → Pt → Prop := fun A a q B =>
  ∃ (g : JFrame) (mk : MethodId) (t : State) (L : List Loc) (E : String) (ce : Cell), B.U.heap = t.heap ∧ B.U.vm = t.vm ∧ XC E (A.U.calling g mk a) t ∧ t.heap[q]? = some ce ∧ ce.vm = .none ∧ A.U.vm.findClass E = some ce.cls ∧ B.locs = A.locs ++ L ∧ (∀ z ∈ L, free z.base) ∧ B.cells = A.cells + mc ∧ B.slots = A.slots + ms
def vx_Back (l : Launch) (R : Room) (p : Program) (e : Env) (below : List Frame) (s : State) (sargs : Array Value) (y : MethodName) (len W9 : Nat)
    (Pre : Pt → Array Value → Prop) (Post : Pt → Array Value → Option Value → Pt → Prop) (PostX : Pt → Array Value → Addr → Pt → Prop) : Prop :=
  ∀ (m : MethodId) (meth : Method) (c : Code) (A : Pt) (g : JFrame) (ig : Instr) (mk : MethodId) (a : Array Value),
    Stand p l e R s m sargs below meth c A.U A.locs A.cells A.slots → g.method = m → g.locals.size = c.maxLocals → decode c.code g.pc = .ok (ig, len) →
    2 * g.monitorRoom + (g.stack.map fun v => v.category).sum ≤ W9 → A.U.methodNamed? y = some mk → Pre A a →
    (∃ (v : Option Value) (B : Pt), Stand p l e R s m sargs below meth c B.U B.locs B.cells B.slots ∧ Post A a v B ∧
      Steps p.tables e below (doInvoke e (A.U.setTop g) [] mk a).1 (B.U.setTop { g with pc := g.pc + len, stack := v.toList ++ g.stack })) ∨
    (∃ (q : Addr) (B : Pt), Stand p l e R s m sargs below meth c B.U B.locs B.cells B.slots ∧ PostX A a q B ∧
      Steps p.tables e below (doInvoke e (A.U.setTop g) [] mk a).1 ((B.U.setTop g).pushFrame (.throwing q)))
section Payer
variable {l : Launch} {R : Room} {p : Program} {e : Env} {below : List Frame} {s : State} {sargs : Array Value} {y : MethodName} {len W9 : Nat}
theorem vx_back {ws : List Cond} {rm : Room} {Pc : Array Value → State → Prop} {Qc : Array Value → State → Outcome → State → Prop} {XC : String → State → State → Prop} {mc ms : Nat} {free : Addr → Prop} {bytes : ByteArray} {maxL : Nat} {ret : Option FieldType}
    (hM : vx_Met l y ws rm Pc Qc XC mc ms free) (hblind : FrameBlind Pc) (hrc : rm.cells = mc) (hrs : rm.slots = ms)
    (hframes : rm.frames + 1 ≤ R.frames) (hlocals : W9 + (maxL + 11) + rm.locals ≤ R.locals)
    (hws : ∀ w ∈ ws, ∀ a' U, s.WarmedH U.vm → w.before a' U = true) (hcode : Cond.code y bytes maxL ret ∈ ws) (hinit : ∀ a' U, s.WarmedH U.vm → (Cond.initialized y.cls).before a' U = true) :
    vx_Back l R p e below s sargs y len W9 (PreOf R mc ms Pc) (PostOf Qc mc ms free) (vx_Post XC mc ms free) := by
  intro m meth c A g ig mk a X hg hsize hdg hW hn hp
  have h1 : (headSpec ws rm).pre.before a A.U = true := atoms_intro fun w hw => hws w hw _ _ X.warmed
  have h2 : (Cond.code y bytes maxL ret).before a A.U = true := hws _ hcode _ _ X.warmed
  have h3 : (Cond.initialized y.cls).before a A.U = true := hinit _ _ X.warmed
  have h4 : A.cells + (headSpec ws rm).room.cells ≤ R.cells := by rw [show (headSpec ws rm).room.cells = mc from hrc]; exact hp.1
  have h5 : A.slots + (headSpec ws rm).room.slots ≤ R.slots := by rw [show (headSpec ws rm).room.slots = ms from hrs]; exact hp.2.1
  have hPc : Pc a (A.U.calling g mk a) := hblind _ _ _ _ hp.2.2
  obtain ⟨U, Ls, c0, s0⟩ := A
  dsimp only [Pt.U, Pt.locs, Pt.cells, Pt.slots] at h1 h2 h3 h4 h5 X hn hPc ⊢
  obtain ⟨methY, cY, hmY, hcY, -, hlY, -, -, -, -⟩ := Cond.code_spec hn h2
  obtain ⟨kY, hkY, -⟩ := className_of_methodNamed hn
  have hinitY : kY.init = .initialized := Cond.initialized_spec (findClass_of_methodNamed hn) hkY h3
  have h : At U g.method c below := by rw [hg]; exact X.here
  have hlocals9 : W9 + (maxL + 11) + (headSpec ws rm).room.locals ≤ R.locals := hlocals
  have happ : (headSpec ws rm).appliesLoose y e.platform (U.calling g mk a) = true :=
    Spec.appliesLoose_calling (g := g) h hdg hn hkY hinitY
      (X.room_calling (g := g) (R' := (headSpec ws rm).room) hsize hmY hcY hframes (by rw [hlY]; omega) h4 h5) h1
  obtain ⟨mid, hmid⟩ := h.above
  have hfr : (U.setTop g).frames = (.java g :: mid) ++ below := by rw [State.frames_setTop' g h.top, hmid]; rfl
  obtain ⟨o, s₂, hsteps, -, hend, hq⟩ := Steps.callFree hM p X.admits X.cas X.clock (acts := []) hfr happ hPc trivial
  have hq' : vx_Q Qc XC mc ms free a (U.calling g mk a) o s₂ := hq
  rw [State.frames_setTop' g h.top] at hend
  obtain ⟨g₀, hg0⟩ := Option.isSome_iff_exists.mp h.top
  obtain ⟨r, hr⟩ := State.topJava?_eq_some.mp hg0
  have hr' : (({ U with heap := s₂.heap, slotsUsed := s₂.slotsUsed } : State).setVm s₂.vm).frames = .java g₀ :: r := hr
  rcases hq' with ⟨hqc, L, hfe, hL⟩ | ⟨q, rfl, E, ce, L, hx, hce, hcv, hcl, hW₂, hsm, hL⟩
  · obtain ⟨⟨v, rfl⟩, hW₂, e2, q2, q3, q4, q5, q6⟩ := id hfe
    have e3 : s₂ = ({ (U.calling g mk a).setFrames s₂.frames with heap := s₂.heap, slotsUsed := s₂.slotsUsed } : State).setVm s₂.vm := by
      have : s₂ = ({ s₂ with vm := (U.calling g mk a).vm } : State).setVm s₂.vm := rfl
      rw [e2] at this
      exact this
    obtain ⟨c₂, i₂, len₂, hc₂, hd₂, hf₂⟩ := hend
    have hW' : U.WarmedH s₂.vm := hW₂
    have hcc : c₂ = c := by
      have h1 : s₂.code? g.method = U.code? g.method := by
        rw [State.code?_eq, State.code?_eq, hW'.alike.method?]
      exact Option.some.inj (hc₂.symm.trans (h1.trans h.code))
    subst hcc
    have hlen : len₂ = len := by rw [hdg] at hd₂; cases hd₂; rfl
    subst hlen
    have hs₂ : s₂ = (({ U with heap := s₂.heap, slotsUsed := s₂.slotsUsed } : State).setVm s₂.vm).setTop { g with pc := g.pc + len₂, stack := v.toList ++ g.stack } := by
      refine e3.trans ?_
      rw [hf₂, State.calling_eq h.top, State.setFrames_setFrames, State.setTop_of_frames _ hr', hr]
      rfl
    have hsame : U.sameButNew ({ U with heap := s₂.heap, slotsUsed := s₂.slotsUsed } : State) L mc ms := by
      refine ⟨?_, q2, q3, q4, q5, q6⟩
      obtain ⟨t, ht, -⟩ := State.frames_cons hr
      show ({ U with heap := s₂.heap, slotsUsed := s₂.slotsUsed } : State) = { U.setFrames U.frames with heap := s₂.heap, slotsUsed := s₂.slotsUsed }
      rw [State.setFrames_self ht]
    subst hg
    refine Or.inl ⟨v, ⟨(({ U with heap := s₂.heap, slotsUsed := s₂.slotsUsed } : State).setVm s₂.vm), Ls ++ L, c0 + mc, s0 + ms⟩,
      ⟨X.admits, X.cas, X.clock, X.frames, X.room, X.hears, X.method, X.code, (X.here.setHeapUsed s₂.heap s₂.slotsUsed).setVm hW'.alike, X.tail, State.WarmedH.trans X.warmed hW', X.limits, X.bytes, X.same.trans (hsame.setVm s.vm)⟩,
      ⟨g, mk, s₂, L, rfl, rfl, hqc, rfl, hL, rfl, rfl⟩, ?_⟩
    show Steps p.tables e below _ ((({ U with heap := s₂.heap, slotsUsed := s₂.slotsUsed } : State).setVm s₂.vm).setTop { g with pc := g.pc + len₂, stack := v.toList ++ g.stack })
    rw [← hs₂]
    exact hsteps
  · obtain ⟨e2, q2, q3, q4, q5, q6⟩ := id hsm
    have e3 : s₂ = ({ (U.calling g mk a).setFrames s₂.frames with heap := s₂.heap, slotsUsed := s₂.slotsUsed } : State).setVm s₂.vm := by
      have : s₂ = ({ s₂ with vm := (U.calling g mk a).vm } : State).setVm s₂.vm := rfl
      rw [e2] at this
      exact this
    have hf₂ : s₂.frames = .throwing q :: .java g :: U.frames.tail := hend
    have hW' : U.WarmedH s₂.vm := hW₂
    have hs₂ : s₂ = ((({ U with heap := s₂.heap, slotsUsed := s₂.slotsUsed } : State).setVm s₂.vm).setTop g).pushFrame (.throwing q) := by
      refine e3.trans ?_
      rw [hf₂, State.calling_eq h.top, State.setFrames_setFrames, State.pushFrame, State.frames_setTop _ hr', State.setTop_of_frames _ hr', State.setFrames_setFrames, hr]
      rfl
    have hsame : U.sameButNew ({ U with heap := s₂.heap, slotsUsed := s₂.slotsUsed } : State) L mc ms := by
      refine ⟨?_, q2, q3, q4, q5, q6⟩
      obtain ⟨t, ht, -⟩ := State.frames_cons hr
      show ({ U with heap := s₂.heap, slotsUsed := s₂.slotsUsed } : State) = { U.setFrames U.frames with heap := s₂.heap, slotsUsed := s₂.slotsUsed }
      rw [State.setFrames_self ht]
    subst hg
    refine Or.inr ⟨q, ⟨(({ U with heap := s₂.heap, slotsUsed := s₂.slotsUsed } : State).setVm s₂.vm), Ls ++ L, c0 + mc, s0 + ms⟩,
      ⟨X.admits, X.cas, X.clock, X.frames, X.room, X.hears, X.method, X.code, (X.here.setHeapUsed s₂.heap s₂.slotsUsed).setVm hW'.alike, X.tail, State.WarmedH.trans X.warmed hW', X.limits, X.bytes, X.same.trans (hsame.setVm s.vm)⟩,
      ⟨g, mk, s₂, L, E, ce, rfl, rfl, hx, hce, hcv, hcl, rfl, hL, rfl, rfl⟩, ?_⟩
    show Steps p.tables e below _ (((({ U with heap := s₂.heap, slotsUsed := s₂.slotsUsed } : State).setVm s₂.vm).setTop g).pushFrame (.throwing q))
    rw [← hs₂]
    exact hsteps
end Payer
section Calls
variable {p : Program} {l : Launch} {e : Env} {R : Room} {s : State} {m : MethodId} {args : Array Value} {below : List Frame} {meth : Method} {c : Code} {T : State} {locs : List Loc} {cells slots : Nat}
theorem vx_callV (X : Stand p l e R s m args below meth c T locs cells slots) (hexec : p.tables.exec = Jvm.exec) {own C : String} {index : Nat} {y : MethodName} {bytes : ByteArray} {maxL : Nat} {ret : Option FieldType}
    (hown : s.vm.findClass own = some m.cls) (hlink : (Cond.methodLink own index y).before args s = true) (hinst : (Cond.instanceMethod y).before args s = true) (hsel : (Cond.selects C y y).before args s = true)
    (hcode : (Cond.code y bytes maxL ret).before args s = true) (hy : y.cls ≠ "java/lang/invoke/MethodHandle" ∧ y.cls ≠ "java/lang/invoke/VarHandle")
    {W9 : Nat} {Pre : Pt → Array Value → Prop} {Post : Pt → Array Value → Option Value → Pt → Prop} {PostX : Pt → Array Value → Addr → Pt → Prop} (hK : vx_Back l R p e below s args y 3 W9 Pre Post PostX)
    {b : Addr} {cellB : Cell} (hcell : T.heap[b]? = some cellB) (hobj : cellB.vm.isStatics = false) (hcls : s.vm.findClass C = some cellB.cls)
    {g : JFrame} (hg : g.method = m) (hsize : g.locals.size = c.maxLocals) {argsL rest : List Value} (hlen : ∀ sig, parseMethodDescriptor y.desc = some sig → argsL.length = sig.parameters.length)
    (hstack : g.stack = argsL.reverse ++ .ref b :: rest) (hW : 2 * g.monitorRoom + (rest.map fun v => v.category).sum ≤ W9) (hdg : decode c.code g.pc = .ok (.invokevirtual index, 3))
    (hpre : ∀ vm₁, s.WarmedH vm₁ → Pre ⟨T.setVm vm₁, locs, cells, slots⟩ (Value.ref b :: argsL).toArray) :
    (∃ (v : Option Value) (vm₁ : Vm) (B : Pt), s.WarmedH vm₁ ∧ Stand p l e R s m args below meth c B.U B.locs B.cells B.slots ∧ Post ⟨T.setVm vm₁, locs, cells, slots⟩ (Value.ref b :: argsL).toArray v B ∧
      ∀ target, Steps p.tables e below (B.U.setTop { g with pc := g.pc + 3, stack := v.toList ++ rest }) target → Steps p.tables e below (T.setTop g) target) ∨
    (∃ (q : Addr) (vm₁ : Vm) (B : Pt), s.WarmedH vm₁ ∧ Stand p l e R s m args below meth c B.U B.locs B.cells B.slots ∧ PostX ⟨T.setVm vm₁, locs, cells, slots⟩ (Value.ref b :: argsL).toArray q B ∧
      Steps p.tables e below (T.setTop g) ((B.U.setTop { g with stack := rest }).pushFrame (.throwing q))) := by
  obtain ⟨mk, methM, hnamed, hmethM, hstM, habM⟩ := Cond.instanceMethod_spec hinst
  obtain ⟨methM', cM, hmethM', -, -, -, -, -, -, hsigM⟩ := Cond.code_spec hnamed hcode
  cases hmethM.symm.trans hmethM'
  obtain ⟨c2, r2, m2, q1, q2, q3, q4, kP, hkP, hkPi⟩ := Cond.selects_spec hsel
  cases hcls.symm.trans q1
  cases (State.methodFound?_of_named hnamed hy).symm.trans q2
  cases hnamed.symm.trans q3
  have hselP : selectMethod e.platform s.vm cellB.cls mk = .method mk := by rw [Launch.admits_selectMethod X.admits]; exact q4
  obtain ⟨vm₁, X₁, hstep₁⟩ := X.invokevirtual hexec hown hlink hnamed hmethM hstM hkP hkPi hy (a := b) (cell := cellB) hcell
    (fun z h => by rw [h] at hobj; cases hobj) hselP hmethM habM hkP hkPi (g := g) hg (argsL := argsL) (rest := rest) (hlen _ hsigM) hstack hdg
  rcases hK m meth c ⟨T.setVm vm₁, locs, cells, slots⟩ { g with stack := rest } (.invokevirtual index) mk (Value.ref b :: argsL).toArray X₁ hg hsize hdg hW (X₁.named hnamed) (hpre vm₁ X₁.warmed) with ⟨v, B, X', hpost, hsteps⟩ | ⟨q, B, X', hpost, hsteps⟩
  · exact Or.inl ⟨v, vm₁, B, X₁.warmed, X', hpost, fun target h => hstep₁ _ fun acts => by rw [doInvoke_state]; exact hsteps.trans h⟩
  · exact Or.inr ⟨q, vm₁, B, X₁.warmed, X', hpost, hstep₁ _ fun acts => by rw [doInvoke_state]; exact hsteps⟩
theorem vx_callS (X : Stand p l e R s m args below meth c T locs cells slots) (hexec : p.tables.exec = Jvm.exec) {own : String} {index : Nat} {y : MethodName} {bytes : ByteArray} {maxL : Nat} {ret : Option FieldType}
    (hown : s.vm.findClass own = some m.cls) (hlink : (Cond.methodLink own index y).before args s = true) (hstat : (Cond.static y).before args s = true) (hinit : (Cond.initialized y.cls).before args s = true)
    (hcode : (Cond.code y bytes maxL ret).before args s = true) (hy : y.cls ≠ "java/lang/invoke/MethodHandle" ∧ y.cls ≠ "java/lang/invoke/VarHandle")
    {W9 : Nat} {Pre : Pt → Array Value → Prop} {Post : Pt → Array Value → Option Value → Pt → Prop} {PostX : Pt → Array Value → Addr → Pt → Prop} (hK : vx_Back l R p e below s args y 3 W9 Pre Post PostX)
    {g : JFrame} (hg : g.method = m) (hsize : g.locals.size = c.maxLocals) {argsL rest : List Value} (hlen : ∀ sig, parseMethodDescriptor y.desc = some sig → argsL.length = sig.parameters.length)
    (hstack : g.stack = argsL.reverse ++ rest) (hW : 2 * g.monitorRoom + (rest.map fun v => v.category).sum ≤ W9) (hdg : decode c.code g.pc = .ok (.invokestatic index, 3))
    (hpre : ∀ vm₁, s.WarmedH vm₁ → Pre ⟨T.setVm vm₁, locs, cells, slots⟩ argsL.toArray) :
    (∃ (v : Option Value) (vm₁ : Vm) (B : Pt), s.WarmedH vm₁ ∧ Stand p l e R s m args below meth c B.U B.locs B.cells B.slots ∧ Post ⟨T.setVm vm₁, locs, cells, slots⟩ argsL.toArray v B ∧
      ∀ target, Steps p.tables e below (B.U.setTop { g with pc := g.pc + 3, stack := v.toList ++ rest }) target → Steps p.tables e below (T.setTop g) target) ∨
    (∃ (q : Addr) (vm₁ : Vm) (B : Pt), s.WarmedH vm₁ ∧ Stand p l e R s m args below meth c B.U B.locs B.cells B.slots ∧ PostX ⟨T.setVm vm₁, locs, cells, slots⟩ argsL.toArray q B ∧
      Steps p.tables e below (T.setTop g) ((B.U.setTop { g with stack := rest }).pushFrame (.throwing q))) := by
  obtain ⟨mk, hnamed⟩ := Cond.code_named hcode
  obtain ⟨methM, cM, hmethM, -, -, -, -, -, -, hsigM⟩ := Cond.code_spec hnamed hcode
  have hstatic : methM.isStatic = true := Cond.static_spec hnamed hmethM hstat
  obtain ⟨kP, hkP, -⟩ := className_of_methodNamed hnamed
  have hinitP : kP.init = .initialized := Cond.initialized_spec (findClass_of_methodNamed hnamed) hkP hinit
  obtain ⟨vm₁, X₁, hstep₁⟩ := X.invokestatic hexec hown hlink hnamed hmethM hstatic hkP hinitP hy (g := g) hg (argsL := argsL) (rest := rest) (hlen _ hsigM) hstack hdg
  rcases hK m meth c ⟨T.setVm vm₁, locs, cells, slots⟩ { g with stack := rest } (.invokestatic index) mk argsL.toArray X₁ hg hsize hdg hW (X₁.named hnamed) (hpre vm₁ X₁.warmed) with ⟨v, B, X', hpost, hsteps⟩ | ⟨q, B, X', hpost, hsteps⟩
  · exact Or.inl ⟨v, vm₁, B, X₁.warmed, X', hpost, fun target h => hstep₁ _ fun acts => by rw [doInvoke_state]; exact hsteps.trans h⟩
  · exact Or.inr ⟨q, vm₁, B, X₁.warmed, X', hpost, hstep₁ _ fun acts => by rw [doInvoke_state]; exact hsteps⟩
end Calls
theorem vx_cls {s : State} {T : State} {vm₁ : Vm} {E : String} {k : ClassId} (hW : s.WarmedH vm₁) (h : (T.setVm vm₁).vm.findClass E = some k) : s.vm.findClass E = some k := by
  have h1 : vm₁.findClass E = some k := h
  rw [hW.alike.findClass] at h1
  exact h1
/-- the method's frame g, with q thrown over it -/
def vx_W (p : Program) (l : Launch) (e : Env) (R : Room) (s : State) (m : MethodId) (args : Array Value) (below : List Frame) (meth : Method) (c : Code) (H : Heap) (locs : List Loc) (cells slots : Nat) (Q : State → Prop) (g : JFrame) (q : Addr) : Prop :=
  ∀ T : State, T.heap = H → Stand p l e R s m args below meth c T locs cells slots → ∃ t, Steps p.tables e below ((T.setTop g).pushFrame (.throwing q)) t ∧ Q t
def vx_Run (p : Program) (l : Launch) (e : Env) (R : Room) (s : State) (m : MethodId) (args : Array Value) (below : List Frame) (meth : Method) (c : Code) (H : Heap) (locs : List Loc) (cells slots mc ms : Nat) (g : JFrame) (rest : List Value) (Qa : State → Outcome → State → Prop) (XC : String → State → State → Prop) (free : Addr → Prop) : Prop :=
  ∀ T : State, T.heap = H → Stand p l e R s m args below meth c T locs cells slots →
    (∃ (v : Option Value) (st₀ t T' : State) (L : List Loc), st₀.heap = H ∧ Stand p l e R s m args below meth c T' (locs ++ L) (cells + mc) (slots + ms) ∧ (∀ q ∈ L, free q.base) ∧ T'.heap = t.heap ∧ T'.vm = t.vm ∧ Qa st₀ (.returned v) t ∧
      Goes p e below T g T' { g with pc := g.pc + 3, stack := v.toList ++ rest }) ∨
    (∃ (q : Addr) (st₀ t T' : State) (L : List Loc) (E : String) (ce : Cell), st₀.heap = H ∧ Stand p l e R s m args below meth c T' (locs ++ L) (cells + mc) (slots + ms) ∧ (∀ z ∈ L, free z.base) ∧ T'.heap = t.heap ∧ T'.vm = t.vm ∧ XC E st₀ t ∧ t.heap[q]? = some ce ∧ ce.vm = .none ∧ s.vm.findClass E = some ce.cls ∧
      Steps p.tables e below (T.setTop g) ((T'.setTop { g with stack := rest }).pushFrame (.throwing q)))
def vx_X {S : Type} (px : S → Prop) (B : String → S → State → Prop) (A : Nat → Prop) : String → State → State → Prop := fun E st t => ∃ u : S, px u ∧ B E u t ∧ va_F A st t
section Runs
variable {p : Program} {l : Launch} {e : Env} {R : Room} {s : State} {m : MethodId} {args : Array Value} {below : List Frame} {meth : Method} {c : Code} {H : Heap} {locs : List Loc} {cells slots : Nat}
variable {y : MethodName} {bytes cc : ByteArray} {maxL nL mc ms n index : Nat} {ret : Option FieldType} {ws : List Cond} {rm : Room} {Pc : Array Value → State → Prop} {Qc : Array Value → State → Outcome → State → Prop} {XC : String → State → State → Prop} {free : Addr → Prop} {Ts : List Cond} {own C : String} {b : Addr} {As rest : List Value} {g : JFrame}
theorem vx_callBack (cb : CallB R s args own index y bytes maxL ret ws rm mc ms n) (hM : vx_Met l y ws rm Pc Qc XC mc ms free) (hbl : FrameBlind Pc) : vx_Back l R p e below s args y 3 8 (PreOf R mc ms Pc) (PostOf Qc mc ms free) (vx_Post XC mc ms free) := by
  obtain ⟨hrc, hrs, hfr, hlo, hws, hcw, -, hini, -⟩ := cb
  exact vx_back (bytes := bytes) (maxL := maxL) (ret := ret) hM hbl hrc hrs hfr hlo hws hcw (fun a' U hW => word_at hW (Or.inl (by first | rfl | simp [Cond.onTables, Cond.keeps, Cond.steady])) hini)
theorem vx_runV (S : CallFix p m c cc nL s args Ts own) (hM : vx_Met l y ws rm Pc Qc XC mc ms free) (cw : CallW R s args own C index y bytes maxL ret ws rm mc ms n) (hp : PreV s H C b Pc As)
    (hg : g.method = m) (hn : As.length = n) (hsize : g.locals.size = nL) (hstack : g.stack = As.reverse ++ .ref b :: rest) (hW : 2 * g.monitorRoom + (rest.map fun v => v.category).sum ≤ 8) (hdg : decode cc g.pc = .ok (.invokevirtual index, 3)) (hf : cells + mc ≤ R.cells ∧ slots + ms ≤ R.slots) :
    vx_Run p l e R s m args below meth c H locs cells slots mc ms g rest (Qc (Value.ref b :: As).toArray) XC free := by
  have hK : vx_Back l R p e below s args y 3 8 (PreOf R mc ms Pc) (PostOf Qc mc ms free) (vx_Post XC mc ms free) := vx_callBack cw.1 hM hp.1
  obtain ⟨⟨-, -, -, -, -, -, hcode, -, hy, hlen, hl⟩, hin, hse⟩ := cw
  obtain ⟨hx, hb, hml, ho, -⟩ := S
  obtain ⟨-, ⟨cellB, hcB, hoB, hclB⟩, hPc⟩ := hp
  intro T hT X
  rcases vx_callV X hx (C := C) (bytes := bytes) (maxL := maxL) (ret := ret) ho hl hin hse hcode hy hK (by rw [hT]; exact hcB) hoB hclB hg (hsize.trans hml.symm) (argsL := As) (rest := rest) (fun sig h => hn.trans (hlen sig h)) hstack hW (by rw [hb]; exact hdg)
    (fun vm₁ hW₁ => ⟨hf.1, hf.2, hPc (T.setVm vm₁) hT hW₁⟩) with ⟨v, vm₁, ⟨U', l2, c2, s2⟩, hW₁, X', ⟨g', mk, t, L, e1, e2, hq, h1, hL, h2, h3⟩, st⟩ | ⟨q, vm₁, ⟨U', l2, c2, s2⟩, hW₁, X', ⟨g', mk, t, L, E, ce, e1, e2, hq, hce, hcv, hcl, h1, hL, h2, h3⟩, st⟩
  · dsimp only [Pt.U, Pt.locs, Pt.cells, Pt.slots] at X' e1 e2 h1 h2 h3 st
    subst h1; subst h2; subst h3
    exact Or.inl ⟨v, (T.setVm vm₁).calling g' mk (Value.ref b :: As).toArray, t, U', L, hT, X', hL, e1, e2, hq, st⟩
  · dsimp only [Pt.U, Pt.locs, Pt.cells, Pt.slots] at X' e1 e2 h1 h2 h3 st hcl
    subst h1; subst h2; subst h3
    exact Or.inr ⟨q, (T.setVm vm₁).calling g' mk (Value.ref b :: As).toArray, t, U', L, E, ce, hT, X', hL, e1, e2, hq, hce, hcv, vx_cls hW₁ hcl, st⟩
theorem vx_runS (S : CallFix p m c cc nL s args Ts own) (hM : vx_Met l y ws rm Pc Qc XC mc ms free) (cw : CallB R s args own index y bytes maxL ret ws rm mc ms n ∧ (Cond.static y).before args s = true) (hp : PreS s H Pc As)
    (hg : g.method = m) (hn : As.length = n) (hsize : g.locals.size = nL) (hstack : g.stack = As.reverse ++ rest) (hW : 2 * g.monitorRoom + (rest.map fun v => v.category).sum ≤ 8) (hdg : decode cc g.pc = .ok (.invokestatic index, 3)) (hf : cells + mc ≤ R.cells ∧ slots + ms ≤ R.slots) :
    vx_Run p l e R s m args below meth c H locs cells slots mc ms g rest (Qc As.toArray) XC free := by
  have hK : vx_Back l R p e below s args y 3 8 (PreOf R mc ms Pc) (PostOf Qc mc ms free) (vx_Post XC mc ms free) := vx_callBack cw.1 hM hp.1
  obtain ⟨⟨-, -, -, -, -, -, hcode, hini, hy, hlen, hl⟩, hstt⟩ := cw
  obtain ⟨hx, hb, hml, ho, -⟩ := S
  intro T hT X
  rcases vx_callS X hx (bytes := bytes) (maxL := maxL) (ret := ret) ho hl hstt hini hcode hy hK hg (hsize.trans hml.symm) (argsL := As) (rest := rest) (fun sig h => hn.trans (hlen sig h)) hstack hW (by rw [hb]; exact hdg)
    (fun vm₁ hW₁ => ⟨hf.1, hf.2, hp.2 (T.setVm vm₁) hT hW₁⟩) with ⟨v, vm₁, ⟨U', l2, c2, s2⟩, hW₁, X', ⟨g', mk, t, L, e1, e2, hq, h1, hL, h2, h3⟩, st⟩ | ⟨q, vm₁, ⟨U', l2, c2, s2⟩, hW₁, X', ⟨g', mk, t, L, E, ce, e1, e2, hq, hce, hcv, hcl, h1, hL, h2, h3⟩, st⟩
  · dsimp only [Pt.U, Pt.locs, Pt.cells, Pt.slots] at X' e1 e2 h1 h2 h3 st
    subst h1; subst h2; subst h3
    exact Or.inl ⟨v, (T.setVm vm₁).calling g' mk As.toArray, t, U', L, hT, X', hL, e1, e2, hq, st⟩
  · dsimp only [Pt.U, Pt.locs, Pt.cells, Pt.slots] at X' e1 e2 h1 h2 h3 st hcl
    subst h1; subst h2; subst h3
    exact Or.inr ⟨q, (T.setVm vm₁).calling g' mk As.toArray, t, U', L, E, ce, hT, X', hL, e1, e2, hq, hce, hcv, vx_cls hW₁ hcl, st⟩
end Runs
section Rows
variable {p : Program} {l : Launch} {e : Env} {R : Room} {s : State} {m : MethodId} {args : Array Value} {below : List Frame} {meth : Method} {c : Code} {H : Heap} {locs : List Loc} {cells slots : Nat} {Q : State → Prop}
variable {mc ms : Nat} {free : Addr → Prop} {A0 A1 : Nat → Prop} {H0 : Heap} {a : Array Value} {pc : Nat} {ls : Array Slot} {st0 rest : List Value}
theorem vx_keep {st₀ t T' : State} {L : List Loc} (h0 : st₀.heap = H) (e1 : T'.heap = t.heap) (hS : va_S A0 H0 H locs) (hA : ∀ q, q < H.size → A1 q → A0 q) (hf : ∀ q, free q → A0 q) (hL : ∀ q ∈ L, free q.base) (hF : va_F A1 st₀ t) :
    H.size ≤ T'.heap.size ∧ (∀ q : Nat, q < H.size → ¬ A1 q → T'.heap[q]? = H[q]?) ∧ va_S A0 H0 T'.heap (locs ++ L) := by
  obtain ⟨hz, hk⟩ := hF
  rw [h0] at hz hk
  exact ⟨by rw [e1]; exact hz, fun q h1 h2 => by rw [e1]; exact hk q h1 h2,
    ⟨Nat.le_trans hS.1 (by rw [e1]; exact hz), fun q h1 h2 => by rw [e1, hk q (Nat.lt_of_lt_of_le h1 hS.1) (fun z => h2 (hA q (Nat.lt_of_lt_of_le h1 hS.1) z))]; exact hS.2.1 q h1 h2, fun q hq => by
      rcases List.mem_append.mp hq with h | h
      · exact hS.2.2 q h
      · exact hf _ (hL q h)⟩⟩
theorem vx_calli {S SX : Type} {post : Int32 → S → Prop} {px : SX → Prop} {B : S → State → Prop} {BX : String → SX → State → Prop} {AX : Nat → Prop} (hr : vx_Run p l e R s m args below meth c H locs cells slots mc ms (F0 m pc ls st0) rest (va_Qi post B A1 a) (vx_X px BX AX) free) (hS : va_S A0 H0 H locs) (hA : ∀ q, q < H.size → A1 q → A0 q) (hf : ∀ q, free q → A0 q) (hAX : ∀ q, q < H.size → AX q → A0 q)
    (kx : ∀ (E : String) (ce : Cell) (q9 : Addr) (u : SX) (t : State) (H1 : Heap) (locs1 : List Loc), t.heap = H1 → s.vm.Alike t.vm → px u → BX E u t → H.size ≤ H1.size → (∀ q : Nat, q < H.size → ¬ AX q → H1[q]? = H[q]?) → va_S A0 H0 H1 locs1 → H1[q9]? = some ce → ce.vm = .none → s.vm.findClass E = some ce.cls → vx_W p l e R s m args below meth c H1 locs1 (cells + mc) (slots + ms) Q (F0 m pc ls rest) q9)
    (kk : ∀ (r : Int32) (u : S) (t : State) (H1 : Heap) (locs1 : List Loc), t.heap = H1 → s.vm.Alike t.vm → post r u → B u t → H.size ≤ H1.size → (∀ q : Nat, q < H.size → ¬ A1 q → H1[q]? = H[q]?) → va_S A0 H0 H1 locs1 → W p l e R s m args below meth c H1 locs1 (cells + mc) (slots + ms) Q (F0 m (pc + 3) ls (.int r :: rest))) : W p l e R s m args below meth c H locs cells slots Q (F0 m pc ls st0) := by
  intro T hT X
  rcases hr T hT X with ⟨v, st₀, t, T', L, h0, X', hL, e1, e2, ⟨⟨r, u, hv, hp, hb⟩, hF⟩, st⟩ | ⟨q, st₀, t, T', L, E, ce, h0, X', hL, e1, e2, ⟨u, hp, hb, hF⟩, hce, hcv, hcl, st⟩
  · cases hv
    obtain ⟨k1, k2, k3⟩ := vx_keep h0 e1 hS hA hf hL hF
    obtain ⟨t2, a1, b1⟩ := kk r u t T'.heap (locs ++ L) e1.symm (by rw [← e2]; exact X'.warmed.alike) hp hb k1 k2 k3 T' rfl X'
    exact ⟨t2, st t2 a1, b1⟩
  · obtain ⟨k1, k2, k3⟩ := vx_keep h0 e1 hS hAX hf hL hF
    obtain ⟨t2, a1, b1⟩ := kx E ce q u t T'.heap (locs ++ L) e1.symm (by rw [← e2]; exact X'.warmed.alike) hp hb k1 k2 k3 (by rw [e1]; exact hce) hcv hcl T' rfl X'
    exact ⟨t2, st.trans a1, b1⟩
theorem vx_calll {S SX : Type} {post : Int64 → S → Prop} {px : SX → Prop} {B : S → State → Prop} {BX : String → SX → State → Prop} {AX : Nat → Prop} (hr : vx_Run p l e R s m args below meth c H locs cells slots mc ms (F0 m pc ls st0) rest (va_Ql post B A1 a) (vx_X px BX AX) free) (hS : va_S A0 H0 H locs) (hA : ∀ q, q < H.size → A1 q → A0 q) (hf : ∀ q, free q → A0 q) (hAX : ∀ q, q < H.size → AX q → A0 q)
    (kx : ∀ (E : String) (ce : Cell) (q9 : Addr) (u : SX) (t : State) (H1 : Heap) (locs1 : List Loc), t.heap = H1 → s.vm.Alike t.vm → px u → BX E u t → H.size ≤ H1.size → (∀ q : Nat, q < H.size → ¬ AX q → H1[q]? = H[q]?) → va_S A0 H0 H1 locs1 → H1[q9]? = some ce → ce.vm = .none → s.vm.findClass E = some ce.cls → vx_W p l e R s m args below meth c H1 locs1 (cells + mc) (slots + ms) Q (F0 m pc ls rest) q9)
    (kk : ∀ (r : Int64) (u : S) (t : State) (H1 : Heap) (locs1 : List Loc), t.heap = H1 → s.vm.Alike t.vm → post r u → B u t → H.size ≤ H1.size → (∀ q : Nat, q < H.size → ¬ A1 q → H1[q]? = H[q]?) → va_S A0 H0 H1 locs1 → W p l e R s m args below meth c H1 locs1 (cells + mc) (slots + ms) Q (F0 m (pc + 3) ls (.long r :: rest))) : W p l e R s m args below meth c H locs cells slots Q (F0 m pc ls st0) := by
  intro T hT X
  rcases hr T hT X with ⟨v, st₀, t, T', L, h0, X', hL, e1, e2, ⟨⟨r, u, hv, hp, hb⟩, hF⟩, st⟩ | ⟨q, st₀, t, T', L, E, ce, h0, X', hL, e1, e2, ⟨u, hp, hb, hF⟩, hce, hcv, hcl, st⟩
  · cases hv
    obtain ⟨k1, k2, k3⟩ := vx_keep h0 e1 hS hA hf hL hF
    obtain ⟨t2, a1, b1⟩ := kk r u t T'.heap (locs ++ L) e1.symm (by rw [← e2]; exact X'.warmed.alike) hp hb k1 k2 k3 T' rfl X'
    exact ⟨t2, st t2 a1, b1⟩
  · obtain ⟨k1, k2, k3⟩ := vx_keep h0 e1 hS hAX hf hL hF
    obtain ⟨t2, a1, b1⟩ := kx E ce q u t T'.heap (locs ++ L) e1.symm (by rw [← e2]; exact X'.warmed.alike) hp hb k1 k2 k3 (by rw [e1]; exact hce) hcv hcl T' rfl X'
    exact ⟨t2, st.trans a1, b1⟩
theorem vx_callf {S SX : Type} {post : UInt32 → S → Prop} {px : SX → Prop} {B : S → State → Prop} {BX : String → SX → State → Prop} {AX : Nat → Prop} (hr : vx_Run p l e R s m args below meth c H locs cells slots mc ms (F0 m pc ls st0) rest (va_Qf post B A1 a) (vx_X px BX AX) free) (hS : va_S A0 H0 H locs) (hA : ∀ q, q < H.size → A1 q → A0 q) (hf : ∀ q, free q → A0 q) (hAX : ∀ q, q < H.size → AX q → A0 q)
    (kx : ∀ (E : String) (ce : Cell) (q9 : Addr) (u : SX) (t : State) (H1 : Heap) (locs1 : List Loc), t.heap = H1 → s.vm.Alike t.vm → px u → BX E u t → H.size ≤ H1.size → (∀ q : Nat, q < H.size → ¬ AX q → H1[q]? = H[q]?) → va_S A0 H0 H1 locs1 → H1[q9]? = some ce → ce.vm = .none → s.vm.findClass E = some ce.cls → vx_W p l e R s m args below meth c H1 locs1 (cells + mc) (slots + ms) Q (F0 m pc ls rest) q9)
    (kk : ∀ (r : UInt32) (u : S) (t : State) (H1 : Heap) (locs1 : List Loc), t.heap = H1 → s.vm.Alike t.vm → post r u → B u t → H.size ≤ H1.size → (∀ q : Nat, q < H.size → ¬ A1 q → H1[q]? = H[q]?) → va_S A0 H0 H1 locs1 → W p l e R s m args below meth c H1 locs1 (cells + mc) (slots + ms) Q (F0 m (pc + 3) ls (.float r :: rest))) : W p l e R s m args below meth c H locs cells slots Q (F0 m pc ls st0) := by
  intro T hT X
  rcases hr T hT X with ⟨v, st₀, t, T', L, h0, X', hL, e1, e2, ⟨⟨r, u, hv, hp, hb⟩, hF⟩, st⟩ | ⟨q, st₀, t, T', L, E, ce, h0, X', hL, e1, e2, ⟨u, hp, hb, hF⟩, hce, hcv, hcl, st⟩
  · cases hv
    obtain ⟨k1, k2, k3⟩ := vx_keep h0 e1 hS hA hf hL hF
    obtain ⟨t2, a1, b1⟩ := kk r u t T'.heap (locs ++ L) e1.symm (by rw [← e2]; exact X'.warmed.alike) hp hb k1 k2 k3 T' rfl X'
    exact ⟨t2, st t2 a1, b1⟩
  · obtain ⟨k1, k2, k3⟩ := vx_keep h0 e1 hS hAX hf hL hF
    obtain ⟨t2, a1, b1⟩ := kx E ce q u t T'.heap (locs ++ L) e1.symm (by rw [← e2]; exact X'.warmed.alike) hp hb k1 k2 k3 (by rw [e1]; exact hce) hcv hcl T' rfl X'
    exact ⟨t2, st.trans a1, b1⟩
theorem vx_calld {S SX : Type} {post : UInt64 → S → Prop} {px : SX → Prop} {B : S → State → Prop} {BX : String → SX → State → Prop} {AX : Nat → Prop} (hr : vx_Run p l e R s m args below meth c H locs cells slots mc ms (F0 m pc ls st0) rest (va_Qd post B A1 a) (vx_X px BX AX) free) (hS : va_S A0 H0 H locs) (hA : ∀ q, q < H.size → A1 q → A0 q) (hf : ∀ q, free q → A0 q) (hAX : ∀ q, q < H.size → AX q → A0 q)
    (kx : ∀ (E : String) (ce : Cell) (q9 : Addr) (u : SX) (t : State) (H1 : Heap) (locs1 : List Loc), t.heap = H1 → s.vm.Alike t.vm → px u → BX E u t → H.size ≤ H1.size → (∀ q : Nat, q < H.size → ¬ AX q → H1[q]? = H[q]?) → va_S A0 H0 H1 locs1 → H1[q9]? = some ce → ce.vm = .none → s.vm.findClass E = some ce.cls → vx_W p l e R s m args below meth c H1 locs1 (cells + mc) (slots + ms) Q (F0 m pc ls rest) q9)
    (kk : ∀ (r : UInt64) (u : S) (t : State) (H1 : Heap) (locs1 : List Loc), t.heap = H1 → s.vm.Alike t.vm → post r u → B u t → H.size ≤ H1.size → (∀ q : Nat, q < H.size → ¬ A1 q → H1[q]? = H[q]?) → va_S A0 H0 H1 locs1 → W p l e R s m args below meth c H1 locs1 (cells + mc) (slots + ms) Q (F0 m (pc + 3) ls (.double r :: rest))) : W p l e R s m args below meth c H locs cells slots Q (F0 m pc ls st0) := by
  intro T hT X
  rcases hr T hT X with ⟨v, st₀, t, T', L, h0, X', hL, e1, e2, ⟨⟨r, u, hv, hp, hb⟩, hF⟩, st⟩ | ⟨q, st₀, t, T', L, E, ce, h0, X', hL, e1, e2, ⟨u, hp, hb, hF⟩, hce, hcv, hcl, st⟩
  · cases hv
    obtain ⟨k1, k2, k3⟩ := vx_keep h0 e1 hS hA hf hL hF
    obtain ⟨t2, a1, b1⟩ := kk r u t T'.heap (locs ++ L) e1.symm (by rw [← e2]; exact X'.warmed.alike) hp hb k1 k2 k3 T' rfl X'
    exact ⟨t2, st t2 a1, b1⟩
  · obtain ⟨k1, k2, k3⟩ := vx_keep h0 e1 hS hAX hf hL hF
    obtain ⟨t2, a1, b1⟩ := kx E ce q u t T'.heap (locs ++ L) e1.symm (by rw [← e2]; exact X'.warmed.alike) hp hb k1 k2 k3 (by rw [e1]; exact hce) hcv hcl T' rfl X'
    exact ⟨t2, st.trans a1, b1⟩
theorem vx_callv {S SX : Type} {post : S → Prop} {px : SX → Prop} {B : S → State → Prop} {BX : String → SX → State → Prop} {AX : Nat → Prop} (hr : vx_Run p l e R s m args below meth c H locs cells slots mc ms (F0 m pc ls st0) rest (va_Qv post B A1 a) (vx_X px BX AX) free) (hS : va_S A0 H0 H locs) (hA : ∀ q, q < H.size → A1 q → A0 q) (hf : ∀ q, free q → A0 q) (hAX : ∀ q, q < H.size → AX q → A0 q)
    (kx : ∀ (E : String) (ce : Cell) (q9 : Addr) (u : SX) (t : State) (H1 : Heap) (locs1 : List Loc), t.heap = H1 → s.vm.Alike t.vm → px u → BX E u t → H.size ≤ H1.size → (∀ q : Nat, q < H.size → ¬ AX q → H1[q]? = H[q]?) → va_S A0 H0 H1 locs1 → H1[q9]? = some ce → ce.vm = .none → s.vm.findClass E = some ce.cls → vx_W p l e R s m args below meth c H1 locs1 (cells + mc) (slots + ms) Q (F0 m pc ls rest) q9)
    (kk : ∀ (u : S) (t : State) (H1 : Heap) (locs1 : List Loc), t.heap = H1 → s.vm.Alike t.vm → post u → B u t → H.size ≤ H1.size → (∀ q : Nat, q < H.size → ¬ A1 q → H1[q]? = H[q]?) → va_S A0 H0 H1 locs1 → W p l e R s m args below meth c H1 locs1 (cells + mc) (slots + ms) Q (F0 m (pc + 3) ls (rest))) : W p l e R s m args below meth c H locs cells slots Q (F0 m pc ls st0) := by
  intro T hT X
  rcases hr T hT X with ⟨v, st₀, t, T', L, h0, X', hL, e1, e2, ⟨⟨u, hv, hp, hb⟩, hF⟩, st⟩ | ⟨q, st₀, t, T', L, E, ce, h0, X', hL, e1, e2, ⟨u, hp, hb, hF⟩, hce, hcv, hcl, st⟩
  · cases hv
    obtain ⟨k1, k2, k3⟩ := vx_keep h0 e1 hS hA hf hL hF
    obtain ⟨t2, a1, b1⟩ := kk u t T'.heap (locs ++ L) e1.symm (by rw [← e2]; exact X'.warmed.alike) hp hb k1 k2 k3 T' rfl X'
    exact ⟨t2, st t2 a1, b1⟩
  · obtain ⟨k1, k2, k3⟩ := vx_keep h0 e1 hS hAX hf hL hF
    obtain ⟨t2, a1, b1⟩ := kx E ce q u t T'.heap (locs ++ L) e1.symm (by rw [← e2]; exact X'.warmed.alike) hp hb k1 k2 k3 (by rw [e1]; exact hce) hcv hcl T' rfl X'
    exact ⟨t2, st.trans a1, b1⟩
end Rows
section Ends
variable {p : Program} {l : Launch} {e : Env} {R : Room} {s : State} {m : MethodId} {args : Array Value} {below : List Frame} {meth : Method} {c : Code} {H : Heap} {locs : List Loc} {cells slots : Nat} {Q : State → Prop}
variable {mc ms : Nat} {free : Addr → Prop} {A0 A1 : Nat → Prop} {H0 : Heap} {a : Array Value} {ls : Array Slot} {st0 rest : List Value}
variable {Qc : Array Value → State → Outcome → State → Prop} {XC : String → State → State → Prop}
/-- what a body that may throw owes at its end -/
def vx_MQ (below : List Frame) (Qc : Array Value → State → Outcome → State → Prop) (XC : String → State → State → Prop) (a : Array Value) (s : State) (mc ms : Nat) (free : Addr → Prop) : State → Prop := fun t =>
  ∃ o, t.status = .running ∧ Ended t below o ∧ vx_Q Qc XC mc ms free a s o t
theorem vx_ret {g : JFrame} {mc ms : Nat} (k : W p l e R s m args below meth c H locs cells slots (MQ below Qc args s mc ms free) g) : W p l e R s m args below meth c H locs cells slots (vx_MQ below Qc XC args s mc ms free) g := by
  intro T hT X
  obtain ⟨t, a1, o, b1, b2, b3, b4⟩ := k T hT X
  exact ⟨t, a1, o, b1, b2, Or.inl ⟨b3, b4⟩⟩
/-- not caught here: it goes on to the caller -/
theorem vx_widen {g : JFrame} {q : Addr} {k n : Nat} (h1 : cells ≤ k) (h2 : slots ≤ n) (kk : vx_W p l e R s m args below meth c H locs k n Q g q) : vx_W p l e R s m args below meth c H locs cells slots Q g q := fun T hT X => kk T hT (stand_widen X h1 h2)
theorem vx_out {pc : Nat} {E : String} {ce : Cell} {q : Addr} {mc ms : Nat} (hout : ∀ x ∈ c.exceptionTable.toList, covers x pc = false) (hlocks : meth.locks = false) (hcell : H[q]? = some ce) (hv : ce.vm = .none) (hcl : s.vm.findClass E = some ce.cls)
    (hx : ∀ t : State, t.heap = H → s.vm.Alike t.vm → XC E s t) (hf : ∀ z ∈ locs, free z.base) (hc : cells ≤ mc) (hs : slots ≤ ms) :
    vx_W p l e R s m args below meth c H locs cells slots (vx_MQ below Qc XC args s mc ms free) (F0 m pc ls rest) q := by
  intro T hT X
  obtain ⟨st1, hrun, hend, hW, hsm⟩ := X.leaveThrown q (g := F0 m pc ls rest) rfl rfl rfl hout hlocks
  have hcell9 : (T.setFrames (.throwing q :: below)).heap[q]? = some ce := by
    show T.heap[q]? = some ce
    rw [hT]; exact hcell
  exact ⟨_, st1, .threw q, hrun, hend, Or.inr ⟨q, rfl, E, ce, locs, hx _ hT hW.alike, hcell9, hv, hcl, hW, hsm.mono hc hs, hf⟩⟩
theorem vx_frame {U : State} {k n : Nat} (h : s.sameButNew ({ U with vm := s.vm } : State) locs k n) : s.heap.size ≤ U.heap.size ∧ ∀ q : Nat, q < s.heap.size → (∀ z ∈ locs, z.base ≠ q) → U.heap[q]? = s.heap[q]? := by
  obtain ⟨-, h2, -, -, -, h6⟩ := h
  refine ⟨h2, fun q hq hz => ?_⟩
  obtain ⟨c9, e1, e2, e3, e4⟩ := h6 q _ (Array.getElem?_eq_getElem hq)
  have hs : c9.slots = (s.heap[q]).slots := Array.ext_getElem? fun i => e4 i fun hm => hz _ hm rfl
  have h9 : c9 = s.heap[q] := by
    rw [hs] at e2
    exact e2
  have e5 : U.heap[q]? = some c9 := e1
  rw [e5, h9, Array.getElem?_eq_getElem hq]
/-- the words of a throw but the four that speak of the heap -/
def vx_no (w : Cond) : Bool := decide (w ≠ .isRef (.static Bundle.tN "UNASSIGNED_STACK" Bundle.steD)) && decide (w ≠ .isRef (.static Bundle.tN "SUPPRESSED_SENTINEL" Bundle.listD)) && decide (w ≠ .laysStatic Bundle.tN "UNASSIGNED_STACK" Bundle.steD) && decide (w ≠ .laysStatic Bundle.tN "SUPPRESSED_SENTINEL" Bundle.listD)
def vx_at0 (own : String) (ic : Nat) (X : String) (names : List String) : List Cond := (Bundle.ownAtoms0 own ic X names).filter vx_no
def vx_atS (own : String) (ic : Nat) (X : String) (names : List String) : List Cond := (Bundle.ownAtoms own ic X names).filter vx_no
/-- a word that the tables alone decide, or a good one -/
def vx_ot (w : Cond) : Bool := w.onTables || goodWord w
theorem vx_ot_at {args a' : Array Value} {s U : State} {w : Cond} (hW : s.WarmedH U.vm) (hvm : s.vm = U.vm) (hg : vx_ot w = true) (h : w.before args s = true) : w.before a' U = true := by
  simp only [vx_ot, Bool.or_eq_true] at hg
  rcases hg with hg | hg
  · exact va_tabs hg hvm h
  · exact word_at hW (good_of_word hg) h
/-- a list's words: the good ones out of the method's own list, the others by premises of their own -/
theorem vx_hat {args : Array Value} {s : State} {L B : List Cond} (h1 : ∀ w ∈ L.filter goodWord, w.before args s = true) (h2 : ∀ w ∈ L.filter (fun w => !goodWord w), w ∈ B) (h3 : ∀ w ∈ B, w.before args s = true) : ∀ w ∈ L, w.before args s = true := by
  intro w hw
  by_cases g : goodWord w = true
  · exact h1 w (List.mem_filter.mpr ⟨hw, g⟩)
  · refine h3 w (h2 w (List.mem_filter.mpr ⟨hw, ?_⟩))
    show (!goodWord w) = true
    cases hgw : goodWord w
    · rfl
    · exact absurd hgw g
theorem vx_c {args : Array Value} {s : State} {w : Cond} {B : List Cond} (h : w.before args s = true) (t : ∀ w ∈ B, w.before args s = true) : ∀ w' ∈ w :: B, w'.before args s = true := fun w' h' => (List.mem_cons.mp h').elim (fun e => by rw [e]; exact h) (t w')
theorem vx_n {args : Array Value} {s : State} : ∀ w ∈ ([] : List Cond), w.before args s = true := fun _ h => nomatch h
theorem vx_own {args : Array Value} {s : State} {L : List Cond} (h1 : ∀ w ∈ L.filter vx_no, w.before args s = true)
    (hU : (Cond.isRef (.static Bundle.tN "UNASSIGNED_STACK" Bundle.steD)).before args s = true) (hN : (Cond.isRef (.static Bundle.tN "SUPPRESSED_SENTINEL" Bundle.listD)).before args s = true)
    (lU : (Cond.laysStatic Bundle.tN "UNASSIGNED_STACK" Bundle.steD).before args s = true) (lN : (Cond.laysStatic Bundle.tN "SUPPRESSED_SENTINEL" Bundle.listD).before args s = true) : ∀ w ∈ L, w.before args s = true := by
  intro w hw
  by_cases e1 : w = .isRef (.static Bundle.tN "UNASSIGNED_STACK" Bundle.steD)
  · rw [e1]; exact hU
  · by_cases e2 : w = .isRef (.static Bundle.tN "SUPPRESSED_SENTINEL" Bundle.listD)
    · rw [e2]; exact hN
    · by_cases e3 : w = .laysStatic Bundle.tN "UNASSIGNED_STACK" Bundle.steD
      · rw [e3]; exact lU
      · by_cases e4 : w = .laysStatic Bundle.tN "SUPPRESSED_SENTINEL" Bundle.listD
        · rw [e4]; exact lN
        · exact h1 w (List.mem_filter.mpr ⟨hw, by unfold vx_no; rw [decide_eq_true e1, decide_eq_true e2, decide_eq_true e3, decide_eq_true e4]; rfl⟩)
/-- where a static field lies, its class's statics cell in H -/
def vx_L (C n d : String) (A : Nat → Prop) (U : State) (H : Heap) : Prop := ∃ (c : ClassId) (k : Class) (i : Nat) (f : Field) (a : Nat) (cell : Cell), U.vm.findClass C = some c ∧ U.fieldFound? C n d = some (c, k, i, f) ∧ f.isStatic = true ∧ k.statics = some a ∧ H[a]? = some cell ∧ cell.vm.isStatics = true ∧ cell.cls = c ∧ f.slot < cell.slots.size ∧ k.staticTypes[f.slot]? = some f.type ∧ ¬ A a
theorem vx_L.moved {C n d : String} {A : Nat → Prop} {u U : State} {H : Heap} (hvm : u.vm.Alike U.vm) (h : vx_L C n d A u H) : vx_L C n d A U H := by
  obtain ⟨c, k, i, f, a, cell, h1, h2, h3, h4, h5, h6, h7, h8, h9, h10⟩ := h
  obtain ⟨k', hi', he⟩ := State.fieldFound?_setVm hvm h2
  exact ⟨c, k', i, f, a, cell, by rw [hvm.findClass]; exact h1, hi', h3, by rw [he]; exact h4, h5, h6, h7, h8, by rw [he]; exact h9, h10⟩
theorem vx_L.kept {C n d : String} {A : Nat → Prop} {U : State} {H H1 : Heap} (h : vx_L C n d A U H) (hq : ∀ a : Nat, a < H.size → ¬ A a → H1[a]? = H[a]?) : vx_L C n d A U H1 := by
  obtain ⟨c, k, i, f, a, cell, h1, h2, h3, h4, h5, h6, h7, h8, h9, h10⟩ := h
  exact ⟨c, k, i, f, a, cell, h1, h2, h3, h4, by rw [hq a (Array.getElem?_eq_some_iff.mp h5).1 h10]; exact h5, h6, h7, h8, h9, h10⟩
theorem vx_L.narrow {C n d : String} {A B : Nat → Prop} {U : State} {H : Heap} (h : vx_L C n d A U H) (hAB : ∀ q, B q → A q) : vx_L C n d B U H := by
  obtain ⟨c, k, i, f, a, cell, h1, h2, h3, h4, h5, h6, h7, h8, h9, h10⟩ := h
  exact ⟨c, k, i, f, a, cell, h1, h2, h3, h4, h5, h6, h7, h8, h9, fun z => h10 (hAB _ z)⟩
theorem vx_L.word {C n d : String} {A : Nat → Prop} {s : State} {args : Array Value} (h : vx_L C n d A s s.heap) : (Cond.laysStatic C n d).before args s = true := by
  obtain ⟨c, k, i, f, a, cell, h1, h2, h3, h4, h5, h6, h7, h8, h9, -⟩ := h
  show (Cond.laysStatic C n d).holds args s none s [] = true
  exact Cond.laysStatic_of h1 h2 h3 h4 h5 h6 h7 h8 h9
/-- .. and what it holds: null or some reference -/
def vx_Zq (C n d : String) (A : Nat → Prop) (U : State) (H : Heap) : Prop := va_Zq C n d A U H ∧ vx_L C n d A U H
theorem vx_Zq.moved {C n d : String} {A : Nat → Prop} {u U : State} {H : Heap} (hvm : u.vm.Alike U.vm) (h : vx_Zq C n d A u H) : vx_Zq C n d A U H := ⟨va_Zq.moved hvm h.1, vx_L.moved hvm h.2⟩
theorem vx_Zq.kept {C n d : String} {A : Nat → Prop} {U : State} {H H1 : Heap} (h : vx_Zq C n d A U H) (hq : ∀ a : Nat, a < H.size → ¬ A a → H1[a]? = H[a]?) : vx_Zq C n d A U H1 := ⟨va_Zq.kept h.1 hq, vx_L.kept h.2 hq⟩
theorem vx_Zq.narrow {C n d : String} {A B : Nat → Prop} {U : State} {H : Heap} (h : vx_Zq C n d A U H) (hAB : ∀ q, B q → A q) : vx_Zq C n d B U H := ⟨va_Zq.narrow h.1 hAB, vx_L.narrow h.2 hAB⟩
theorem vx_Zqof {args : Array Value} {s : State} {C n d : String} {A : Nat → Prop} (hl : (Cond.laysStatic C n d).before args s = true) (hini : (Cond.initialized C).before args s = true) (h : (Cond.isRef (.static C n d)).before args s = true) (hA : ∀ a : Nat, a < s.heap.size → ¬ A a) : vx_Zq C n d A s s.heap := by
  refine ⟨va_Zqof hl hini h hA, ?_⟩
  obtain ⟨c, k, i, f, a, cell, h1, h2, h3, h4, h5, h6, h7, h8, h9⟩ := Cond.laysStatic_spec hl
  exact ⟨c, k, i, f, a, cell, h1, h2, h3, h4, h5, h6, h7, h8, h9, hA a (Array.getElem?_eq_some_iff.mp h5).1⟩
theorem vx_isRef {C n d : String} {v : Value} {A : Nat → Prop} {s : State} {args : Array Value} (h : va_Z C n d v A s s.heap) (hv : v.isRef = true) : (Cond.isRef (.static C n d)).before args s = true := by
  obtain ⟨cf, kf, fi, f, a, cell, h1, h2, h3, h4, h5, h6, h7, -⟩ := h
  have he : (Term.static C n d).eval args s none [] s = some v := by
    simp [Term.eval, State.fieldNamed?, h1, h2, h4, h5, h6, h7]
  simp only [Cond.before, Cond.holds, Cond.value, he]
  cases v <;> simp_all [Value.isRef]
theorem vx_isRefq {C n d : String} {A : Nat → Prop} {s : State} {args : Array Value} (h : va_Zq C n d A s s.heap) : (Cond.isRef (.static C n d)).before args s = true := by
  rcases h with h | ⟨t, h⟩
  · exact vx_isRef h rfl
  · exact vx_isRef h rfl
/-- the same frame, seen from here: as if the method were called anew in this heap -/
theorem vx_rebase {T : State} (X : Stand p l e R s m args below meth c T locs cells slots) {R' : Room} (hf : R'.frames ≤ R.frames) (hl : R'.locals ≤ R.locals) (hc : cells + R'.cells ≤ R.cells) (hs : slots + R'.slots ≤ R.slots) :
    Stand p l e R' ((T.setVm s.vm).setFrames (.invoking m args :: below)) m args below meth c T [] 0 0 := by
  have htop : (T.setVm s.vm).topJava?.isSome := X.here.top
  have hF : ((T.setVm s.vm).setFrames (.invoking m args :: below)).frames = .invoking m args :: below := State.frames_setFrames _ (State.cur_lt_of_top htop)
  obtain ⟨g₀, hg0⟩ := Option.isSome_iff_exists.mp htop
  obtain ⟨r, hr⟩ := State.topJava?_eq_some.mp hg0
  have hl9 : e.platform.stackLimits (T.setVm s.vm).me = e.platform.stackLimits s.me := X.limits
  have hb9 : (T.setVm s.vm).me.stackBytes = s.me.stackBytes := X.bytes
  refine ⟨X.admits, X.cas, X.clock, hF, ?_, X.hears, X.method, X.code, X.here, X.tail, X.warmed, ?_, ?_, ?_⟩
  · have h := X.room
    have hU : ((T.setVm s.vm).setFrames (.invoking m args :: below)).localsInUse = s.localsInUse := by
      rw [State.localsInUse_invoking hF (meth := meth) (c := c) X.method X.code, State.localsInUse_invoking X.frames X.method X.code]
    simp only [State.hasRoom, Bool.and_eq_true, decide_eq_true_eq] at h ⊢
    obtain ⟨⟨⟨⟨h1, h2, h3, h4, h5, h6⟩, h7⟩, h8⟩, h9⟩ := h
    rw [X.frames, List.length_cons] at h2 h3
    have q1 := X.heapSize
    have q2 := X.used
    simp only [hF, hU, List.length_cons, State.stackLimits_setFrames, State.stackBytes_setFrames, hl9, hb9]
    refine ⟨⟨⟨⟨by omega, by omega, by omega, by omega, by omega, h6⟩, ?_⟩, ?_⟩, X.book⟩
    · show T.heap.size + R'.cells ≤ e.platform.maxCells
      omega
    · show T.slotsUsed + R'.slots ≤ e.platform.maxSlots
      omega
  · rw [State.stackLimits_setFrames]; rfl
  · rw [State.stackBytes_setFrames]; rfl
  · refine ⟨?_, Nat.le_refl _, Nat.le_refl _, ?_, ?_, fun a c9 h9 => ⟨c9, h9, rfl, rfl, fun _ _ => rfl⟩⟩
    · obtain ⟨t, ht, -⟩ := State.frames_cons hr
      show T.setVm s.vm = { ((T.setVm s.vm).setFrames (.invoking m args :: below)).setFrames (T.setVm s.vm).frames with heap := T.heap, slotsUsed := T.slotsUsed }
      rw [State.setFrames_setFrames, State.setFrames_self ht]
      rfl
    · show T.slotsUsed = T.slotsUsed + ((T.heap.toList.drop T.heap.size).map (·.slots.size)).sum
      rw [List.drop_eq_nil_of_le (Nat.le_of_eq Array.length_toList)]
      rfl
    · show ((T.heap.toList.drop T.heap.size).map (·.slots.size)).sum ≤ 0
      rw [List.drop_eq_nil_of_le (Nat.le_of_eq Array.length_toList)]
      exact Nat.le_refl _
/-- 'throw new E()': new; dup; invokespecial; athrow -/
theorem vx_throw0 {cc : ByteArray} {pc : Nat} (hexec : p.tables.exec = Jvm.exec) (hb : c.code = cc) (hl : l.stackTraces = false) {own cls : String} {names : List String} {ik ic mc ms : Nat} {A : Nat → Prop}
    (hown : s.vm.findClass own = some m.cls) (hcls : Bundle.fit cls = true) (hnames : ∀ n ∈ names, Bundle.fit n = true)
    (hk : (Cond.classLink own ik cls).before args s = true) (hini : (Cond.initialized cls).before args s = true) (hat : ∀ w ∈ vx_at0 own ic cls names, w.before args s = true)
    (hgood : ∀ w ∈ Cond.classLink own ik cls :: Cond.initialized cls :: vx_at0 own ic cls names, vx_ot w = true)
    (hU : vx_Zq Bundle.tN "UNASSIGNED_STACK" Bundle.steD A s s.heap) (hN : vx_Zq Bundle.tN "SUPPRESSED_SENTINEL" Bundle.listD A s s.heap) (hS : va_S A s.heap H locs) (hsize : ls.size = c.maxLocals)
    (d0 : decode cc pc = .ok (.new ik, 3)) (d3 : decode cc (pc + 3) = .ok (.dup, 1)) (d4 : decode cc (pc + 4) = .ok (.invokespecial ic, 3)) (d7 : decode cc (pc + 7) = .ok (.athrow, 1))
    (hout : ∀ x ∈ c.exceptionTable.toList, covers x (pc + 7) = false)
    (hRframes : names.length + 3 < R.frames) (hRlocals : (rest.map fun v => v.category).sum + (13 * (names.length + 1) + 42) ≤ R.locals) (hRcells : cells + 1 ≤ R.cells) (hRslots : slots + 6 ≤ R.slots) (hlocks : meth.locks = false)
    (hx : ∀ t : State, s.vm.Alike t.vm → H.size ≤ t.heap.size → (∀ q : Nat, q < H.size → t.heap[q]? = H[q]?) → XC cls s t)
    (hf : ∀ z ∈ locs, free z.base) (hc : cells + 1 ≤ mc) (hs : slots + 6 ≤ ms) :
    W p l e R s m args below meth c H locs cells slots (vx_MQ below Qc XC args s mc ms free) (F0 m pc ls rest) := by
  intro T hT X
  have htr : e.platform.stackTraces = false := (show e.platform.stackTraces = l.stackTraces by rw [X.admits.platform]).trans hl
  have Y := vx_rebase X (R' := { frames := R.frames, locals := R.locals, cells := 1, slots := 6 }) (Nat.le_refl _) (Nat.le_refl _) hRcells hRslots
  obtain ⟨s', hA⟩ : ∃ z, z = (T.setVm s.vm).setFrames (.invoking m args :: below) := ⟨_, rfl⟩
  rw [← hA] at Y
  have hvm : s'.vm = s.vm := by rw [hA]; rfl
  have hhp : s'.heap = H := by rw [hA]; exact hT
  have hW0 : s.WarmedH s'.vm := by rw [hvm]; exact State.WarmedH.refl s
  have hat' : ∀ w ∈ vx_at0 own ic cls names, w.before args s' = true := fun w hw => vx_ot_at hW0 hvm.symm (hgood w (List.mem_cons_of_mem _ (List.mem_cons_of_mem _ hw))) (hat w hw)
  have hk' : (Cond.classLink own ik cls).before args s' = true := vx_ot_at hW0 hvm.symm (hgood _ List.mem_cons_self) hk
  have hini' : (Cond.initialized cls).before args s' = true := vx_ot_at hW0 hvm.symm (hgood _ (List.mem_cons_of_mem _ List.mem_cons_self)) hini
  have hU' : vx_Zq Bundle.tN "UNASSIGNED_STACK" Bundle.steD A s' s'.heap := by rw [hhp]; exact vx_Zq.moved hW0.alike (hU.kept hS.2.1)
  have hN' : vx_Zq Bundle.tN "SUPPRESSED_SENTINEL" Bundle.listD A s' s'.heap := by rw [hhp]; exact vx_Zq.moved hW0.alike (hN.kept hS.2.1)
  have h : ∀ w ∈ Bundle.ownAtoms0 own ic cls names, w.before args s' = true := vx_own hat' (vx_isRefq hU'.1) (vx_isRefq hN'.1) hU'.2.word hN'.2.word
  have hown' : s'.vm.findClass own = some m.cls := by rw [hvm]; exact hown
  have hins : (Cond.instantiable cls 6).before args s' = true := h _ (by simp [Bundle.ownAtoms0])
  obtain ⟨vm₁, cX, kX, hfX, hkX, -, -, X₁, st1⟩ := Y.newCold hexec (own := own) (C := cls) (index := ik) (n := 6) hown' hk' hins hini'
    (g := F0 m pc ls rest) rfl (by rw [hb]; exact d0) (Nat.le_refl _) (Nat.le_refl _)
  generalize hT1 : (T.setVm vm₁).pushCell { cls := cX, slots := kX.instanceTypes.map defaultValue, vm := .none } = T1 at X₁ st1
  have hcat : (Value.ref T.heap.size).category = 1 := rfl
  have hcellA : T1.heap[T.heap.size]? = some (freshCell cX kX) := by rw [← hT1]; exact State.heap_pushCell_size _ _
  have d3' : decode c.code (pc + 3) = .ok (.dup, 1) := by rw [hb]; exact d3
  obtain ⟨U, hsteps, hrun, hend, hW, hsame, ce, hce, hO⟩ := X₁.ctorThrow0 hexec htr (own := own) (cls := cls) (names := names) (ic := ic) hown' hcls hnames h (fun x hx => nomatch hx) hfX hkX hcellA (by rw [hhp, hT]; exact Nat.le_refl _)
    (g := { method := m, pc := pc + 4, locals := ls, stack := .ref T.heap.size :: .ref T.heap.size :: rest, locked := none }) rfl hsize rfl rfl (rest := rest) rfl
    (by rw [hb]; exact d4) (by rw [hb]; exact d7) hout hRframes (by simp only [List.map_cons, List.sum_cons, hcat]; omega) hlocks
  obtain ⟨f1, f2⟩ := vx_frame hsame
  rw [hhp] at f1 f2
  have hWs : s.WarmedH U.vm := State.WarmedH.trans hW0 hW
  have hcl : s.vm.findClass cls = some ce.cls := by
    have h9 := hO.cls
    rw [hvm] at h9
    exact h9
  have hall : s.sameButNew ({ U with vm := s.vm } : State) locs mc ms := by
    subst hA
    obtain ⟨e1, e2⟩ := hsame
    rw [State.setFrames_setFrames] at e1
    have h2 : (T.setVm s.vm).sameButNew ({ U with vm := s.vm } : State) [] (0 + 1) (0 + 6) := ⟨e1, e2⟩
    have h3 := X.same.trans h2
    rw [List.append_nil] at h3
    exact h3.mono hc hs
  refine ⟨U, ?_, .threw T.heap.size, hrun, hend, Or.inr ⟨T.heap.size, rfl, cls, ce, locs, hx U hWs.alike f1 (fun q hq => f2 q hq (fun z hz => nomatch hz)), hce, hO.vm, hcl, hWs, hall, hf⟩⟩
  refine st1 _ ?_
  show Steps p.tables e below (T1.setTop { method := m, pc := pc + 3, locals := ls, stack := .ref T.heap.size :: rest, locked := none }) _
  jvm_step X₁.here [X₁.here.top, hexec, d3', Value.category]
  exact hsteps
/-- 'throw new E("text")': new; dup; ldc; invokespecial; athrow -/
theorem vx_throwS {cc : ByteArray} {pc : Nat} (hexec : p.tables.exec = Jvm.exec) (hb : c.code = cc) (hl : l.stackTraces = false) {own cls text : String} {names : List String} {ik is ic mc ms sa : Nat} {A : Nat → Prop}
    (hown : s.vm.findClass own = some m.cls) (hcls : Bundle.fit cls = true) (hnames : ∀ n ∈ names, Bundle.fit n = true)
    (hk : (Cond.classLink own ik cls).before args s = true) (hini : (Cond.initialized cls).before args s = true) (hstr : vk_R own is text sa s) (hat : ∀ w ∈ vx_atS own ic cls names, w.before args s = true)
    (hgood : ∀ w ∈ Cond.classLink own ik cls :: Cond.initialized cls :: vx_atS own ic cls names, vx_ot w = true)
    (hU : vx_Zq Bundle.tN "UNASSIGNED_STACK" Bundle.steD A s s.heap) (hN : vx_Zq Bundle.tN "SUPPRESSED_SENTINEL" Bundle.listD A s s.heap) (hS : va_S A s.heap H locs) (hsize : ls.size = c.maxLocals)
    (d0 : decode cc pc = .ok (.new ik, 3)) (d3 : decode cc (pc + 3) = .ok (.dup, 1)) (d4 : decode cc (pc + 4) = .ok (.ldc is, 2)) (d6 : decode cc (pc + 6) = .ok (.invokespecial ic, 3)) (d9 : decode cc (pc + 9) = .ok (.athrow, 1))
    (hout : ∀ x ∈ c.exceptionTable.toList, covers x (pc + 9) = false)
    (hRframes : names.length + 3 < R.frames) (hRlocals : (rest.map fun v => v.category).sum + (13 * (names.length + 1) + 43) ≤ R.locals) (hRcells : cells + 1 ≤ R.cells) (hRslots : slots + 6 ≤ R.slots) (hlocks : meth.locks = false)
    (hx : ∀ t : State, s.vm.Alike t.vm → H.size ≤ t.heap.size → (∀ q : Nat, q < H.size → t.heap[q]? = H[q]?) → XC cls s t)
    (hf : ∀ z ∈ locs, free z.base) (hc : cells + 1 ≤ mc) (hs : slots + 6 ≤ ms) :
    W p l e R s m args below meth c H locs cells slots (vx_MQ below Qc XC args s mc ms free) (F0 m pc ls rest) := by
  intro T hT X
  have htr : e.platform.stackTraces = false := (show e.platform.stackTraces = l.stackTraces by rw [X.admits.platform]).trans hl
  have Y := vx_rebase X (R' := { frames := R.frames, locals := R.locals, cells := 1, slots := 6 }) (Nat.le_refl _) (Nat.le_refl _) hRcells hRslots
  obtain ⟨s', hA⟩ : ∃ z, z = (T.setVm s.vm).setFrames (.invoking m args :: below) := ⟨_, rfl⟩
  rw [← hA] at Y
  have hvm : s'.vm = s.vm := by rw [hA]; rfl
  have hhp : s'.heap = H := by rw [hA]; exact hT
  have hW0 : s.WarmedH s'.vm := by rw [hvm]; exact State.WarmedH.refl s
  have hat' : ∀ w ∈ vx_atS own ic cls names, w.before args s' = true := fun w hw => vx_ot_at hW0 hvm.symm (hgood w (List.mem_cons_of_mem _ (List.mem_cons_of_mem _ hw))) (hat w hw)
  have hk' : (Cond.classLink own ik cls).before args s' = true := vx_ot_at hW0 hvm.symm (hgood _ List.mem_cons_self) hk
  have hini' : (Cond.initialized cls).before args s' = true := vx_ot_at hW0 hvm.symm (hgood _ (List.mem_cons_of_mem _ List.mem_cons_self)) hini
  have hU' : vx_Zq Bundle.tN "UNASSIGNED_STACK" Bundle.steD A s' s'.heap := by rw [hhp]; exact vx_Zq.moved hW0.alike (hU.kept hS.2.1)
  have hN' : vx_Zq Bundle.tN "SUPPRESSED_SENTINEL" Bundle.listD A s' s'.heap := by rw [hhp]; exact vx_Zq.moved hW0.alike (hN.kept hS.2.1)
  have h : ∀ w ∈ Bundle.ownAtoms own ic cls names, w.before args s' = true := vx_own hat' (vx_isRefq hU'.1) (vx_isRefq hN'.1) hU'.2.word hN'.2.word
  have hown' : s'.vm.findClass own = some m.cls := by rw [hvm]; exact hown
  have hins : (Cond.instantiable cls 6).before args s' = true := h _ (by simp [Bundle.ownAtoms])
  obtain ⟨vm₁, cX, kX, hfX, hkX, -, -, X₁, st1⟩ := Y.newCold hexec (own := own) (C := cls) (index := ik) (n := 6) hown' hk' hins hini'
    (g := F0 m pc ls rest) rfl (by rw [hb]; exact d0) (Nat.le_refl _) (Nat.le_refl _)
  generalize hT1 : (T.setVm vm₁).pushCell { cls := cX, slots := kX.instanceTypes.map defaultValue, vm := .none } = T1 at X₁ st1
  have hcat : (Value.ref T.heap.size).category = 1 := rfl
  have hcellA : T1.heap[T.heap.size]? = some (freshCell cX kX) := by rw [← hT1]; exact State.heap_pushCell_size _ _
  have d3' : decode c.code (pc + 3) = .ok (.dup, 1) := by rw [hb]; exact d3
  have d4' : decode c.code (pc + 4) = .ok (.ldc is, 2) := by rw [hb]; exact d4
  have hstr' : vk_R own is text sa s' := vk_R.warm hW0 hstr
  obtain ⟨U, hsteps, hrun, hend, hW, hsame, ce, hce, hO⟩ := X₁.ctorThrowS hexec htr (own := own) (cls := cls) (names := names) (ic := ic) hown' hcls hnames h (fun x hx => nomatch hx) hfX hkX hcellA (by rw [hhp, hT]; exact Nat.le_refl _) (msg := .ref sa) rfl
    (g := { method := m, pc := pc + 6, locals := ls, stack := .ref sa :: .ref T.heap.size :: .ref T.heap.size :: rest, locked := none }) rfl hsize rfl rfl (rest := rest) rfl
    (by rw [hb]; exact d6) (by rw [hb]; exact d9) hout hRframes (by simp only [List.map_cons, List.sum_cons, hcat]; omega) hlocks
  obtain ⟨f1, f2⟩ := vx_frame hsame
  rw [hhp] at f1 f2
  have hWs : s.WarmedH U.vm := State.WarmedH.trans hW0 hW
  have hcl : s.vm.findClass cls = some ce.cls := by
    have h9 := hO.cls
    rw [hvm] at h9
    exact h9
  have hall : s.sameButNew ({ U with vm := s.vm } : State) locs mc ms := by
    subst hA
    obtain ⟨e1, e2⟩ := hsame
    rw [State.setFrames_setFrames] at e1
    have h2 : (T.setVm s.vm).sameButNew ({ U with vm := s.vm } : State) [] (0 + 1) (0 + 6) := ⟨e1, e2⟩
    have h3 := X.same.trans h2
    rw [List.append_nil] at h3
    exact h3.mono hc hs
  refine ⟨U, ?_, .threw T.heap.size, hrun, hend, Or.inr ⟨T.heap.size, rfl, cls, ce, locs, hx U hWs.alike f1 (fun q hq => f2 q hq (fun z hz => nomatch hz)), hce, hO.vm, hcl, hWs, hall, hf⟩⟩
  refine st1 _ ?_
  show Steps p.tables e below (T1.setTop { method := m, pc := pc + 3, locals := ls, stack := .ref T.heap.size :: rest, locked := none }) _
  jvm_step X₁.here [X₁.here.top, hexec, d3', Value.category]
  exact X₁.ldcString hexec (own := own) (text := text) (index := is) (a := sa) hown' hstr'.1 hstr'.2
    (g := { method := m, pc := pc + 4, locals := ls, stack := .ref T.heap.size :: .ref T.heap.size :: rest, locked := none }) rfl d4' _ hsteps
/-- 'throw new E("text")', the text by a wide index -/
theorem vx_throwSW {cc : ByteArray} {pc : Nat} (hexec : p.tables.exec = Jvm.exec) (hb : c.code = cc) (hl : l.stackTraces = false) {own cls text : String} {names : List String} {ik is ic mc ms sa : Nat} {A : Nat → Prop}
    (hown : s.vm.findClass own = some m.cls) (hcls : Bundle.fit cls = true) (hnames : ∀ n ∈ names, Bundle.fit n = true)
    (hk : (Cond.classLink own ik cls).before args s = true) (hini : (Cond.initialized cls).before args s = true) (hstr : vk_R own is text sa s) (hat : ∀ w ∈ vx_atS own ic cls names, w.before args s = true)
    (hgood : ∀ w ∈ Cond.classLink own ik cls :: Cond.initialized cls :: vx_atS own ic cls names, vx_ot w = true)
    (hU : vx_Zq Bundle.tN "UNASSIGNED_STACK" Bundle.steD A s s.heap) (hN : vx_Zq Bundle.tN "SUPPRESSED_SENTINEL" Bundle.listD A s s.heap) (hS : va_S A s.heap H locs) (hsize : ls.size = c.maxLocals)
    (d0 : decode cc pc = .ok (.new ik, 3)) (d3 : decode cc (pc + 3) = .ok (.dup, 1)) (d4 : decode cc (pc + 4) = .ok (.ldc_w is, 3)) (d7 : decode cc (pc + 7) = .ok (.invokespecial ic, 3)) (d10 : decode cc (pc + 10) = .ok (.athrow, 1))
    (hout : ∀ x ∈ c.exceptionTable.toList, covers x (pc + 10) = false)
    (hRframes : names.length + 3 < R.frames) (hRlocals : (rest.map fun v => v.category).sum + (13 * (names.length + 1) + 43) ≤ R.locals) (hRcells : cells + 1 ≤ R.cells) (hRslots : slots + 6 ≤ R.slots) (hlocks : meth.locks = false)
    (hx : ∀ t : State, s.vm.Alike t.vm → H.size ≤ t.heap.size → (∀ q : Nat, q < H.size → t.heap[q]? = H[q]?) → XC cls s t)
    (hf : ∀ z ∈ locs, free z.base) (hc : cells + 1 ≤ mc) (hs : slots + 6 ≤ ms) :
    W p l e R s m args below meth c H locs cells slots (vx_MQ below Qc XC args s mc ms free) (F0 m pc ls rest) := by
  intro T hT X
  have htr : e.platform.stackTraces = false := (show e.platform.stackTraces = l.stackTraces by rw [X.admits.platform]).trans hl
  have Y := vx_rebase X (R' := { frames := R.frames, locals := R.locals, cells := 1, slots := 6 }) (Nat.le_refl _) (Nat.le_refl _) hRcells hRslots
  obtain ⟨s', hA⟩ : ∃ z, z = (T.setVm s.vm).setFrames (.invoking m args :: below) := ⟨_, rfl⟩
  rw [← hA] at Y
  have hvm : s'.vm = s.vm := by rw [hA]; rfl
  have hhp : s'.heap = H := by rw [hA]; exact hT
  have hW0 : s.WarmedH s'.vm := by rw [hvm]; exact State.WarmedH.refl s
  have hat' : ∀ w ∈ vx_atS own ic cls names, w.before args s' = true := fun w hw => vx_ot_at hW0 hvm.symm (hgood w (List.mem_cons_of_mem _ (List.mem_cons_of_mem _ hw))) (hat w hw)
  have hk' : (Cond.classLink own ik cls).before args s' = true := vx_ot_at hW0 hvm.symm (hgood _ List.mem_cons_self) hk
  have hini' : (Cond.initialized cls).before args s' = true := vx_ot_at hW0 hvm.symm (hgood _ (List.mem_cons_of_mem _ List.mem_cons_self)) hini
  have hU' : vx_Zq Bundle.tN "UNASSIGNED_STACK" Bundle.steD A s' s'.heap := by rw [hhp]; exact vx_Zq.moved hW0.alike (hU.kept hS.2.1)
  have hN' : vx_Zq Bundle.tN "SUPPRESSED_SENTINEL" Bundle.listD A s' s'.heap := by rw [hhp]; exact vx_Zq.moved hW0.alike (hN.kept hS.2.1)
  have h : ∀ w ∈ Bundle.ownAtoms own ic cls names, w.before args s' = true := vx_own hat' (vx_isRefq hU'.1) (vx_isRefq hN'.1) hU'.2.word hN'.2.word
  have hown' : s'.vm.findClass own = some m.cls := by rw [hvm]; exact hown
  have hins : (Cond.instantiable cls 6).before args s' = true := h _ (by simp [Bundle.ownAtoms])
  obtain ⟨vm₁, cX, kX, hfX, hkX, -, -, X₁, st1⟩ := Y.newCold hexec (own := own) (C := cls) (index := ik) (n := 6) hown' hk' hins hini'
    (g := F0 m pc ls rest) rfl (by rw [hb]; exact d0) (Nat.le_refl _) (Nat.le_refl _)
  generalize hT1 : (T.setVm vm₁).pushCell { cls := cX, slots := kX.instanceTypes.map defaultValue, vm := .none } = T1 at X₁ st1
  have hcat : (Value.ref T.heap.size).category = 1 := rfl
  have hcellA : T1.heap[T.heap.size]? = some (freshCell cX kX) := by rw [← hT1]; exact State.heap_pushCell_size _ _
  have d3' : decode c.code (pc + 3) = .ok (.dup, 1) := by rw [hb]; exact d3
  have d4' : decode c.code (pc + 4) = .ok (.ldc_w is, 3) := by rw [hb]; exact d4
  have hstr' : vk_R own is text sa s' := vk_R.warm hW0 hstr
  obtain ⟨U, hsteps, hrun, hend, hW, hsame, ce, hce, hO⟩ := X₁.ctorThrowS hexec htr (own := own) (cls := cls) (names := names) (ic := ic) hown' hcls hnames h (fun x hx => nomatch hx) hfX hkX hcellA (by rw [hhp, hT]; exact Nat.le_refl _) (msg := .ref sa) rfl
    (g := { method := m, pc := pc + 7, locals := ls, stack := .ref sa :: .ref T.heap.size :: .ref T.heap.size :: rest, locked := none }) rfl hsize rfl rfl (rest := rest) rfl
    (by rw [hb]; exact d7) (by rw [hb]; exact d10) hout hRframes (by simp only [List.map_cons, List.sum_cons, hcat]; omega) hlocks
  obtain ⟨f1, f2⟩ := vx_frame hsame
  rw [hhp] at f1 f2
  have hWs : s.WarmedH U.vm := State.WarmedH.trans hW0 hW
  have hcl : s.vm.findClass cls = some ce.cls := by
    have h9 := hO.cls
    rw [hvm] at h9
    exact h9
  have hall : s.sameButNew ({ U with vm := s.vm } : State) locs mc ms := by
    subst hA
    obtain ⟨e1, e2⟩ := hsame
    rw [State.setFrames_setFrames] at e1
    have h2 : (T.setVm s.vm).sameButNew ({ U with vm := s.vm } : State) [] (0 + 1) (0 + 6) := ⟨e1, e2⟩
    have h3 := X.same.trans h2
    rw [List.append_nil] at h3
    exact h3.mono hc hs
  refine ⟨U, ?_, .threw T.heap.size, hrun, hend, Or.inr ⟨T.heap.size, rfl, cls, ce, locs, hx U hWs.alike f1 (fun q hq => f2 q hq (fun z hz => nomatch hz)), hce, hO.vm, hcl, hWs, hall, hf⟩⟩
  refine st1 _ ?_
  show Steps p.tables e below (T1.setTop { method := m, pc := pc + 3, locals := ls, stack := .ref T.heap.size :: rest, locked := none }) _
  jvm_step X₁.here [X₁.here.top, hexec, d3', Value.category]
  exact X₁.ldcStringW hexec (own := own) (text := text) (index := is) (a := sa) hown' hstr'.1 hstr'.2
    (g := { method := m, pc := pc + 4, locals := ls, stack := .ref T.heap.size :: .ref T.heap.size :: rest, locked := none }) rfl d4' _ hsteps
end Ends
section Bodies
variable {l : Launch}
theorem vx_ofW {y : MethodName} {ws ws' : List Cond} {rm : Room} {Pc : Array Value → State → Prop} {Qc : Array Value → State → Outcome → State → Prop} {XC : String → State → State → Prop} {mc ms : Nat} {free : Addr → Prop} {cc : ByteArray} {maxL : Nat} {ret : Option FieldType}
    (hy : plainName y.cls = true) (hw : ws = Cond.code y cc maxL ret :: ws')
    (body : ∀ p e s m args below meth c s₁, BodyLoose p l y (headSpec ws rm) cc maxL ret e s m args below meth c s₁ → c.maxLocals = maxL → (∀ x ∈ c.exceptionTable.toList, False) → Pc args s →
      W p l e (headSpec ws rm).room s m args below meth c s.heap [] 0 0 (vx_MQ below Qc XC args s mc ms free) (entryFrame m args maxL)) : vx_Met l y ws rm Pc Qc XC mc ms free := by
  refine MetFree.of_bodyS (code := cc) (maxLocals := maxL) (ret := ret) hy ?_ ?_
  · intro args s m h hn
    obtain ⟨meth, c, h1, h2, h3, h4, h5, h6, -, -⟩ := Cond.code_spec hn (atoms_spec (ws := ws) h _ (by rw [hw]; exact List.mem_cons_self))
    exact ⟨meth, c, h1, h2, h3, h4, h5, h6⟩
  · intro p e s m args below meth c s₁ B hml hP _
    have hh0 : s₁.heap = s.heap := by rw [B.state]; rfl
    have ht : ∀ x ∈ c.exceptionTable.toList, False := by
      obtain ⟨meth9, c9, h1, h2, -, -, -, -, h7, -⟩ := Cond.code_spec B.named (atoms_spec (ws := ws) B.pre _ (by rw [hw]; exact List.mem_cons_self))
      cases Option.some.inj (h1.symm.trans B.method)
      cases Option.some.inj (h2.symm.trans (Stand.of_body B).code)
      intro x hx
      rw [Array.isEmpty_iff.mp h7] at hx
      cases hx
    obtain ⟨t, a1, o, b1, b2, b3⟩ := body p e s m args below meth c s₁ B hml ht hP s₁ hh0 (Stand.of_body B)
    exact ⟨t, o, a1, b1, b2, b3⟩
/-- the table of a body with handlers -/
theorem vx_table {p : Program} {x y : MethodName} {S : Spec} {cc bytes : ByteArray} {maxL maxL' : Nat} {ret ret' : Option FieldType} {e : Env} {s s₁ : State} {m : MethodId} {args : Array Value} {below : List Frame} {meth : Method} {c : Code} {hh : List (Nat × Nat × Nat × Nat)}
    (B : BodyLoose p l y S cc maxL ret e s m args below meth c s₁) (h : (Cond.codeWith y bytes maxL' ret' hh).before args s = true) : c.exceptionTable.toList = tableOf hh := by
  obtain ⟨m9, meth9, c9, hn9, h1, h2, -, -, h6, -⟩ := Cond.codeWith_spec h
  cases Option.some.inj (hn9.symm.trans B.named)
  cases Option.some.inj (h1.symm.trans B.method)
  cases Option.some.inj (h2.symm.trans (Stand.of_body B).code)
  rw [← h6, table_eq]
end Bodies
end VXA

/-! ===== BEGIN a static call of a method with an exception table ===== -/
section VXS
variable {p : Program} {l : Launch} {e : Env} {R : Room} {s : State} {m : MethodId} {args : Array Value} {below : List Frame} {meth : Method} {c : Code} {T : State} {H : Heap} {locs : List Loc} {cells slots : Nat}
abbrev vx_CSW (R : Room) (s : State) (args : Array Value) (own : String) (index : Nat) (y : MethodName) (bytes : ByteArray) (maxL : Nat) (ret : Option FieldType) (hh : List (Nat × Nat × Nat × Nat)) (ws : List Cond) (rm : Room) (mc ms n : Nat) : Prop :=
  (rm.cells = mc ∧ rm.slots = ms ∧ rm.frames + 1 ≤ R.frames ∧ 8 + (maxL + 11) + rm.locals ≤ R.locals ∧ (∀ w ∈ ws, ∀ (a' : Array Value) (U : State), s.WarmedH U.vm → w.before a' U = true) ∧ Cond.codeWith y bytes maxL ret hh ∈ ws) ∧
  (Cond.codeWith y bytes maxL ret hh).before args s = true ∧ (Cond.initialized y.cls).before args s = true ∧ (y.cls ≠ "java/lang/invoke/MethodHandle" ∧ y.cls ≠ "java/lang/invoke/VarHandle") ∧
  (∀ sig, parseMethodDescriptor y.desc = some sig → n = sig.parameters.length) ∧ (Cond.methodLink own index y).before args s = true ∧ (Cond.static y).before args s = true
theorem vx_cwSW {own : String} {index maxL mc ms : Nat} {y : MethodName} {bytes : ByteArray} {ret : Option FieldType} {hh : List (Nat × Nat × Nat × Nat)} {Ts ws ws' : List Cond} {rm : Room} (n : Nat) (ht : ∀ w ∈ Ts, w.before args s = true) (hT : GoodIn Ts (va_wsS own index y ws)) (hw : ws = Cond.codeWith y bytes maxL ret hh :: ws') (hrc : rm.cells = mc) (hrs : rm.slots = ms)
    (hd : y.cls ≠ "java/lang/invoke/MethodHandle" ∧ y.cls ≠ "java/lang/invoke/VarHandle" ∧ (parseMethodDescriptor y.desc).map (fun d => d.parameters.length) = some n) (hR : rm.frames + 1 ≤ R.frames ∧ 8 + (maxL + 11) + rm.locals ≤ R.locals) :
    vx_CSW R s args own index y bytes maxL ret hh ws rm mc ms n := by
  have ok : ∀ w ∈ va_wsS own index y ws, w.before args s = true := fun w h => ht w (hT w h).1
  have hG : GoodIn Ts ws := fun w h => hT w (by unfold va_wsS; exact List.mem_append_right _ h)
  have hc : Cond.codeWith y bytes maxL ret hh ∈ ws := by rw [hw]; exact List.mem_cons_self
  refine ⟨⟨hrc, hrs, hR.1, hR.2, pay_in ht hG, hc⟩, ht _ (hG _ hc).1, ok _ (by simp [va_wsS]), ⟨hd.1, hd.2.1⟩, fun sig h => ?_, ok _ (by simp [va_wsS]), ok _ (by simp [va_wsS])⟩
  have h2 := hd.2.2
  rw [h] at h2
  exact (Option.some.inj h2).symm
theorem vx_callSW (X : Stand p l e R s m args below meth c T locs cells slots) (hexec : p.tables.exec = Jvm.exec) {own : String} {index : Nat} {y : MethodName} {bytes : ByteArray} {maxL : Nat} {ret : Option FieldType} {hh : List (Nat × Nat × Nat × Nat)}
    (hown : s.vm.findClass own = some m.cls) (hlink : (Cond.methodLink own index y).before args s = true) (hstat : (Cond.static y).before args s = true) (hinit : (Cond.initialized y.cls).before args s = true)
    (hcode : (Cond.codeWith y bytes maxL ret hh).before args s = true) (hy : y.cls ≠ "java/lang/invoke/MethodHandle" ∧ y.cls ≠ "java/lang/invoke/VarHandle")
    {W9 : Nat} {Pre : Pt → Array Value → Prop} {Post : Pt → Array Value → Option Value → Pt → Prop} (hK : Back l R p e below s args y 3 W9 Pre Post)
    {g : JFrame} (hg : g.method = m) (hsize : g.locals.size = c.maxLocals) {argsL rest : List Value} (hlen : ∀ sig, parseMethodDescriptor y.desc = some sig → argsL.length = sig.parameters.length)
    (hstack : g.stack = argsL.reverse ++ rest) (hW : 2 * g.monitorRoom + (rest.map fun v => v.category).sum ≤ W9) (hdg : decode c.code g.pc = .ok (.invokestatic index, 3))
    (hpre : ∀ vm₁, s.WarmedH vm₁ → Pre ⟨T.setVm vm₁, locs, cells, slots⟩ argsL.toArray) :
    ∃ (v : Option Value) (vm₁ : Vm) (B : Pt), s.WarmedH vm₁ ∧ Stand p l e R s m args below meth c B.U B.locs B.cells B.slots ∧ Post ⟨T.setVm vm₁, locs, cells, slots⟩ argsL.toArray v B ∧
      ∀ target, Steps p.tables e below (B.U.setTop { g with pc := g.pc + 3, stack := v.toList ++ rest }) target → Steps p.tables e below (T.setTop g) target := by
  obtain ⟨mk, methM, cM, hnamed, hmethM, -, -, -, -, -, -, hsigM⟩ := Cond.codeWith_spec hcode
  have hstatic : methM.isStatic = true := Cond.static_spec hnamed hmethM hstat
  obtain ⟨kP, hkP, -⟩ := className_of_methodNamed hnamed
  have hinitP : kP.init = .initialized := Cond.initialized_spec (findClass_of_methodNamed hnamed) hkP hinit
  obtain ⟨vm₁, X₁, hstep₁⟩ := X.invokestatic hexec hown hlink hnamed hmethM hstatic hkP hinitP hy (g := g) hg (argsL := argsL) (rest := rest) (hlen _ hsigM) hstack hdg
  obtain ⟨v, B, X', hpost, hsteps⟩ := hK m meth c ⟨T.setVm vm₁, locs, cells, slots⟩ { g with stack := rest } (.invokestatic index) mk argsL.toArray X₁ hg hsize hdg hW (X₁.named hnamed) (hpre vm₁ X₁.warmed)
  exact ⟨v, vm₁, B, X₁.warmed, X', hpost, fun target h => hstep₁ _ fun acts => by rw [doInvoke_state]; exact hsteps.trans h⟩
theorem vx_runSW {y : MethodName} {bytes cc : ByteArray} {maxL nL mc ms n index : Nat} {ret : Option FieldType} {hh : List (Nat × Nat × Nat × Nat)} {ws : List Cond} {rm : Room} {Pc : Array Value → State → Prop} {Qc : Array Value → State → Outcome → State → Prop} {free : Addr → Prop} {Ts : List Cond} {own : String} {As rest : List Value} {g : JFrame}
    (S : CallFix p m c cc nL s args Ts own) (hM : Met l y ws rm Pc Qc mc ms free) (cw : vx_CSW R s args own index y bytes maxL ret hh ws rm mc ms n) (hp : PreS s H Pc As)
    (hg : g.method = m) (hn : As.length = n) (hsize : g.locals.size = nL) (hstack : g.stack = As.reverse ++ rest) (hW : 2 * g.monitorRoom + (rest.map fun v => v.category).sum ≤ 8) (hdg : decode cc g.pc = .ok (.invokestatic index, 3)) (hf : cells + mc ≤ R.cells ∧ slots + ms ≤ R.slots) :
    va_Run p l e R s m args below meth c H locs cells slots mc ms g rest (Qc As.toArray) (free) := by
  obtain ⟨⟨hrc, hrs, hfr, hlo, hws, hcw⟩, hcode, hini, hy, hlen, hl, hstt⟩ := cw
  have hK : Back l R p e below s args y 3 8 (PreOf R mc ms Pc) (PostOf Qc mc ms free) := va_backW (hh := hh) (bytes := bytes) (maxL := maxL) (ret := ret) hM hp.1 hrc hrs hfr hlo hws hcw (fun a' U hW => word_at hW (Or.inl (by first | rfl | simp [Cond.onTables, Cond.keeps, Cond.steady])) hini)
  obtain ⟨hx, hb, hml, ho, -⟩ := S
  intro T hT X
  obtain ⟨v, vm₁, ⟨U', l2, c2, s2⟩, hW₁, X', ⟨g', mk, t, L, e1, e2, hq, h1, hL, h2, h3⟩, st⟩ := vx_callSW X hx (hh := hh) (bytes := bytes) (maxL := maxL) (ret := ret) ho hl hstt hini hcode hy hK hg (hsize.trans hml.symm) (argsL := As) (rest := rest) (fun sig h => hn.trans (hlen sig h)) hstack hW (by rw [hb]; exact hdg)
    (fun vm₁ hW₁ => ⟨hf.1, hf.2, hp.2 (T.setVm vm₁) hT hW₁⟩)
  dsimp only [Pt.U, Pt.locs, Pt.cells, Pt.slots] at X' e1 e2 h1 h2 h3 st
  subst h1; subst h2; subst h3
  exact ⟨v, (T.setVm vm₁).calling g' mk As.toArray, t, U', L, hT, X', hL, e1, e2, hq, st⟩
/-- a thing of a world lies in the heap -/
theorem vx_lt {D : va_G} {cl : List vw_C} {ws : va_W} {H1 : Heap} (h : va_P D cl ws H1) {k : Nat} {q : Nat × va_E} (hk : ws[k]? = some q) : q.1 < H1.size := (h k q hk).lt
end VXS

/-! ===== BEGIN methods with a table of their own: called by a name, returning or throwing ===== -/
section VXH
/-! vx_backW, vx_callVX, vx_callSX, vx_callVW, vx_runVW, vx_runVX, vx_runSX, vx_ofWH follow the same proofs as their sisters above (Free/Laws.lean, Shelf42/LK1.lean); vx_outP calls Shelf42/NT130.lean (outThrough). -/
section
variable {l : Launch} {R : Room} {p : Program} {e : Env} {below : List Frame} {s : State} {sargs : Array Value} {y : MethodName} {len W9 : Nat}
theorem vx_backW {ws : List Cond} {rm : Room} {Pc : Array Value → State → Prop} {Qc : Array Value → State → Outcome → State → Prop} {XC : String → State → State → Prop} {mc ms : Nat} {free : Addr → Prop} {bytes : ByteArray} {maxL : Nat} {ret : Option FieldType} {hh : List (Nat × Nat × Nat × Nat)}
    (hM : vx_Met l y ws rm Pc Qc XC mc ms free) (hblind : FrameBlind Pc) (hrc : rm.cells = mc) (hrs : rm.slots = ms)
    (hframes : rm.frames + 1 ≤ R.frames) (hlocals : W9 + (maxL + 11) + rm.locals ≤ R.locals)
    (hws : ∀ w ∈ ws, ∀ a' U, s.WarmedH U.vm → w.before a' U = true) (hcode : Cond.codeWith y bytes maxL ret hh ∈ ws) (hinit : ∀ a' U, s.WarmedH U.vm → (Cond.initialized y.cls).before a' U = true) :
    vx_Back l R p e below s sargs y len W9 (PreOf R mc ms Pc) (PostOf Qc mc ms free) (vx_Post XC mc ms free) := by
  intro m meth c A g ig mk a X hg hsize hdg hW hn hp
  have h1 : (headSpec ws rm).pre.before a A.U = true := atoms_intro fun w hw => hws w hw _ _ X.warmed
  have h2 : (Cond.codeWith y bytes maxL ret hh).before a A.U = true := hws _ hcode _ _ X.warmed
  have h3 : (Cond.initialized y.cls).before a A.U = true := hinit _ _ X.warmed
  have h4 : A.cells + (headSpec ws rm).room.cells ≤ R.cells := by rw [show (headSpec ws rm).room.cells = mc from hrc]; exact hp.1
  have h5 : A.slots + (headSpec ws rm).room.slots ≤ R.slots := by rw [show (headSpec ws rm).room.slots = ms from hrs]; exact hp.2.1
  have hPc : Pc a (A.U.calling g mk a) := hblind _ _ _ _ hp.2.2
  obtain ⟨U, Ls, c0, s0⟩ := A
  dsimp only [Pt.U, Pt.locs, Pt.cells, Pt.slots] at h1 h2 h3 h4 h5 X hn hPc ⊢
  obtain ⟨m9, methY, cY, hn9, hmY, hcY, -, hlY, -⟩ := Cond.codeWith_spec h2
  cases Option.some.inj (hn9.symm.trans hn)
  obtain ⟨kY, hkY, -⟩ := className_of_methodNamed hn
  have hinitY : kY.init = .initialized := Cond.initialized_spec (findClass_of_methodNamed hn) hkY h3
  have h : At U g.method c below := by rw [hg]; exact X.here
  have hlocals9 : W9 + (maxL + 11) + (headSpec ws rm).room.locals ≤ R.locals := hlocals
  have happ : (headSpec ws rm).appliesLoose y e.platform (U.calling g mk a) = true :=
    Spec.appliesLoose_calling (g := g) h hdg hn hkY hinitY
      (X.room_calling (g := g) (R' := (headSpec ws rm).room) hsize hmY hcY hframes (by rw [hlY]; omega) h4 h5) h1
  obtain ⟨mid, hmid⟩ := h.above
  have hfr : (U.setTop g).frames = (.java g :: mid) ++ below := by rw [State.frames_setTop' g h.top, hmid]; rfl
  obtain ⟨o, s₂, hsteps, -, hend, hq⟩ := Steps.callFree hM p X.admits X.cas X.clock (acts := []) hfr happ hPc trivial
  have hq' : vx_Q Qc XC mc ms free a (U.calling g mk a) o s₂ := hq
  rw [State.frames_setTop' g h.top] at hend
  obtain ⟨g₀, hg0⟩ := Option.isSome_iff_exists.mp h.top
  obtain ⟨r, hr⟩ := State.topJava?_eq_some.mp hg0
  have hr' : (({ U with heap := s₂.heap, slotsUsed := s₂.slotsUsed } : State).setVm s₂.vm).frames = .java g₀ :: r := hr
  rcases hq' with ⟨hqc, L, hfe, hL⟩ | ⟨q, rfl, E, ce, L, hx, hce, hcv, hcl, hW₂, hsm, hL⟩
  · obtain ⟨⟨v, rfl⟩, hW₂, e2, q2, q3, q4, q5, q6⟩ := id hfe
    have e3 : s₂ = ({ (U.calling g mk a).setFrames s₂.frames with heap := s₂.heap, slotsUsed := s₂.slotsUsed } : State).setVm s₂.vm := by
      have : s₂ = ({ s₂ with vm := (U.calling g mk a).vm } : State).setVm s₂.vm := rfl
      rw [e2] at this
      exact this
    obtain ⟨c₂, i₂, len₂, hc₂, hd₂, hf₂⟩ := hend
    have hW' : U.WarmedH s₂.vm := hW₂
    have hcc : c₂ = c := by
      have h1 : s₂.code? g.method = U.code? g.method := by
        rw [State.code?_eq, State.code?_eq, hW'.alike.method?]
      exact Option.some.inj (hc₂.symm.trans (h1.trans h.code))
    subst hcc
    have hlen : len₂ = len := by rw [hdg] at hd₂; cases hd₂; rfl
    subst hlen
    have hs₂ : s₂ = (({ U with heap := s₂.heap, slotsUsed := s₂.slotsUsed } : State).setVm s₂.vm).setTop { g with pc := g.pc + len₂, stack := v.toList ++ g.stack } := by
      refine e3.trans ?_
      rw [hf₂, State.calling_eq h.top, State.setFrames_setFrames, State.setTop_of_frames _ hr', hr]
      rfl
    have hsame : U.sameButNew ({ U with heap := s₂.heap, slotsUsed := s₂.slotsUsed } : State) L mc ms := by
      refine ⟨?_, q2, q3, q4, q5, q6⟩
      obtain ⟨t, ht, -⟩ := State.frames_cons hr
      show ({ U with heap := s₂.heap, slotsUsed := s₂.slotsUsed } : State) = { U.setFrames U.frames with heap := s₂.heap, slotsUsed := s₂.slotsUsed }
      rw [State.setFrames_self ht]
    subst hg
    refine Or.inl ⟨v, ⟨(({ U with heap := s₂.heap, slotsUsed := s₂.slotsUsed } : State).setVm s₂.vm), Ls ++ L, c0 + mc, s0 + ms⟩,
      ⟨X.admits, X.cas, X.clock, X.frames, X.room, X.hears, X.method, X.code, (X.here.setHeapUsed s₂.heap s₂.slotsUsed).setVm hW'.alike, X.tail, State.WarmedH.trans X.warmed hW', X.limits, X.bytes, X.same.trans (hsame.setVm s.vm)⟩,
      ⟨g, mk, s₂, L, rfl, rfl, hqc, rfl, hL, rfl, rfl⟩, ?_⟩
    show Steps p.tables e below _ ((({ U with heap := s₂.heap, slotsUsed := s₂.slotsUsed } : State).setVm s₂.vm).setTop { g with pc := g.pc + len₂, stack := v.toList ++ g.stack })
    rw [← hs₂]
    exact hsteps
  · obtain ⟨e2, q2, q3, q4, q5, q6⟩ := id hsm
    have e3 : s₂ = ({ (U.calling g mk a).setFrames s₂.frames with heap := s₂.heap, slotsUsed := s₂.slotsUsed } : State).setVm s₂.vm := by
      have : s₂ = ({ s₂ with vm := (U.calling g mk a).vm } : State).setVm s₂.vm := rfl
      rw [e2] at this
      exact this
    have hf₂ : s₂.frames = .throwing q :: .java g :: U.frames.tail := hend
    have hW' : U.WarmedH s₂.vm := hW₂
    have hs₂ : s₂ = ((({ U with heap := s₂.heap, slotsUsed := s₂.slotsUsed } : State).setVm s₂.vm).setTop g).pushFrame (.throwing q) := by
      refine e3.trans ?_
      rw [hf₂, State.calling_eq h.top, State.setFrames_setFrames, State.pushFrame, State.frames_setTop _ hr', State.setTop_of_frames _ hr', State.setFrames_setFrames, hr]
      rfl
    have hsame : U.sameButNew ({ U with heap := s₂.heap, slotsUsed := s₂.slotsUsed } : State) L mc ms := by
      refine ⟨?_, q2, q3, q4, q5, q6⟩
      obtain ⟨t, ht, -⟩ := State.frames_cons hr
      show ({ U with heap := s₂.heap, slotsUsed := s₂.slotsUsed } : State) = { U.setFrames U.frames with heap := s₂.heap, slotsUsed := s₂.slotsUsed }
      rw [State.setFrames_self ht]
    subst hg
    refine Or.inr ⟨q, ⟨(({ U with heap := s₂.heap, slotsUsed := s₂.slotsUsed } : State).setVm s₂.vm), Ls ++ L, c0 + mc, s0 + ms⟩,
      ⟨X.admits, X.cas, X.clock, X.frames, X.room, X.hears, X.method, X.code, (X.here.setHeapUsed s₂.heap s₂.slotsUsed).setVm hW'.alike, X.tail, State.WarmedH.trans X.warmed hW', X.limits, X.bytes, X.same.trans (hsame.setVm s.vm)⟩,
      ⟨g, mk, s₂, L, E, ce, rfl, rfl, hx, hce, hcv, hcl, rfl, hL, rfl, rfl⟩, ?_⟩
    show Steps p.tables e below _ (((({ U with heap := s₂.heap, slotsUsed := s₂.slotsUsed } : State).setVm s₂.vm).setTop g).pushFrame (.throwing q))
    rw [← hs₂]
    exact hsteps
end
variable {p : Program} {l : Launch} {e : Env} {R : Room} {s : State} {m : MethodId} {args : Array Value} {below : List Frame} {meth : Method} {c : Code} {T : State} {H : Heap} {locs : List Loc} {cells slots : Nat}
theorem vx_callVX (X : Stand p l e R s m args below meth c T locs cells slots) (hexec : p.tables.exec = Jvm.exec) {own C : String} {index : Nat} {y : MethodName} {bytes : ByteArray} {maxL : Nat} {ret : Option FieldType} {hh : List (Nat × Nat × Nat × Nat)}
    (hown : s.vm.findClass own = some m.cls) (hlink : (Cond.methodLink own index y).before args s = true) (hinst : (Cond.instanceMethod y).before args s = true) (hsel : (Cond.selects C y y).before args s = true)
    (hcode : (Cond.codeWith y bytes maxL ret hh).before args s = true) (hy : y.cls ≠ "java/lang/invoke/MethodHandle" ∧ y.cls ≠ "java/lang/invoke/VarHandle")
    {W9 : Nat} {Pre : Pt → Array Value → Prop} {Post : Pt → Array Value → Option Value → Pt → Prop} {PostX : Pt → Array Value → Addr → Pt → Prop} (hK : vx_Back l R p e below s args y 3 W9 Pre Post PostX)
    {b : Addr} {cellB : Cell} (hcell : T.heap[b]? = some cellB) (hobj : cellB.vm.isStatics = false) (hcls : s.vm.findClass C = some cellB.cls)
    {g : JFrame} (hg : g.method = m) (hsize : g.locals.size = c.maxLocals) {argsL rest : List Value} (hlen : ∀ sig, parseMethodDescriptor y.desc = some sig → argsL.length = sig.parameters.length)
    (hstack : g.stack = argsL.reverse ++ .ref b :: rest) (hW : 2 * g.monitorRoom + (rest.map fun v => v.category).sum ≤ W9) (hdg : decode c.code g.pc = .ok (.invokevirtual index, 3))
    (hpre : ∀ vm₁, s.WarmedH vm₁ → Pre ⟨T.setVm vm₁, locs, cells, slots⟩ (Value.ref b :: argsL).toArray) :
    (∃ (v : Option Value) (vm₁ : Vm) (B : Pt), s.WarmedH vm₁ ∧ Stand p l e R s m args below meth c B.U B.locs B.cells B.slots ∧ Post ⟨T.setVm vm₁, locs, cells, slots⟩ (Value.ref b :: argsL).toArray v B ∧
      ∀ target, Steps p.tables e below (B.U.setTop { g with pc := g.pc + 3, stack := v.toList ++ rest }) target → Steps p.tables e below (T.setTop g) target) ∨
    (∃ (q : Addr) (vm₁ : Vm) (B : Pt), s.WarmedH vm₁ ∧ Stand p l e R s m args below meth c B.U B.locs B.cells B.slots ∧ PostX ⟨T.setVm vm₁, locs, cells, slots⟩ (Value.ref b :: argsL).toArray q B ∧
      Steps p.tables e below (T.setTop g) ((B.U.setTop { g with stack := rest }).pushFrame (.throwing q))) := by
  obtain ⟨mk, methM, hnamed, hmethM, hstM, habM⟩ := Cond.instanceMethod_spec hinst
  obtain ⟨m8, methM', cM, hn8, hmethM', -, -, -, -, -, -, hsigM⟩ := Cond.codeWith_spec hcode
  cases Option.some.inj (hn8.symm.trans hnamed)
  cases hmethM.symm.trans hmethM'
  obtain ⟨c2, r2, m2, q1, q2, q3, q4, kP, hkP, hkPi⟩ := Cond.selects_spec hsel
  cases hcls.symm.trans q1
  cases (State.methodFound?_of_named hnamed hy).symm.trans q2
  cases hnamed.symm.trans q3
  have hselP : selectMethod e.platform s.vm cellB.cls mk = .method mk := by rw [Launch.admits_selectMethod X.admits]; exact q4
  obtain ⟨vm₁, X₁, hstep₁⟩ := X.invokevirtual hexec hown hlink hnamed hmethM hstM hkP hkPi hy (a := b) (cell := cellB) hcell
    (fun z h => by rw [h] at hobj; cases hobj) hselP hmethM habM hkP hkPi (g := g) hg (argsL := argsL) (rest := rest) (hlen _ hsigM) hstack hdg
  rcases hK m meth c ⟨T.setVm vm₁, locs, cells, slots⟩ { g with stack := rest } (.invokevirtual index) mk (Value.ref b :: argsL).toArray X₁ hg hsize hdg hW (X₁.named hnamed) (hpre vm₁ X₁.warmed) with ⟨v, B, X', hpost, hsteps⟩ | ⟨q, B, X', hpost, hsteps⟩
  · exact Or.inl ⟨v, vm₁, B, X₁.warmed, X', hpost, fun target h => hstep₁ _ fun acts => by rw [doInvoke_state]; exact hsteps.trans h⟩
  · exact Or.inr ⟨q, vm₁, B, X₁.warmed, X', hpost, hstep₁ _ fun acts => by rw [doInvoke_state]; exact hsteps⟩
theorem vx_callSX (X : Stand p l e R s m args below meth c T locs cells slots) (hexec : p.tables.exec = Jvm.exec) {own : String} {index : Nat} {y : MethodName} {bytes : ByteArray} {maxL : Nat} {ret : Option FieldType} {hh : List (Nat × Nat × Nat × Nat)}
    (hown : s.vm.findClass own = some m.cls) (hlink : (Cond.methodLink own index y).before args s = true) (hstat : (Cond.static y).before args s = true) (hinit : (Cond.initialized y.cls).before args s = true)
    (hcode : (Cond.codeWith y bytes maxL ret hh).before args s = true) (hy : y.cls ≠ "java/lang/invoke/MethodHandle" ∧ y.cls ≠ "java/lang/invoke/VarHandle")
    {W9 : Nat} {Pre : Pt → Array Value → Prop} {Post : Pt → Array Value → Option Value → Pt → Prop} {PostX : Pt → Array Value → Addr → Pt → Prop} (hK : vx_Back l R p e below s args y 3 W9 Pre Post PostX)
    {g : JFrame} (hg : g.method = m) (hsize : g.locals.size = c.maxLocals) {argsL rest : List Value} (hlen : ∀ sig, parseMethodDescriptor y.desc = some sig → argsL.length = sig.parameters.length)
    (hstack : g.stack = argsL.reverse ++ rest) (hW : 2 * g.monitorRoom + (rest.map fun v => v.category).sum ≤ W9) (hdg : decode c.code g.pc = .ok (.invokestatic index, 3))
    (hpre : ∀ vm₁, s.WarmedH vm₁ → Pre ⟨T.setVm vm₁, locs, cells, slots⟩ argsL.toArray) :
    (∃ (v : Option Value) (vm₁ : Vm) (B : Pt), s.WarmedH vm₁ ∧ Stand p l e R s m args below meth c B.U B.locs B.cells B.slots ∧ Post ⟨T.setVm vm₁, locs, cells, slots⟩ argsL.toArray v B ∧
      ∀ target, Steps p.tables e below (B.U.setTop { g with pc := g.pc + 3, stack := v.toList ++ rest }) target → Steps p.tables e below (T.setTop g) target) ∨
    (∃ (q : Addr) (vm₁ : Vm) (B : Pt), s.WarmedH vm₁ ∧ Stand p l e R s m args below meth c B.U B.locs B.cells B.slots ∧ PostX ⟨T.setVm vm₁, locs, cells, slots⟩ argsL.toArray q B ∧
      Steps p.tables e below (T.setTop g) ((B.U.setTop { g with stack := rest }).pushFrame (.throwing q))) := by
  obtain ⟨mk, methM, cM, hnamed, hmethM, -, -, -, -, -, -, hsigM⟩ := Cond.codeWith_spec hcode
  have hstatic : methM.isStatic = true := Cond.static_spec hnamed hmethM hstat
  obtain ⟨kP, hkP, -⟩ := className_of_methodNamed hnamed
  have hinitP : kP.init = .initialized := Cond.initialized_spec (findClass_of_methodNamed hnamed) hkP hinit
  obtain ⟨vm₁, X₁, hstep₁⟩ := X.invokestatic hexec hown hlink hnamed hmethM hstatic hkP hinitP hy (g := g) hg (argsL := argsL) (rest := rest) (hlen _ hsigM) hstack hdg
  rcases hK m meth c ⟨T.setVm vm₁, locs, cells, slots⟩ { g with stack := rest } (.invokestatic index) mk argsL.toArray X₁ hg hsize hdg hW (X₁.named hnamed) (hpre vm₁ X₁.warmed) with ⟨v, B, X', hpost, hsteps⟩ | ⟨q, B, X', hpost, hsteps⟩
  · exact Or.inl ⟨v, vm₁, B, X₁.warmed, X', hpost, fun target h => hstep₁ _ fun acts => by rw [doInvoke_state]; exact hsteps.trans h⟩
  · exact Or.inr ⟨q, vm₁, B, X₁.warmed, X', hpost, hstep₁ _ fun acts => by rw [doInvoke_state]; exact hsteps⟩
theorem vx_callVW (X : Stand p l e R s m args below meth c T locs cells slots) (hexec : p.tables.exec = Jvm.exec) {own C : String} {index : Nat} {y : MethodName} {bytes : ByteArray} {maxL : Nat} {ret : Option FieldType} {hh : List (Nat × Nat × Nat × Nat)}
    (hown : s.vm.findClass own = some m.cls) (hlink : (Cond.methodLink own index y).before args s = true) (hinst : (Cond.instanceMethod y).before args s = true) (hsel : (Cond.selects C y y).before args s = true)
    (hcode : (Cond.codeWith y bytes maxL ret hh).before args s = true) (hy : y.cls ≠ "java/lang/invoke/MethodHandle" ∧ y.cls ≠ "java/lang/invoke/VarHandle")
    {W9 : Nat} {Pre : Pt → Array Value → Prop} {Post : Pt → Array Value → Option Value → Pt → Prop} (hK : Back l R p e below s args y 3 W9 Pre Post)
    {b : Addr} {cellB : Cell} (hcell : T.heap[b]? = some cellB) (hobj : cellB.vm.isStatics = false) (hcls : s.vm.findClass C = some cellB.cls)
    {g : JFrame} (hg : g.method = m) (hsize : g.locals.size = c.maxLocals) {argsL rest : List Value} (hlen : ∀ sig, parseMethodDescriptor y.desc = some sig → argsL.length = sig.parameters.length)
    (hstack : g.stack = argsL.reverse ++ .ref b :: rest) (hW : 2 * g.monitorRoom + (rest.map fun v => v.category).sum ≤ W9) (hdg : decode c.code g.pc = .ok (.invokevirtual index, 3))
    (hpre : ∀ vm₁, s.WarmedH vm₁ → Pre ⟨T.setVm vm₁, locs, cells, slots⟩ (Value.ref b :: argsL).toArray) :
    ∃ (v : Option Value) (vm₁ : Vm) (B : Pt), s.WarmedH vm₁ ∧ Stand p l e R s m args below meth c B.U B.locs B.cells B.slots ∧ Post ⟨T.setVm vm₁, locs, cells, slots⟩ (Value.ref b :: argsL).toArray v B ∧
      ∀ target, Steps p.tables e below (B.U.setTop { g with pc := g.pc + 3, stack := v.toList ++ rest }) target → Steps p.tables e below (T.setTop g) target := by
  obtain ⟨mk, methM, hnamed, hmethM, hstM, habM⟩ := Cond.instanceMethod_spec hinst
  obtain ⟨m8, methM', cM, hn8, hmethM', -, -, -, -, -, -, hsigM⟩ := Cond.codeWith_spec hcode
  cases Option.some.inj (hn8.symm.trans hnamed)
  cases hmethM.symm.trans hmethM'
  obtain ⟨c2, r2, m2, q1, q2, q3, q4, kP, hkP, hkPi⟩ := Cond.selects_spec hsel
  cases hcls.symm.trans q1
  cases (State.methodFound?_of_named hnamed hy).symm.trans q2
  cases hnamed.symm.trans q3
  have hselP : selectMethod e.platform s.vm cellB.cls mk = .method mk := by rw [Launch.admits_selectMethod X.admits]; exact q4
  obtain ⟨vm₁, X₁, hstep₁⟩ := X.invokevirtual hexec hown hlink hnamed hmethM hstM hkP hkPi hy (a := b) (cell := cellB) hcell
    (fun z h => by rw [h] at hobj; cases hobj) hselP hmethM habM hkP hkPi (g := g) hg (argsL := argsL) (rest := rest) (hlen _ hsigM) hstack hdg
  obtain ⟨v, B, X', hpost, hsteps⟩ := hK m meth c ⟨T.setVm vm₁, locs, cells, slots⟩ { g with stack := rest } (.invokevirtual index) mk (Value.ref b :: argsL).toArray X₁ hg hsize hdg hW (X₁.named hnamed) (hpre vm₁ X₁.warmed)
  exact ⟨v, vm₁, B, X₁.warmed, X', hpost, fun target h => hstep₁ _ fun acts => by rw [doInvoke_state]; exact hsteps.trans h⟩
abbrev vx_CVW (R : Room) (s : State) (args : Array Value) (own C : String) (index : Nat) (y : MethodName) (bytes : ByteArray) (maxL : Nat) (ret : Option FieldType) (hh : List (Nat × Nat × Nat × Nat)) (ws : List Cond) (rm : Room) (mc ms n : Nat) : Prop :=
  (rm.cells = mc ∧ rm.slots = ms ∧ rm.frames + 1 ≤ R.frames ∧ 8 + (maxL + 11) + rm.locals ≤ R.locals ∧ (∀ w ∈ ws, ∀ (a' : Array Value) (U : State), s.WarmedH U.vm → w.before a' U = true) ∧ Cond.codeWith y bytes maxL ret hh ∈ ws) ∧
  (Cond.codeWith y bytes maxL ret hh).before args s = true ∧ (Cond.initialized y.cls).before args s = true ∧ (y.cls ≠ "java/lang/invoke/MethodHandle" ∧ y.cls ≠ "java/lang/invoke/VarHandle") ∧
  (∀ sig, parseMethodDescriptor y.desc = some sig → n = sig.parameters.length) ∧ (Cond.methodLink own index y).before args s = true ∧ (Cond.instanceMethod y).before args s = true ∧ (Cond.selects C y y).before args s = true
theorem vx_cwVW {own C : String} {index maxL mc ms : Nat} {y : MethodName} {bytes : ByteArray} {ret : Option FieldType} {hh : List (Nat × Nat × Nat × Nat)} {Ts ws ws' : List Cond} {rm : Room} (n : Nat) (ht : ∀ w ∈ Ts, w.before args s = true) (hT : GoodIn Ts (wsV own index C y ws)) (hw : ws = Cond.codeWith y bytes maxL ret hh :: ws') (hrc : rm.cells = mc) (hrs : rm.slots = ms)
    (hd : y.cls = C ∧ y.cls ≠ "java/lang/invoke/MethodHandle" ∧ y.cls ≠ "java/lang/invoke/VarHandle" ∧ (parseMethodDescriptor y.desc).map (fun d => d.parameters.length) = some n) (hR : rm.frames + 1 ≤ R.frames ∧ 8 + (maxL + 11) + rm.locals ≤ R.locals) :
    vx_CVW R s args own C index y bytes maxL ret hh ws rm mc ms n := by
  obtain ⟨hC, hd⟩ := hd
  subst hC
  have ok : ∀ w ∈ wsV own index y.cls y ws, w.before args s = true := fun w h => ht w (hT w h).1
  have hG : GoodIn Ts ws := fun w h => hT w (by unfold wsV; exact List.mem_append_right _ h)
  have hc : Cond.codeWith y bytes maxL ret hh ∈ ws := by rw [hw]; exact List.mem_cons_self
  refine ⟨⟨hrc, hrs, hR.1, hR.2, pay_in ht hG, hc⟩, ht _ (hG _ hc).1, ok _ (by simp [wsV]), ⟨hd.1, hd.2.1⟩, fun sig h => ?_, ok _ (by simp [wsV]), ok _ (by simp [wsV]), ok _ (by simp [wsV])⟩
  have h2 := hd.2.2
  rw [h] at h2
  exact (Option.some.inj h2).symm
theorem vx_runVW {y : MethodName} {bytes cc : ByteArray} {maxL nL mc ms n index : Nat} {ret : Option FieldType} {hh : List (Nat × Nat × Nat × Nat)} {ws : List Cond} {rm : Room} {Pc : Array Value → State → Prop} {Qc : Array Value → State → Outcome → State → Prop} {free : Addr → Prop} {Ts : List Cond} {own C : String} {b : Addr} {As rest : List Value} {g : JFrame}
    (S : CallFix p m c cc nL s args Ts own) (hM : Met l y ws rm Pc Qc mc ms free) (cw : vx_CVW R s args own C index y bytes maxL ret hh ws rm mc ms n) (hp : PreV s H C b Pc As)
    (hg : g.method = m) (hn : As.length = n) (hsize : g.locals.size = nL) (hstack : g.stack = As.reverse ++ .ref b :: rest) (hW : 2 * g.monitorRoom + (rest.map fun v => v.category).sum ≤ 8) (hdg : decode cc g.pc = .ok (.invokevirtual index, 3)) (hf : cells + mc ≤ R.cells ∧ slots + ms ≤ R.slots) :
    va_Run p l e R s m args below meth c H locs cells slots mc ms g rest (Qc (Value.ref b :: As).toArray) free := by
  obtain ⟨⟨hrc, hrs, hfr, hlo, hws, hcw⟩, hcode, hini, hy, hlen, hl, hin, hse⟩ := cw
  have hK : Back l R p e below s args y 3 8 (PreOf R mc ms Pc) (PostOf Qc mc ms free) := va_backW (hh := hh) (bytes := bytes) (maxL := maxL) (ret := ret) hM hp.1 hrc hrs hfr hlo hws hcw (fun a' U hW => word_at hW (Or.inl (by first | rfl | simp [Cond.onTables, Cond.keeps, Cond.steady])) hini)
  obtain ⟨hx, hb, hml, ho, -⟩ := S
  obtain ⟨-, ⟨cellB, hcB, hoB, hclB⟩, hPc⟩ := hp
  intro T hT X
  obtain ⟨v, vm₁, ⟨U', l2, c2, s2⟩, hW₁, X', ⟨g', mk, t, L, e1, e2, hq, h1, hL, h2, h3⟩, st⟩ := vx_callVW X hx (C := C) (hh := hh) (bytes := bytes) (maxL := maxL) (ret := ret) ho hl hin hse hcode hy hK (by rw [hT]; exact hcB) hoB hclB hg (hsize.trans hml.symm) (argsL := As) (rest := rest) (fun sig h => hn.trans (hlen sig h)) hstack hW (by rw [hb]; exact hdg)
    (fun vm₁ hW₁ => ⟨hf.1, hf.2, hPc (T.setVm vm₁) hT hW₁⟩)
  dsimp only [Pt.U, Pt.locs, Pt.cells, Pt.slots] at X' e1 e2 h1 h2 h3 st
  subst h1; subst h2; subst h3
  exact ⟨v, (T.setVm vm₁).calling g' mk (Value.ref b :: As).toArray, t, U', L, hT, X', hL, e1, e2, hq, st⟩
section
variable {y : MethodName} {bytes cc : ByteArray} {maxL nL mc ms n index : Nat} {ret : Option FieldType} {ws : List Cond} {rm : Room} {Pc : Array Value → State → Prop} {Qc : Array Value → State → Outcome → State → Prop} {XC : String → State → State → Prop} {free : Addr → Prop} {Ts : List Cond} {own C : String} {b : Addr} {As rest : List Value} {g : JFrame}
theorem vx_runVX {hh : List (Nat × Nat × Nat × Nat)} (S : CallFix p m c cc nL s args Ts own) (hM : vx_Met l y ws rm Pc Qc XC mc ms free) (cw : vx_CVW R s args own C index y bytes maxL ret hh ws rm mc ms n) (hp : PreV s H C b Pc As)
    (hg : g.method = m) (hn : As.length = n) (hsize : g.locals.size = nL) (hstack : g.stack = As.reverse ++ .ref b :: rest) (hW : 2 * g.monitorRoom + (rest.map fun v => v.category).sum ≤ 8) (hdg : decode cc g.pc = .ok (.invokevirtual index, 3)) (hf : cells + mc ≤ R.cells ∧ slots + ms ≤ R.slots) :
    vx_Run p l e R s m args below meth c H locs cells slots mc ms g rest (Qc (Value.ref b :: As).toArray) XC free := by
  obtain ⟨⟨hrc, hrs, hfr, hlo, hws, hcw⟩, hcode, hini, hy, hlen, hl, hin, hse⟩ := cw
  have hK : vx_Back l R p e below s args y 3 8 (PreOf R mc ms Pc) (PostOf Qc mc ms free) (vx_Post XC mc ms free) := vx_backW (hh := hh) (bytes := bytes) (maxL := maxL) (ret := ret) hM hp.1 hrc hrs hfr hlo hws hcw (fun a' U hW => word_at hW (Or.inl (by first | rfl | simp [Cond.onTables, Cond.keeps, Cond.steady])) hini)
  obtain ⟨hx, hb, hml, ho, -⟩ := S
  obtain ⟨-, ⟨cellB, hcB, hoB, hclB⟩, hPc⟩ := hp
  intro T hT X
  rcases vx_callVX X hx (C := C) (hh := hh) (bytes := bytes) (maxL := maxL) (ret := ret) ho hl hin hse hcode hy hK (by rw [hT]; exact hcB) hoB hclB hg (hsize.trans hml.symm) (argsL := As) (rest := rest) (fun sig h => hn.trans (hlen sig h)) hstack hW (by rw [hb]; exact hdg)
    (fun vm₁ hW₁ => ⟨hf.1, hf.2, hPc (T.setVm vm₁) hT hW₁⟩) with ⟨v, vm₁, ⟨U', l2, c2, s2⟩, hW₁, X', ⟨g', mk, t, L, e1, e2, hq, h1, hL, h2, h3⟩, st⟩ | ⟨q, vm₁, ⟨U', l2, c2, s2⟩, hW₁, X', ⟨g', mk, t, L, E, ce, e1, e2, hq, hce, hcv, hcl, h1, hL, h2, h3⟩, st⟩
  · dsimp only [Pt.U, Pt.locs, Pt.cells, Pt.slots] at X' e1 e2 h1 h2 h3 st
    subst h1; subst h2; subst h3
    exact Or.inl ⟨v, (T.setVm vm₁).calling g' mk (Value.ref b :: As).toArray, t, U', L, hT, X', hL, e1, e2, hq, st⟩
  · dsimp only [Pt.U, Pt.locs, Pt.cells, Pt.slots] at X' e1 e2 h1 h2 h3 st hcl
    subst h1; subst h2; subst h3
    exact Or.inr ⟨q, (T.setVm vm₁).calling g' mk (Value.ref b :: As).toArray, t, U', L, E, ce, hT, X', hL, e1, e2, hq, hce, hcv, vx_cls hW₁ hcl, st⟩
theorem vx_runSX {hh : List (Nat × Nat × Nat × Nat)} (S : CallFix p m c cc nL s args Ts own) (hM : vx_Met l y ws rm Pc Qc XC mc ms free) (cw : vx_CSW R s args own index y bytes maxL ret hh ws rm mc ms n) (hp : PreS s H Pc As)
    (hg : g.method = m) (hn : As.length = n) (hsize : g.locals.size = nL) (hstack : g.stack = As.reverse ++ rest) (hW : 2 * g.monitorRoom + (rest.map fun v => v.category).sum ≤ 8) (hdg : decode cc g.pc = .ok (.invokestatic index, 3)) (hf : cells + mc ≤ R.cells ∧ slots + ms ≤ R.slots) :
    vx_Run p l e R s m args below meth c H locs cells slots mc ms g rest (Qc As.toArray) XC free := by
  obtain ⟨⟨hrc, hrs, hfr, hlo, hws, hcw⟩, hcode, hini, hy, hlen, hl, hstt⟩ := cw
  have hK : vx_Back l R p e below s args y 3 8 (PreOf R mc ms Pc) (PostOf Qc mc ms free) (vx_Post XC mc ms free) := vx_backW (hh := hh) (bytes := bytes) (maxL := maxL) (ret := ret) hM hp.1 hrc hrs hfr hlo hws hcw (fun a' U hW => word_at hW (Or.inl (by first | rfl | simp [Cond.onTables, Cond.keeps, Cond.steady])) hini)
  obtain ⟨hx, hb, hml, ho, -⟩ := S
  intro T hT X
  rcases vx_callSX X hx (hh := hh) (bytes := bytes) (maxL := maxL) (ret := ret) ho hl hstt hini hcode hy hK hg (hsize.trans hml.symm) (argsL := As) (rest := rest) (fun sig h => hn.trans (hlen sig h)) hstack hW (by rw [hb]; exact hdg)
    (fun vm₁ hW₁ => ⟨hf.1, hf.2, hp.2 (T.setVm vm₁) hT hW₁⟩) with ⟨v, vm₁, ⟨U', l2, c2, s2⟩, hW₁, X', ⟨g', mk, t, L, e1, e2, hq, h1, hL, h2, h3⟩, st⟩ | ⟨q, vm₁, ⟨U', l2, c2, s2⟩, hW₁, X', ⟨g', mk, t, L, E, ce, e1, e2, hq, hce, hcv, hcl, h1, hL, h2, h3⟩, st⟩
  · dsimp only [Pt.U, Pt.locs, Pt.cells, Pt.slots] at X' e1 e2 h1 h2 h3 st
    subst h1; subst h2; subst h3
    exact Or.inl ⟨v, (T.setVm vm₁).calling g' mk As.toArray, t, U', L, hT, X', hL, e1, e2, hq, st⟩
  · dsimp only [Pt.U, Pt.locs, Pt.cells, Pt.slots] at X' e1 e2 h1 h2 h3 st hcl
    subst h1; subst h2; subst h3
    exact Or.inr ⟨q, (T.setVm vm₁).calling g' mk As.toArray, t, U', L, E, ce, hT, X', hL, e1, e2, hq, hce, hcv, vx_cls hW₁ hcl, st⟩
end
end VXH
theorem vx_ofWH {l : Launch} {y : MethodName} {ws ws' : List Cond} {rm : Room} {Pc : Array Value → State → Prop} {Qc : Array Value → State → Outcome → State → Prop} {XC : String → State → State → Prop} {mc ms : Nat} {free : Addr → Prop} {cc : ByteArray} {maxL : Nat} {ret : Option FieldType} {hh : List (Nat × Nat × Nat × Nat)}
    (hy : plainName y.cls = true) (hw : ws = Cond.codeWith y cc maxL ret hh :: ws')
    (body : ∀ p e s m args below meth c s₁, BodyLoose p l y (headSpec ws rm) cc maxL ret e s m args below meth c s₁ → c.maxLocals = maxL → Pc args s →
      W p l e (headSpec ws rm).room s m args below meth c s.heap [] 0 0 (vx_MQ below Qc XC args s mc ms free) (entryFrame m args maxL)) : vx_Met l y ws rm Pc Qc XC mc ms free := by
  refine MetFree.of_bodyS (code := cc) (maxLocals := maxL) (ret := ret) hy ?_ ?_
  · intro args s m h hn
    obtain ⟨m9, meth, c, hn9, h1, h2, h3, h4, -, h5, h6, -⟩ := Cond.codeWith_spec (atoms_spec (ws := ws) h _ (by rw [hw]; exact List.mem_cons_self))
    cases hn.symm.trans hn9
    exact ⟨meth, c, h1, h2, h3, h4, h5, h6⟩
  · intro p e s m args below meth c s₁ B hml hP _
    have hh0 : s₁.heap = s.heap := by rw [B.state]; rfl
    obtain ⟨t, a1, o, b1, b2, b3⟩ := body p e s m args below meth c s₁ B hml hP s₁ hh0 (Stand.of_body B)
    exact ⟨t, o, a1, b1, b2, b3⟩
end
section
/-! THE DESK'S WORLD: next address, kinds, lengths, int fields, reference fields, int arrays, arrays of references; all by address -/
abbrev DS : Type := Nat × (Nat → Nat) × (Nat → Nat) × (Nat → Nat → Int32) × (Nat → Nat → Option Nat) × (Nat → Nat → Int32) × (Nat → Nat → Option Nat)
abbrev dn (S : DS) : Nat := S.1
abbrev dK (S : DS) : Nat → Nat := S.2.1
abbrev dL (S : DS) : Nat → Nat := S.2.2.1
abbrev dI (S : DS) : Nat → Nat → Int32 := S.2.2.2.1
abbrev dP (S : DS) : Nat → Nat → Option Nat := S.2.2.2.2.1
abbrev dX (S : DS) : Nat → Nat → Int32 := S.2.2.2.2.2.1
abbrev dY (S : DS) : Nat → Nat → Option Nat := S.2.2.2.2.2.2
def fset {α : Type} (I : Nat → Nat → α) (f a : Nat) (x : α) : Nat → Nat → α := fun g b => if g = f then (if b = a then x else I g b) else I g b
theorem fset_ne {α : Type} {I : Nat → Nat → α} {f a b : Nat} {x : α} (h : b ≠ a) (g : Nat) : fset I f a x g b = I g b := by
  unfold fset
  split <;> simp [h]
def sI (S : DS) (f a : Nat) (x : Int32) : DS := (S.1, S.2.1, S.2.2.1, fset (dI S) f a x, S.2.2.2.2)
def sP (S : DS) (f a : Nat) (x : Option Nat) : DS := (S.1, S.2.1, S.2.2.1, S.2.2.2.1, fset (dP S) f a x, S.2.2.2.2.2)
/-- an int array's row -/
def sX (S : DS) (a : Nat) (f : Nat → Int32) : DS := (S.1, S.2.1, S.2.2.1, S.2.2.2.1, S.2.2.2.2.1, va_up (dX S) a f, S.2.2.2.2.2.2)
def sY (S : DS) (a : Nat) (f : Nat → Option Nat) : DS := (S.1, S.2.1, S.2.2.1, S.2.2.2.1, S.2.2.2.2.1, S.2.2.2.2.2.1, va_up (dY S) a f)
/-- a new object of a kind -/
def sO (S : DS) (k : Nat) : DS := (S.1 + 1, va_up S.2.1 S.1 k, S.2.2.1, (fun f => va_up (dI S f) S.1 0), (fun f => va_up (dP S f) S.1 none), S.2.2.2.2.2)
def sAI (S : DS) (N : Nat) (f : Nat → Int32) : DS := (S.1 + 1, va_up S.2.1 S.1 20, va_up S.2.2.1 S.1 N, S.2.2.2.1, S.2.2.2.2.1, va_up (dX S) S.1 f, S.2.2.2.2.2.2)
def sAO (S : DS) (N : Nat) (f : Nat → Option Nat) : DS := (S.1 + 1, va_up S.2.1 S.1 21, va_up S.2.2.1 S.1 N, S.2.2.2.1, S.2.2.2.2.1, S.2.2.2.2.2.1, va_up (dY S) S.1 f)
/-- the classes of int[] and Object[], the address of ArrayList's empty array -/
abbrev DG : Type := ClassId × ClassId × Nat
def dfl_0 (I : Nat → Int32) (P : Nat → Option Nat) : List Value := [.int (I 0), va_rf (P 1), .int (I 2)]
def dfl_1 (I : Nat → Int32) (P : Nat → Option Nat) : List Value := [va_rf (P 100), va_rf (P 101), .int (I 102), va_rf (P 103), .int (I 104)]
def dfl_2 (I : Nat → Int32) (P : Nat → Option Nat) : List Value := [.int (I 200), va_rf (P 201), va_rf (P 202), .int (I 203)]
def dfl_3 (I : Nat → Int32) (P : Nat → Option Nat) : List Value := [va_rf (P 300), .int (I 301), .int (I 302)]
def dfl_4 (I : Nat → Int32) (P : Nat → Option Nat) : List Value := [va_rf (P 400), va_rf (P 401), va_rf (P 402), va_rf (P 403), va_rf (P 404), .int (I 405), .int (I 406), va_rf (P 407)]
def dfl_5 (I : Nat → Int32) (P : Nat → Option Nat) : List Value := [va_rf (P 500), .int (I 501)]
def dfl_6 (I : Nat → Int32) (P : Nat → Option Nat) : List Value := [.int (I 1000), .int (I 1001), va_rf (P 1002), .int (I 603), .int (I 604), .int (I 605), va_rf (P 606), va_rf (P 607), va_rf (P 608)]
def dfl_7 (I : Nat → Int32) (P : Nat → Option Nat) : List Value := [va_rf (P 700), .int (I 701)]
def dfl_8 (I : Nat → Int32) (P : Nat → Option Nat) : List Value := [.int (I 800), .int (I 801), .int (I 802), va_rf (P 803)]
def dfl_9 (I : Nat → Int32) (P : Nat → Option Nat) : List Value := [.int (I 1000), .int (I 1001), va_rf (P 1002), .int (I 903), .int (I 904), .int (I 905), .int (I 906), .int (I 907), va_rf (P 908)]
def dfl_10 (I : Nat → Int32) (P : Nat → Option Nat) : List Value := [.int (I 1000), .int (I 1001), va_rf (P 1002)]
def dfl_11 (I : Nat → Int32) (P : Nat → Option Nat) : List Value := [va_rf (P 1100), va_rf (P 1101), va_rf (P 1102), .int (I 1103), va_rf (P 1104), .int (I 1105), va_rf (P 1106), va_rf (P 1107), .int (I 1108), .int (I 1109)]
def dcell (G : DG) (k L : Nat) (I : Nat → Int32) (P : Nat → Option Nat) (X : Nat → Int32) (Y : Nat → Option Nat) : va_E := if k = 1 then .inr (0, dfl_0 I P) else if k = 2 then .inr (1, dfl_1 I P) else if k = 3 then .inr (2, dfl_2 I P) else if k = 4 then .inr (3, dfl_3 I P) else if k = 5 then .inr (4, dfl_4 I P) else if k = 6 then .inr (5, dfl_5 I P) else if k = 7 then .inr (6, dfl_6 I P) else if k = 8 then .inr (7, dfl_7 I P) else if k = 9 then .inr (8, dfl_8 I P) else if k = 10 then .inr (9, dfl_9 I P) else if k = 11 then .inr (10, dfl_10 I P) else if k = 12 then .inr (11, dfl_11 I P) else if k = 20 then .inl (G.1, L, .inl X) else .inl (G.2.1, L, .inr (.inr (.inr (.inr Y))))
def dF (G : DG) (S : DS) (a : Nat) : va_E := dcell G (dK S a) (dL S a) (fun f => dI S f a) (fun f => dP S f a) (dX S a) (dY S a)
theorem dF_0 {G : DG} {S : DS} {a : Nat} (h : dK S a = 1) : dF G S a = .inr (0, dfl_0 (fun f => dI S f a) (fun f => dP S f a)) := by unfold dF; rw [h]; rfl
theorem dF_1 {G : DG} {S : DS} {a : Nat} (h : dK S a = 2) : dF G S a = .inr (1, dfl_1 (fun f => dI S f a) (fun f => dP S f a)) := by unfold dF; rw [h]; rfl
theorem dF_2 {G : DG} {S : DS} {a : Nat} (h : dK S a = 3) : dF G S a = .inr (2, dfl_2 (fun f => dI S f a) (fun f => dP S f a)) := by unfold dF; rw [h]; rfl
theorem dF_3 {G : DG} {S : DS} {a : Nat} (h : dK S a = 4) : dF G S a = .inr (3, dfl_3 (fun f => dI S f a) (fun f => dP S f a)) := by unfold dF; rw [h]; rfl
theorem dF_4 {G : DG} {S : DS} {a : Nat} (h : dK S a = 5) : dF G S a = .inr (4, dfl_4 (fun f => dI S f a) (fun f => dP S f a)) := by unfold dF; rw [h]; rfl
theorem dF_5 {G : DG} {S : DS} {a : Nat} (h : dK S a = 6) : dF G S a = .inr (5, dfl_5 (fun f => dI S f a) (fun f => dP S f a)) := by unfold dF; rw [h]; rfl
theorem dF_6 {G : DG} {S : DS} {a : Nat} (h : dK S a = 7) : dF G S a = .inr (6, dfl_6 (fun f => dI S f a) (fun f => dP S f a)) := by unfold dF; rw [h]; rfl
theorem dF_7 {G : DG} {S : DS} {a : Nat} (h : dK S a = 8) : dF G S a = .inr (7, dfl_7 (fun f => dI S f a) (fun f => dP S f a)) := by unfold dF; rw [h]; rfl
theorem dF_8 {G : DG} {S : DS} {a : Nat} (h : dK S a = 9) : dF G S a = .inr (8, dfl_8 (fun f => dI S f a) (fun f => dP S f a)) := by unfold dF; rw [h]; rfl
theorem dF_9 {G : DG} {S : DS} {a : Nat} (h : dK S a = 10) : dF G S a = .inr (9, dfl_9 (fun f => dI S f a) (fun f => dP S f a)) := by unfold dF; rw [h]; rfl
theorem dF_10 {G : DG} {S : DS} {a : Nat} (h : dK S a = 11) : dF G S a = .inr (10, dfl_10 (fun f => dI S f a) (fun f => dP S f a)) := by unfold dF; rw [h]; rfl
theorem dF_11 {G : DG} {S : DS} {a : Nat} (h : dK S a = 12) : dF G S a = .inr (11, dfl_11 (fun f => dI S f a) (fun f => dP S f a)) := by unfold dF; rw [h]; rfl
theorem dF_20 {G : DG} {S : DS} {a : Nat} (h : dK S a = 20) : dF G S a = .inl (G.1, dL S a, .inl (dX S a)) := by unfold dF; rw [h]; rfl
theorem dF_21 {G : DG} {S : DS} {a : Nat} (h : dK S a = 21) : dF G S a = .inl (G.2.1, dL S a, .inr (.inr (.inr (.inr (dY S a))))) := by unfold dF; rw [h]; rfl
theorem dF_sI {G : DG} {S : DS} {f a b : Nat} {x : Int32} (h : b ≠ a) : dF G (sI S f a x) b = dF G S b := by
  unfold dF
  have e : (fun g => dI (sI S f a x) g b) = (fun g => dI S g b) := funext fun g => fset_ne h g
  rw [e]; rfl
theorem dF_sP {G : DG} {S : DS} {f a b : Nat} {x : Option Nat} (h : b ≠ a) : dF G (sP S f a x) b = dF G S b := by
  unfold dF
  have e : (fun g => dP (sP S f a x) g b) = (fun g => dP S g b) := funext fun g => fset_ne h g
  rw [e]; rfl
theorem dF_sX {G : DG} {S : DS} {a b : Nat} {r : Nat → Int32} (h : b ≠ a) : dF G (sX S a r) b = dF G S b := by
  unfold dF
  have e : dX (sX S a r) b = dX S b := va_up_ne _ _ h
  rw [e]; rfl
theorem dF_sY {G : DG} {S : DS} {a b : Nat} {r : Nat → Option Nat} (h : b ≠ a) : dF G (sY S a r) b = dF G S b := by
  unfold dF
  have e : dY (sY S a r) b = dY S b := va_up_ne _ _ h
  rw [e]; rfl
theorem dF_sO {G : DG} {S : DS} {k b : Nat} (h : b ≠ dn S) : dF G (sO S k) b = dF G S b := by
  unfold dF
  have e0 : dK (sO S k) b = dK S b := va_up_ne _ _ h
  have e1 : (fun g => dI (sO S k) g b) = (fun g => dI S g b) := funext fun g => va_up_ne _ _ h
  have e2 : (fun g => dP (sO S k) g b) = (fun g => dP S g b) := funext fun g => va_up_ne _ _ h
  rw [e0, e1, e2]; rfl
theorem dF_sAI {G : DG} {S : DS} {N b : Nat} {r : Nat → Int32} (h : b ≠ dn S) : dF G (sAI S N r) b = dF G S b := by
  unfold dF
  have e0 : dK (sAI S N r) b = dK S b := va_up_ne _ _ h
  have e1 : dL (sAI S N r) b = dL S b := va_up_ne _ _ h
  have e2 : dX (sAI S N r) b = dX S b := va_up_ne _ _ h
  rw [e0, e1, e2]; rfl
theorem dF_sAO {G : DG} {S : DS} {N b : Nat} {r : Nat → Option Nat} (h : b ≠ dn S) : dF G (sAO S N r) b = dF G S b := by
  unfold dF
  have e0 : dK (sAO S N r) b = dK S b := va_up_ne _ _ h
  have e1 : dL (sAO S N r) b = dL S b := va_up_ne _ _ h
  have e2 : dY (sAO S N r) b = dY S b := va_up_ne _ _ h
  rw [e0, e1, e2]; rfl
def dH (D : va_G) (A : Nat → Prop) (G : DG) (S : DS) (H : Heap) : Prop := H.size = dn S ∧ (∀ a, dK S a ≠ 0 → va_at D vwCl (a, dF G S a) H) ∧ (∀ a, dK S a ≠ 0 → a ≠ G.2.2 → A a) ∧ dK S G.2.2 = 21 ∧ dL S G.2.2 = 0
def dOK (D : va_G) (A : Nat → Prop) (G : DG) (S : DS) (H0 H : Heap) (locs : List Loc) : Prop := dH D A G S H ∧ va_S A H0 H locs
abbrev dT (G : DG) : List (ClassId × FieldType) := [(G.1, .int), (G.2.1, .object "java/lang/Object")]
/-- one cell is written: the world behind it -/
theorem dH_set {D : va_G} {A : Nat → Prop} {G : DG} {S S1 : DS} {H H1 : Heap} {a : Nat} (h : dH D A G S H) (z : H1.size = H.size) (oq : ∀ q, q ≠ a → H1[q]? = H[q]?) (hat : va_at D vwCl (a, dF G S1 a) H1) (hn : dn S1 = dn S) (hk : dK S1 = dK S) (hl : dL S1 = dL S) (hf : ∀ b, b ≠ a → dF G S1 b = dF G S b) : dH D A G S1 H1 := by
  obtain ⟨h1, h2, h3, h4, h5⟩ := h
  refine ⟨by rw [z, hn]; exact h1, fun b hb => ?_, by rw [hk]; exact h3, by rw [hk]; exact h4, by rw [hl]; exact h5⟩
  by_cases e : b = a
  · subst e; exact hat
  · rw [hf b e]
    exact (h2 b (by rw [hk] at hb; exact hb)).kept (oq b e)
theorem dH_lt {D : va_G} {A : Nat → Prop} {G : DG} {S : DS} {H : Heap} {a : Nat} (h : dH D A G S H) (ha : dK S a ≠ 0) : a < dn S := by
  have := (h.2.1 a ha).lt
  rw [h.1] at this; exact this
/-- one cell is new -/
theorem dH_new {D : va_G} {A : Nat → Prop} {G : DG} {S S1 : DS} {H H1 : Heap} (h : dH D A G S H) (z : H1.size = H.size + 1) (oq : ∀ q, q < H.size → H1[q]? = H[q]?) (hat : va_at D vwCl (H.size, dF G S1 H.size) H1) (hA : A H.size) (hn : dn S1 = dn S + 1) (hk : ∀ b, b ≠ dn S → dK S1 b = dK S b) (hl : ∀ b, b ≠ dn S → dL S1 b = dL S b) (hf : ∀ b, b ≠ dn S → dF G S1 b = dF G S b) : dH D A G S1 H1 := by
  have hlt : G.2.2 < dn S := dH_lt h (by rw [h.2.2.2.1]; decide)
  obtain ⟨h1, h2, h3, h4, h5⟩ := h
  have hne : G.2.2 ≠ dn S := Nat.ne_of_lt hlt
  refine ⟨by rw [z, hn, h1], fun b hb => ?_, fun b hb hb2 => ?_, by rw [hk _ hne]; exact h4, by rw [hl _ hne]; exact h5⟩
  · by_cases e : b = dn S
    · subst e; rw [← h1]; exact hat
    · rw [hf b e]
      have h9 := h2 b (by rw [hk b e] at hb; exact hb)
      exact h9.kept (oq b h9.lt)
  · by_cases e : b = dn S
    · subst e; rw [← h1]; exact hA
    · exact h3 b (by rw [hk b e] at hb; exact hb) hb2
/-- one cell as a world of the kit's -/
theorem va_P1 {D : va_G} {cl : List vw_C} {a : Nat} {x : va_E} {H : Heap} (h : va_at D cl (a, x) H) : va_P D cl [(a, x)] H := by
  intro k q hk
  match k, hk with
  | 0, hk => cases hk; exact h
  | k + 1, hk => simp at hk
section D0
variable {p : Program} {l : Launch} {e : Env} {R : Room} {s : State} {m : MethodId} {args : Array Value} {below : List Frame} {meth : Method} {c : Code} {H : Heap} {locs : List Loc} {cells slots : Nat} {Q : State → Prop}
variable {cc : ByteArray} {pc : Nat} {ls : Array Slot} {rest : List Value} {D : va_G} {cl : List vw_C} {a : Nat} {tys : List (ClassId × FieldType)}
theorem d_put0 (hexec : p.tables.exec = Jvm.exec) (hb : c.code = cc) {own ref C : String} {T : u_T} {N ci index : Nat} {Ts : List Cond} (hts : ∀ w ∈ Ts, w.before args s = true) (hin : ∀ w ∈ u_ws C T N, w ∈ Ts) (ty0 : Nat → FieldType) (hty : ∀ k, k < N → parseFieldDescriptor (T k).2.2.1 = some (ty0 k)) (hnm : ∀ a, a < N → ∀ b, b < N → a ≠ b → (T a).2.1 ≠ (T b).2.1) (hown : s.vm.findClass own = some m.cls) (hK : va_K D cl tys s) {fs : List Value} (hat : va_at D cl (a, .inr (ci, fs)) H) (hc : cl[ci]? = some (C, T, N)) (k : Nat) (hk : k < N) (hlink : (Cond.fieldLink own index ref (T k).2.1 (T k).2.2.1).before args s = true) (hsame : ∀ x, s.fieldFound? (T k).1 (T k).2.1 (T k).2.2.1 = some x → s.fieldFound? ref (T k).2.1 (T k).2.2.1 = some x) (hfin : (T k).2.2.2 = false) {ty : FieldType} {v : Value} (hd : parseFieldDescriptor (T k).2.2.1 = some ty) (hn : narrow ty v = v) (hfit : fits ty v = true) (hl : k < fs.length)
    (hdg : decode cc pc = .ok (.putfield index, 3)) (kk : ∀ (H1 : Heap) (i : Nat), va_at D cl (a, .inr (ci, fs.set k v)) H1 → H1.size = H.size → (∀ q, q ≠ a → H1[q]? = H[q]?) → W p l e R s m args below meth c H1 (locs ++ [⟨a, i⟩]) cells slots Q (F0 m (pc + 3) ls rest)) : W p l e R s m args below meth c H locs cells slots Q (F0 m pc ls (v :: .ref a :: rest)) := by
  have hap := va_apart (own := own) hts hin ty0 hty hnm hK hc
  obtain ⟨r, h1, cell, q1, q2, q3, q4⟩ := hat
  have hr : r = (C, T, N) := Option.some.inj (h1.symm.trans hc)
  subst hr
  obtain ⟨hS, hfc, kC, hkC, hkind⟩ := hK.1 ci _ hc
  obtain ⟨cf, kf, fi, f, hi, hsl⟩ := hS k hk
  have hlay := hts _ (hin _ (u_in_lay hk))
  unfold u_lay at hlay
  rw [if_neg (by rw [hfin]; decide)] at hlay
  have hst := (u_facts hfc hkC (u_lays hts hin hk) hi).1
  have h6 := u_store hfc hkC hkind hlay hi hd hn hfit
  refine W.putK hexec hb (f := f) ⟨hown, hlink, ⟨_, _, _, hsame _ hi⟩, hst⟩ (by rw [q2]; exact h6) q1 q3 (by rw [hsl]; exact k2_hasslot (q4 k hk)) rfl rfl hdg fun H' e1 e2 e3 => ?_
  rw [hsl] at e1 ⊢
  exact kk H' _ ⟨_, hc, t_OB.to (V := updV (vp_V fs) k v) ⟨_, e1, q2, q3, t_set q4 hap hk v⟩ (fun j _ => vp_updV_set hl v j)⟩ e2 e3
theorem d_putF0 (hexec : p.tables.exec = Jvm.exec) (hb : c.code = cc) {own ref C : String} {T : u_T} {N ci index : Nat} {Ts : List Cond} (hts : ∀ w ∈ Ts, w.before args s = true) (hin : ∀ w ∈ u_ws C T N, w ∈ Ts) (ty0 : Nat → FieldType) (hty : ∀ k, k < N → parseFieldDescriptor (T k).2.2.1 = some (ty0 k)) (hnm : ∀ a, a < N → ∀ b, b < N → a ≠ b → (T a).2.1 ≠ (T b).2.1) (hown : s.vm.findClass own = some m.cls) (hK : va_K D cl tys s) {fs : List Value} (hat : va_at D cl (a, .inr (ci, fs)) H) (hc : cl[ci]? = some (C, T, N)) (k : Nat) (hk : k < N) (hlink : (Cond.fieldLink own index ref (T k).2.1 (T k).2.2.1).before args s = true) (hsame : ∀ x, s.fieldFound? (T k).1 (T k).2.1 (T k).2.2.1 = some x → s.fieldFound? ref (T k).2.1 (T k).2.2.1 = some x) (hfin : (T k).2.2.2 = true) (hin2 : meth.name = "<init>") (hdecl : (T k).1 = own) {ty : FieldType} {v : Value} (hd : parseFieldDescriptor (T k).2.2.1 = some ty) (hn : narrow ty v = v) (hfit : fits ty v = true) (hl : k < fs.length)
    (hdg : decode cc pc = .ok (.putfield index, 3)) (kk : ∀ (H1 : Heap) (i : Nat), va_at D cl (a, .inr (ci, fs.set k v)) H1 → H1.size = H.size → (∀ q, q ≠ a → H1[q]? = H[q]?) → W p l e R s m args below meth c H1 (locs ++ [⟨a, i⟩]) cells slots Q (F0 m (pc + 3) ls rest)) : W p l e R s m args below meth c H locs cells slots Q (F0 m pc ls (v :: .ref a :: rest)) := by
  have hap := va_apart (own := own) hts hin ty0 hty hnm hK hc
  obtain ⟨r, h1, cell, q1, q2, q3, q4⟩ := hat
  have hr : r = (C, T, N) := Option.some.inj (h1.symm.trans hc)
  subst hr
  obtain ⟨hS, hfc, kC, hkC, hkind⟩ := hK.1 ci _ hc
  obtain ⟨cf, kf, fi, f, hi, hsl⟩ := hS k hk
  have hlay := hts _ (hin _ (u_in_lay hk))
  unfold u_lay at hlay
  rw [if_pos hfin] at hlay
  have hst := (u_facts hfc hkC (u_lays hts hin hk) hi).1
  have hcf : m.cls = cf := by
    obtain ⟨_, _, c', _, _, _, -, -, hf', -, -, -, hown2, -⟩ := Cond.laysFinal_spec hlay
    have e1 : c' = cf := by have := hi.symm.trans hf'; simp at this; exact this.1.symm
    rw [hdecl] at hown2
    rw [← e1]; exact Option.some.inj (hown.symm.trans hown2)
  have h6 := u_fits hfc hkC hkind (Or.inr hlay) hi hd hn hfit
  refine W.putFinK hexec hb hown hlink (hsame _ hi) hst hcf hin2 (by rw [q2]; exact h6) q1 q3 (by rw [hsl]; exact k2_hasslot (q4 k hk)) rfl rfl hdg fun H' e1 e2 e3 => ?_
  rw [hsl] at e1 ⊢
  exact kk H' _ ⟨_, hc, t_OB.to (V := updV (vp_V fs) k v) ⟨_, e1, q2, q3, t_set q4 hap hk v⟩ (fun j _ => vp_updV_set hl v j)⟩ e2 e3
theorem d_putN0 (hexec : p.tables.exec = Jvm.exec) (hb : c.code = cc) {own ref C host : String} {T : u_T} {N ci index : Nat} {Ts : List Cond} (hts : ∀ w ∈ Ts, w.before args s = true) (hin : ∀ w ∈ u_ws C T N, w ∈ Ts) (ty0 : Nat → FieldType) (hty : ∀ k, k < N → parseFieldDescriptor (T k).2.2.1 = some (ty0 k)) (hnm : ∀ a, a < N → ∀ b, b < N → a ≠ b → (T a).2.1 ≠ (T b).2.1) (hown : s.vm.findClass own = some m.cls) (hK : va_K D cl tys s) {fs : List Value} (hat : va_at D cl (a, .inr (ci, fs)) H) (hc : cl[ci]? = some (C, T, N)) (k : Nat) (hk : k < N) (hlink : (Cond.fieldLinkNest own index ref (T k).2.1 (T k).2.2.1 host).before args s = true) (hsame : ∀ x, s.fieldFound? (T k).1 (T k).2.1 (T k).2.2.1 = some x → s.fieldFound? ref (T k).2.1 (T k).2.2.1 = some x) (hfin : (T k).2.2.2 = false) {ty : FieldType} {v : Value} (hd : parseFieldDescriptor (T k).2.2.1 = some ty) (hn : narrow ty v = v) (hfit : fits ty v = true) (hl : k < fs.length)
    (hdg : decode cc pc = .ok (.putfield index, 3)) (kk : ∀ (H1 : Heap) (i : Nat), va_at D cl (a, .inr (ci, fs.set k v)) H1 → H1.size = H.size → (∀ q, q ≠ a → H1[q]? = H[q]?) → W p l e R s m args below meth c H1 (locs ++ [⟨a, i⟩]) cells slots Q (F0 m (pc + 3) ls rest)) : W p l e R s m args below meth c H locs cells slots Q (F0 m pc ls (v :: .ref a :: rest)) := by
  have hap := va_apart (own := own) hts hin ty0 hty hnm hK hc
  obtain ⟨r, h1, cell, q1, q2, q3, q4⟩ := hat
  have hr : r = (C, T, N) := Option.some.inj (h1.symm.trans hc)
  subst hr
  obtain ⟨hS, hfc, kC, hkC, hkind⟩ := hK.1 ci _ hc
  obtain ⟨cf, kf, fi, f, hi, hsl⟩ := hS k hk
  have hlay := hts _ (hin _ (u_in_lay hk))
  unfold u_lay at hlay
  rw [if_neg (by rw [hfin]; decide)] at hlay
  have hst := (u_facts hfc hkC (u_lays hts hin hk) hi).1
  have h6 := u_store hfc hkC hkind hlay hi hd hn hfit
  refine va_WputK hexec hb (f := f) hown hlink (hsame _ hi) hst (by rw [q2]; exact h6) q1 q3 (by rw [hsl]; exact k2_hasslot (q4 k hk)) rfl rfl hdg fun H' e1 e2 e3 => ?_
  rw [hsl] at e1 ⊢
  exact kk H' _ ⟨_, hc, t_OB.to (V := updV (vp_V fs) k v) ⟨_, e1, q2, q3, t_set q4 hap hk v⟩ (fun j _ => vp_updV_set hl v j)⟩ e2 e3
theorem d_new0 (hexec : p.tables.exec = Jvm.exec) (hb : c.code = cc) {own C : String} {T : u_T} {N ci index : Nat} {Ts : List Cond} (hts : ∀ w ∈ Ts, w.before args s = true) (hin : ∀ w ∈ u_ws C T N, w ∈ Ts) (ty : Nat → FieldType) (hty : ∀ k, k < N → parseFieldDescriptor (T k).2.2.1 = some (ty k)) (hown : s.vm.findClass own = some m.cls) (hcl : (Cond.classLink own index C).before args s = true) (hinst : (Cond.instantiable C N).before args s = true) (hini : (Cond.initialized C).before args s = true)
    (hK : va_K D cl tys s) (hc : cl[ci]? = some (C, T, N)) {fs : List Value} (hfs : ∀ j, j < N → defaultValue (ty j) = vp_V fs j) (hcells : cells + 1 ≤ R.cells) (hslots : slots + N ≤ R.slots) (hdg : decode cc pc = .ok (.new index, 3))
    (kk : ∀ H1 : Heap, va_at D cl (H.size, .inr (ci, fs)) H1 → H1.size = H.size + 1 → (∀ q, q < H.size → H1[q]? = H[q]?) → W p l e R s m args below meth c H1 locs (cells + 1) (slots + N) Q (F0 m (pc + 3) ls (.ref H.size :: rest))) : W p l e R s m args below meth c H locs cells slots Q (F0 m pc ls rest) := by
  have hKn := hK.1 ci _ hc
  refine W.newcK hexec hb hown hcl hinst hini rfl hdg hcells hslots hKn.2.1 rfl fun H1 kC hkC e1 z1 o1 => ?_
  exact kk H1 ⟨_, hc, (u_born ty hts hin hKn hkC e1 hty).to hfs⟩ z1 o1
theorem d_newO0 (hexec : p.tables.exec = Jvm.exec) (hb : c.code = cc) {own : String} {index : Nat} (hown : s.vm.findClass own = some m.cls) (hclink : (Cond.classLink own index "java/lang/Object").before args s = true) (hover : va_AO "java/lang/Object" s) {cA : ClassId} (hcA : s.vm.findClass ("[" ++ (FieldType.object "java/lang/Object").toString) = some cA) {n : Int32} (hn : 0 ≤ n.toInt) (hbytes : n.toInt < 100000) (hcells : cells + 1 ≤ R.cells) (hslots : slots + n.toNatClampNeg ≤ R.slots) (hdg : decode cc pc = .ok (.anewarray index, 3))
    (kk : ∀ H1 : Heap, va_at D cl (H.size, .inl (cA, n.toNatClampNeg, .inr (.inr (.inr (.inr (fun _ => none)))))) H1 → H1.size = H.size + 1 → (∀ q, q < H.size → H1[q]? = H[q]?) → W p l e R s m args below meth c H1 locs (cells + 1) (slots + n.toNatClampNeg) Q (F0 m (pc + 3) ls (.ref H.size :: rest))) : W p l e R s m args below meth c H locs cells slots Q (F0 m pc ls (.int n :: rest)) := by
  have h0 : ¬ n < 0 := fun q => by
    have := Int32.lt_iff_toInt_lt.mp q
    have z : (0 : Int32).toInt = 0 := by decide
    omega
  have e0 : n.toNatClampNeg = n.toInt.toNat := rfl
  have hb2 : n.toNatClampNeg * 4 ≤ 536870912 := by
    rw [e0]
    omega
  refine W.anew hexec hb hown hclink (va_AO.use hover) rfl hdg rfl h0 hb2 hcells hslots fun cB kA comp f1 f2 f3 f4 => ?_
  have hc2 : cB = cA := Option.some.inj (f1.symm.trans hcA)
  subst hc2
  generalize hH1 : H.push ({ cls := cB, slots := Array.replicate n.toNatClampNeg .null, vm := .none } : Cell) = H1
  have z1 : H1.size = H.size + 1 := by rw [← hH1, Array.size_push]
  have e1 : H1[H.size]? = some (arrV cB n.toNatClampNeg (fun _ => .null)) := by rw [← hH1, Array.getElem?_push_size, ← arrV_new]
  have o1 : ∀ q : Nat, q < H.size → H1[q]? = H[q]? := fun q hq => by rw [← hH1, Array.getElem?_push, if_neg (Nat.ne_of_lt hq)]
  exact kk H1 e1 z1 o1
theorem d_iast0 (hexec : p.tables.exec = Jvm.exec) (hb : c.code = cc) (hK : va_K D cl tys s) (t0 : Nat) {cA : ClassId} {n : Nat} {f : Nat → Int32} (ha : va_at D cl (a, .inl (cA, n, .inl f)) H) (ht : tys[t0]? = some (cA, .int)) {i x : Int32} (hin : inb i n) (hdg : decode cc pc = .ok (.iastore, 1))
    (kk : ∀ (H1 : Heap) (j : Nat), va_at D cl (a, .inl (cA, n, .inl (upd f i.toNatClampNeg x))) H1 → H1.size = H.size → (∀ q, q ≠ a → H1[q]? = H[q]?) → W p l e R s m args below meth c H1 (locs ++ [⟨a, j⟩]) cells slots Q (F0 m (pc + 1) ls rest)) : W p l e R s m args below meth c H locs cells slots Q (F0 m pc ls (.int x :: .int i :: .ref a :: rest)) := by
  refine W.iast hexec hb ha ((hK.2 t0 _ ht).1 n (fun j => .int (f j))) (fun q => by cases q) (by show ¬ (i < 0 ∨ (arrV _ _ _).slots.size ≤ _); rw [arrV_size]; exact vp_in_iff.mpr hin) rfl rfl hdg fun H1 e1 z oq => ?_
  refine kk H1 _ ?_ z oq
  show H1[a]? = some (vp_cell _ _)
  rw [e1, vp_cell_i, vp_cell_i, arrV_store]
  congr 2
  funext q
  by_cases hq : q = i.toNatClampNeg
  · subst hq; simp [updV, upd]
  · simp [updV, upd, hq]
theorem d_aast0 (hexec : p.tables.exec = Jvm.exec) (hb : c.code = cc) (hK : va_K D cl tys s) (t0 ci : Nat) {cA : ClassId} {r : vw_C} {n v : Nat} {vs : List Value} {f : Nat → Option Nat} (ha : va_at D cl (a, .inl (cA, n, .inr (.inr (.inr (.inr f))))) H) (ht : tys[t0]? = some (cA, .object "java/lang/Object")) (hca : va_Nw (.castable r.1 "java/lang/Object") s) (hv : va_at D cl (v, .inr (ci, vs)) H) (hc : cl[ci]? = some r) {i : Int32} (hin : inb i n) (hdg : decode cc pc = .ok (.aastore, 1))
    (kk : ∀ (H1 : Heap) (j : Nat), va_at D cl (a, .inl (cA, n, .inr (.inr (.inr (.inr (va_up f i.toNatClampNeg (some v))))))) H1 → H1.size = H.size → (∀ q, q ≠ a → H1[q]? = H[q]?) → W p l e R s m args below meth c H1 (locs ++ [⟨a, j⟩]) cells slots Q (F0 m (pc + 1) ls rest)) : W p l e R s m args below meth c H locs cells slots Q (F0 m pc ls (.ref v :: .int i :: .ref a :: rest)) := by
  have hin2 := vp_in_iff.mpr hin
  have hlt : i.toNatClampNeg < n := Nat.not_le.mp fun q => hin2 (Or.inr q)
  have h0 : ¬ i < 0 := fun q => hin2 (Or.inl q)
  obtain ⟨r', hr', cellV, g1, g2, g3, -⟩ := hv
  have hcls := (hK.1 ci r hc).2
  obtain ⟨kA, comp, k1, k2, k3, -⟩ := (hK.2 t0 _ ht).2
  obtain ⟨kE, hkE, -⟩ := Vm.findClass_spec k3
  obtain ⟨c0, t1, f1, f2, f3⟩ := Cond.castable_spec (va_Nw.use (A := args) rfl hca)
  cases hcls.1.symm.trans f1
  cases k3.symm.trans f2
  obtain ⟨kC, hkC, -⟩ := hcls.2
  refine W.aast hexec hb ha (fun q h => by cases h) (fun h => by cases h) k1 k2 rfl hkE ⟨h0, by show _ < (arrV _ _ _).slots.size; rw [arrV_size]; exact hlt⟩ g1 (fun q h => by rw [g3] at h; cases h) (by rw [g2]; exact hkC) (by rw [g2]; exact f3) rfl rfl hdg fun H1 e1 z oq => ?_
  refine kk H1 _ ?_ z oq
  show H1[a]? = some (vp_cell _ _)
  rw [e1, vp_cell_q, vp_cell_q, arrV_store]
  congr 2
  funext q
  by_cases hq : q = i.toNatClampNeg
  · subst hq; simp [updV, va_up, va_rf]
  · simp [updV, va_up, hq]
end D0
end
section
section D1
variable {p : Program} {l : Launch} {e : Env} {R : Room} {s : State} {m : MethodId} {args : Array Value} {below : List Frame} {meth : Method} {c : Code} {H : Heap} {locs : List Loc} {cells slots : Nat} {Q : State → Prop}
variable {cc : ByteArray} {pc : Nat} {ls : Array Slot} {rest : List Value} {D : va_G} {cl : List vw_C} {a : Nat} {tys : List (ClassId × FieldType)}
theorem d_newI0 (hexec : p.tables.exec = Jvm.exec) (hb : c.code = cc) (harr : (Cond.arrayClass .int).before args s = true) {cA : ClassId} (hcA : s.vm.findClass ("[" ++ FieldType.int.toString) = some cA) {n : Int32} (hn : 0 ≤ n.toInt) (hbytes : n.toInt < 100000) (hcells : cells + 1 ≤ R.cells) (hslots : slots + n.toNatClampNeg ≤ R.slots) (hdg : decode cc pc = .ok (.newarray .int, 2))
    (kk : ∀ H1 : Heap, va_at D cl (H.size, .inl (cA, n.toNatClampNeg, .inl (fun _ => 0))) H1 → H1.size = H.size + 1 → (∀ q, q < H.size → H1[q]? = H[q]?) → W p l e R s m args below meth c H1 locs (cells + 1) (slots + n.toNatClampNeg) Q (F0 m (pc + 2) ls (.ref H.size :: rest))) : W p l e R s m args below meth c H locs cells slots Q (F0 m pc ls (.int n :: rest)) := by
  have h0 : ¬ n < 0 := fun q => by
    have := Int32.lt_iff_toInt_lt.mp q
    have z : (0 : Int32).toInt = 0 := by decide
    omega
  have hb2 : n.toNatClampNeg * 4 ≤ 536870912 := by
    have e0 : n.toNatClampNeg = n.toInt.toNat := rfl
    rw [e0]
    omega
  obtain ⟨N, hN⟩ : ∃ N, N = n.toNatClampNeg := ⟨_, rfl⟩
  rw [← hN] at hb2 hslots kk
  refine va_newaK (atype := .int) (N := N) hexec hb harr rfl hdg rfl h0 hN.symm hb2 hcells hslots rfl fun H1 cB e1 z1 o1 hAr hNm => ?_
  have hc2 : cB = cA := Option.some.inj (hNm.symm.trans hcA)
  rw [hc2] at e1
  have e2 : H1[H.size]? = some (arrV cA N (fun _ => .int 0)) := e1
  exact kk H1 e2 z1 o1
end D1
end
section
/-! RUNS WITH THEIR COST: (answer, world, cells, slots) -/
def tick {α : Type} (c z : Nat) (x : Option (α × DS × Nat × Nat)) : Option (α × DS × Nat × Nat) := match x with
  | some (r, S, C, Z) => some (r, S, c + C, z + Z)
  | none => none
theorem tick_e {α : Type} {c z C Z : Nat} {x : Option (α × DS × Nat × Nat)} {r : α} {S : DS} (h : tick c z x = some (r, S, C, Z)) : ∃ C1 Z1, x = some (r, S, C1, Z1) ∧ C = c + C1 ∧ Z = z + Z1 := by
  match x, h with
  | some (r0, S0, C0, Z0), h => cases h; exact ⟨C0, Z0, rfl, rfl, rfl⟩
  | none, h => cases h
/-- a call that returns -/
def bndc {α β : Type} (a : Option (β × DS × Nat × Nat)) (f : β → DS → Option (α × DS × Nat × Nat)) : Option (α × DS × Nat × Nat) := match a with
  | some (r, S, C, Z) => tick C Z (f r S)
  | none => none
theorem bndc_e {α β : Type} {a : Option (β × DS × Nat × Nat)} {f : β → DS → Option (α × DS × Nat × Nat)} {r : α} {S : DS} {C Z : Nat} (h : bndc a f = some (r, S, C, Z)) : ∃ r1 S1 C1 Z1 C2 Z2, a = some (r1, S1, C1, Z1) ∧ f r1 S1 = some (r, S, C2, Z2) ∧ C = C1 + C2 ∧ Z = Z1 + Z2 := by
  match a, h with
  | some (r1, S1, C1, Z1), h =>
    obtain ⟨C2, Z2, h1, h2, h3⟩ := tick_e h
    exact ⟨r1, S1, C1, Z1, C2, Z2, rfl, h1, h2, h3⟩
  | none, h => cases h
/-- a call that returns (0) or throws (1: IllegalArgumentException, 2: IllegalStateException) -/
def bndx {α β : Type} (d : α) (a : Option ((Nat × β) × DS × Nat × Nat)) (f : β → DS → Option ((Nat × α) × DS × Nat × Nat)) : Option ((Nat × α) × DS × Nat × Nat) := match a with
  | some ((k, r), S, C, Z) => if k = 0 then tick C Z (f r S) else some ((k, d), S, C, Z)
  | none => none
theorem bndx_e {α β : Type} {d : α} {a : Option ((Nat × β) × DS × Nat × Nat)} {f : β → DS → Option ((Nat × α) × DS × Nat × Nat)} {r : Nat × α} {S : DS} {C Z : Nat} (h : bndx d a f = some (r, S, C, Z)) :
    (∃ r1 S1 C1 Z1 C2 Z2, a = some ((0, r1), S1, C1, Z1) ∧ f r1 S1 = some (r, S, C2, Z2) ∧ C = C1 + C2 ∧ Z = Z1 + Z2) ∨ ∃ k r1, k ≠ 0 ∧ a = some ((k, r1), S, C, Z) ∧ r = (k, d) := by
  match a, h with
  | some ((k, r1), S1, C1, Z1), h =>
    unfold bndx at h
    by_cases e : k = 0
    · subst e
      dsimp only at h
      rw [if_pos rfl] at h
      obtain ⟨C2, Z2, h1, h2, h3⟩ := tick_e h
      exact Or.inl ⟨r1, S1, C1, Z1, C2, Z2, rfl, h1, h2, h3⟩
    · dsimp only at h
      rw [if_neg e] at h
      cases h
      exact Or.inr ⟨k, r1, e, rfl, rfl⟩
  | none, h => cases h
theorem rf_cat {x : Option Nat} : (va_rf x).category = 1 := by cases x <;> rfl
/-! what the tables say beside the good words, and the statics that are read -/
def dNW : List Cond := [.fieldLinkNest "PromiseDesk$Element" 23 "PromiseDesk" "threw" "Z" "PromiseDesk", .fieldLinkNest "PromiseDesk$Lastly" 25 "PromiseDesk" "threw" "Z" "PromiseDesk", .fieldLinkNest "PromiseDesk$Simple" 32 "PromiseDesk" "threw" "Z" "PromiseDesk", .methodLinkNest "PromiseDesk$Simple" 3 yX3_init "PromiseDesk", .methodLinkNest "PromiseDesk$Lastly" 3 yX3_init "PromiseDesk", .castable "[I" "java/lang/Cloneable", .methodLinkNest "PromiseDesk$Element" 3 yX3_init "PromiseDesk", .methodLinkNest "PromiseDesk$Simple" 28 yX11_note "PromiseDesk", .methodLinkNest "PromiseDesk$Simple" 36 yX11_resolve "PromiseDesk", .methodLinkNest "PromiseDesk$Simple" 40 yX11_reject "PromiseDesk", .methodLinkNest "PromiseDesk$Element" 31 yX11_newThing "PromiseDesk", .methodLinkNest "PromiseDesk$Element" 42 yX11_complete "PromiseDesk", .methodLinkNest "PromiseDesk$Lastly" 29 yX11_promiseFor "PromiseDesk", .methodLinkNest "PromiseDesk$Lastly" 36 yX11_derive "PromiseDesk", .castable "PromiseDesk$Promise" "PromiseDesk$Thing", .castable "PromiseDesk$Thenable" "PromiseDesk$Thing", .castable "PromiseDesk$Thing" "PromiseDesk$Thing", .castable "PromiseDesk$Promise" "PromiseDesk$Promise", .castable "PromiseDesk$Thenable" "PromiseDesk$Thenable", .castable "PromiseDesk$Simple" "PromiseDesk$Simple", .castable "PromiseDesk" "java/lang/Object", .castable "PromiseDeskModel" "java/lang/Object", .castable "PromiseDesk$Promise" "java/lang/Object", .castable "PromiseDesk$Resolvers" "java/lang/Object", .castable "PromiseDesk$Simple" "java/lang/Object", .castable "PromiseDesk$Thenable" "java/lang/Object", .castable "PromiseDesk$Thing" "java/lang/Object", .castable "PromiseDesk$Job" "java/lang/Object", .castable "PromiseDesk$Lastly" "java/lang/Object", .castable "PromiseDesk$Combination" "java/lang/Object", .castable "PromiseDesk$Element" "java/lang/Object", .castable "PromiseDesk$AsyncRun" "java/lang/Object"]
def dNC : List (String × String) := [("PromiseDesk$Thing", "PromiseDesk$Promise"), ("PromiseDesk$Thenable", "PromiseDesk$Promise"), ("PromiseDesk$Thing", "PromiseDesk$Thenable"), ("PromiseDesk$Promise", "PromiseDesk$Thenable")]
def dTx : List (Nat × String) := [(242, "no room for more objects"), (218, "out of range"), (223, "no value"), (227, "no promise"), (231, "not made by promise"), (67, "no more handlers"), (229, "no thenable"), (138, "the list is full"), (244, "the log is full"), (225, "no object"), (240, "it has no parts"), (215, "nothing of that number is counted")]
def dV (D : va_G) (G : DG) (s : State) : Prop := va_K D vwCl (dT G) s ∧ va_AO "java/lang/Object" s ∧ (∀ w ∈ dNW, va_Nw w s) ∧ (∀ q ∈ dNC, va_Nc q.1 q.2 s) ∧ (∀ q ∈ dTx, ∃ sa, vk_R "PromiseDesk" q.1 q.2 sa s) ∧ (∃ mi, va_Mi "[Ljava/lang/Object;" mi s) ∧ va_Dc s
theorem dNW_warm : ∀ w ∈ dNW, ∀ s U : State, s.WarmedH U.vm → va_Nw w s → va_Nw w U := by
  intro w hw s U hW h
  unfold dNW at hw
  repeat (first | (rcases List.mem_cons.mp hw with e | hw; · (subst e; first | exact va_Nw.warmF hW h | exact va_Nw.warmM hW h | exact va_Nw.warmC hW h)))
  cases hw
theorem dNW_tab : ∀ w ∈ dNW, w.onTables = true := by decide +kernel
theorem dV.warm {D : va_G} {G : DG} {s U : State} (hW : s.WarmedH U.vm) (h : dV D G s) : dV D G U := by
  obtain ⟨h1, h2, h3, h4, h5, ⟨mi, h6⟩, h7⟩ := h
  exact ⟨va_K.moved hW.alike h1, va_AO.moved hW.alike h2, fun w hw => dNW_warm w hw s U hW (h3 w hw), fun q hq => va_Nc.moved hW.alike (h4 q hq), fun q hq => by obtain ⟨sa, h⟩ := h5 q hq; exact ⟨sa, vk_R.warm hW h⟩, ⟨mi, va_Mi.moved hW.alike h6⟩, va_Dc.moved hW.alike h7⟩
theorem dV.same {D : va_G} {G : DG} {s U : State} (hv : s.vm = U.vm) (h : dV D G s) : dV D G U := by
  obtain ⟨h1, h2, h3, h4, h5, ⟨mi, h6⟩, h7⟩ := h
  have ha : s.vm.Alike U.vm := by rw [hv]; exact Vm.Alike.refl _
  exact ⟨va_K.moved ha h1, va_AO.moved ha h2, fun w hw => va_Nw.same (dNW_tab w hw) hv (h3 w hw), fun q hq => va_Nc.moved ha (h4 q hq), fun q hq => by obtain ⟨sa, h⟩ := h5 q hq; exact ⟨sa, vk_R.same hv.symm h⟩, ⟨mi, va_Mi.moved ha h6⟩, va_Dc.moved ha h7⟩
def dZ (A : Nat → Prop) (G : DG) (s : State) (H : Heap) : Prop := va_Z "java/util/ArrayList" "DEFAULTCAPACITY_EMPTY_ELEMENTDATA" "[Ljava/lang/Object;" (.ref G.2.2) A s H ∧ vx_Zq Bundle.tN "UNASSIGNED_STACK" Bundle.steD A s H ∧ vx_Zq Bundle.tN "SUPPRESSED_SENTINEL" Bundle.listD A s H ∧ ∀ q : Nat, H.size ≤ q → A q
theorem dZ.moved {A : Nat → Prop} {G : DG} {s U : State} {H : Heap} (hvm : s.vm.Alike U.vm) (h : dZ A G s H) : dZ A G U H := ⟨va_Z.moved hvm h.1, vx_Zq.moved hvm h.2.1, vx_Zq.moved hvm h.2.2.1, h.2.2.2⟩
theorem dZ.kept {A : Nat → Prop} {G : DG} {s : State} {H0 H : Heap} {locs : List Loc} (hS : va_S A H0 H locs) (h : dZ A G s H0) : dZ A G s H := ⟨va_Z.kept h.1 (fun a h1 h2 => hS.2.1 a h1 h2), vx_Zq.kept h.2.1 (fun a h1 h2 => hS.2.1 a h1 h2), vx_Zq.kept h.2.2.1 (fun a h1 h2 => hS.2.1 a h1 h2), fun q hq => h.2.2.2 q (Nat.le_trans hS.1 hq)⟩
abbrev rD (f L C Z : Nat) : Room := { frames := f, cells := C, slots := Z, locals := L }
def dPre (D : va_G) (A : Nat → Prop) (G : DG) (S : DS) : State → Prop := fun U => dH D A G S U.heap ∧ dV D G U ∧ dZ A G U U.heap
def dPost (D : va_G) (A : Nat → Prop) (G : DG) : DS → State → Prop := fun S t => dH D A G S t.heap
/-- what holds in a body -/
def dB (p : Program) (l : Launch) (s : State) (m : MethodId) (args : Array Value) (meth : Method) (c : Code) (D : va_G) (A : Nat → Prop) (G : DG) (own nm : String) (cc : ByteArray) (nL : Nat) (ret : Option FieldType) (w0 : Cond) : Prop :=
  p.tables.exec = Jvm.exec ∧ c.code = cc ∧ meth.sig.returnType = ret ∧ c.maxLocals = nL ∧ s.vm.findClass own = some m.cls ∧ (∀ w ∈ w0 :: Tw, w.before args s = true) ∧ meth.locks = false ∧ dV D G s ∧ dZ A G s s.heap ∧ meth.name = nm ∧ l.stackTraces = false
section DR
variable {p : Program} {l : Launch} {e : Env} {R : Room} {s : State} {m : MethodId} {args : Array Value} {below : List Frame} {meth : Method} {c : Code} {H : Heap} {locs : List Loc} {cells slots : Nat} {Q : State → Prop}
variable {cc : ByteArray} {pc : Nat} {ls : Array Slot} {rest : List Value} {D : va_G} {A : Nat → Prop} {G : DG} {S : DS} {w0 : Cond} {nL a : Nat} {ret : Option FieldType} {own nm : String}
theorem d_get (B : dB p l s m args meth c D A G own nm cc nL ret w0) (hW : dOK D A G S s.heap H locs) {C ref : String} {T : u_T} {N ci index : Nat} {fs : List Value} (hin : ∀ w ∈ u_ws C T N, w ∈ Tw) (hc : vwCl[ci]? = some (C, T, N)) (hF : dF G S a = .inr (ci, fs)) (h0 : dK S a ≠ 0) (k : Nat) (hk : k < N) (hu : Cond.fieldLink own index ref (T k).2.1 (T k).2.2.1 ∈ Tw) (hs : (T k).1 = ref ∨ Cond.sameField ref (T k).1 (T k).2.1 (T k).2.2.1 ∈ Tw) {v : Value} (hv : fs[k]? = some v) (hdg : decode cc pc = .ok (.getfield index, 3))
    (kk : W p l e R s m args below meth c H locs cells slots Q (F0 m (pc + 3) ls (v :: rest))) : W p l e R s m args below meth c H locs cells slots Q (F0 m pc ls (.ref a :: rest)) := by
  obtain ⟨hx, hb, -, -, hown, hts, -, hV, -⟩ := B
  have hat := hW.1.2.1 a h0
  rw [hF] at hat
  exact va_get (D := D) (ci := ci) (v := v) (C := C) (T := T) (N := N) hx hb hts (fun w h => List.mem_cons_of_mem _ (hin w h)) hown hV.1 (va_P1 hat) 0 rfl hc k hk (hts _ (List.mem_cons_of_mem _ hu)) (fun x h9 => by
    rcases hs with e | e
    · rw [e] at h9; exact h9
    · exact u_same (hts _ (List.mem_cons_of_mem _ e)) x h9) hv hdg kk
theorem d_put (B : dB p l s m args meth c D A G own nm cc nL ret w0) (hW : dOK D A G S s.heap H locs) {C ref : String} {T : u_T} {N ci index : Nat} {fs : List Value} (hin : ∀ w ∈ u_ws C T N, w ∈ Tw) (ty0 : Nat → FieldType) (hty : ∀ k, k < N → parseFieldDescriptor (T k).2.2.1 = some (ty0 k)) (hnm : ∀ a, a < N → ∀ b, b < N → a ≠ b → (T a).2.1 ≠ (T b).2.1) (hc : vwCl[ci]? = some (C, T, N)) (hF : dF G S a = .inr (ci, fs)) (h0 : dK S a ≠ 0) (h21 : dK S a ≠ 21) (k : Nat) (hk : k < N) (hu : Cond.fieldLink own index ref (T k).2.1 (T k).2.2.1 ∈ Tw) (hs : (T k).1 = ref ∨ Cond.sameField ref (T k).1 (T k).2.1 (T k).2.2.1 ∈ Tw) (hfin : (T k).2.2.2 = false ∨ ((T k).2.2.2 = true ∧ nm = "<init>" ∧ (T k).1 = own)) {ty : FieldType} {v : Value} (hd : parseFieldDescriptor (T k).2.2.1 = some ty) (hn : narrow ty v = v) (hfit : fits ty v = true) (hl : k < fs.length) {S1 : DS} (hF1 : dF G S1 a = .inr (ci, fs.set k v)) (h1 : dn S1 = dn S ∧ dK S1 = dK S ∧ dL S1 = dL S) (hf : ∀ b, b ≠ a → dF G S1 b = dF G S b) (hdg : decode cc pc = .ok (.putfield index, 3))
    (kk : ∀ (H1 : Heap) (locs1 : List Loc), dOK D A G S1 s.heap H1 locs1 → W p l e R s m args below meth c H1 locs1 cells slots Q (F0 m (pc + 3) ls rest)) : W p l e R s m args below meth c H locs cells slots Q (F0 m pc ls (v :: .ref a :: rest)) := by
  obtain ⟨hx, hb, -, -, hown, hts, -, hV, -, hnme, -⟩ := B
  have hat := hW.1.2.1 a h0
  rw [hF] at hat
  have hA : A a := hW.1.2.2.1 a h0 (fun e => h21 (by rw [e]; exact hW.1.2.2.2.1))
  have hsm : ∀ x, s.fieldFound? (T k).1 (T k).2.1 (T k).2.2.1 = some x → s.fieldFound? ref (T k).2.1 (T k).2.2.1 = some x := fun x h9 => by
    rcases hs with e | e
    · rw [e] at h9; exact h9
    · exact u_same (hts _ (List.mem_cons_of_mem _ e)) x h9
  have hend : ∀ (H1 : Heap) (i : Nat), va_at D vwCl (a, .inr (ci, fs.set k v)) H1 → H1.size = H.size → (∀ q, q ≠ a → H1[q]? = H[q]?) → W p l e R s m args below meth c H1 (locs ++ [⟨a, i⟩]) cells slots Q (F0 m (pc + 3) ls rest) := fun H1 i hat1 z oq =>
    kk H1 _ ⟨dH_set hW.1 z oq (by rw [hF1]; exact hat1) h1.1 h1.2.1 h1.2.2 hf, hW.2.put z oq hA⟩
  rcases hfin with hf0 | ⟨hf1, hn1, hd1⟩
  · exact d_put0 hx hb hts (fun w h => List.mem_cons_of_mem _ (hin w h)) ty0 hty hnm hown hV.1 hat hc k hk (hts _ (List.mem_cons_of_mem _ hu)) hsm hf0 hd hn hfit hl hdg hend
  · exact d_putF0 hx hb hts (fun w h => List.mem_cons_of_mem _ (hin w h)) ty0 hty hnm hown hV.1 hat hc k hk (hts _ (List.mem_cons_of_mem _ hu)) hsm hf1 (hnme.trans hn1) hd1 hd hn hfit hl hdg hend
theorem d_putN (B : dB p l s m args meth c D A G own nm cc nL ret w0) (hW : dOK D A G S s.heap H locs) {C ref host : String} {T : u_T} {N ci index : Nat} {fs : List Value} (hin : ∀ w ∈ u_ws C T N, w ∈ Tw) (ty0 : Nat → FieldType) (hty : ∀ k, k < N → parseFieldDescriptor (T k).2.2.1 = some (ty0 k)) (hnm : ∀ a, a < N → ∀ b, b < N → a ≠ b → (T a).2.1 ≠ (T b).2.1) (hc : vwCl[ci]? = some (C, T, N)) (hF : dF G S a = .inr (ci, fs)) (h0 : dK S a ≠ 0) (h21 : dK S a ≠ 21) (k : Nat) (hk : k < N) (hu : Cond.fieldLinkNest own index ref (T k).2.1 (T k).2.2.1 host ∈ dNW) (hs : (T k).1 = ref) (hfin : (T k).2.2.2 = false) {ty : FieldType} {v : Value} (hd : parseFieldDescriptor (T k).2.2.1 = some ty) (hn : narrow ty v = v) (hfit : fits ty v = true) (hl : k < fs.length) {S1 : DS} (hF1 : dF G S1 a = .inr (ci, fs.set k v)) (h1 : dn S1 = dn S ∧ dK S1 = dK S ∧ dL S1 = dL S) (hf : ∀ b, b ≠ a → dF G S1 b = dF G S b) (hdg : decode cc pc = .ok (.putfield index, 3))
    (kk : ∀ (H1 : Heap) (locs1 : List Loc), dOK D A G S1 s.heap H1 locs1 → W p l e R s m args below meth c H1 locs1 cells slots Q (F0 m (pc + 3) ls rest)) : W p l e R s m args below meth c H locs cells slots Q (F0 m pc ls (v :: .ref a :: rest)) := by
  obtain ⟨hx, hb, -, -, hown, hts, -, hV, -⟩ := B
  have hat := hW.1.2.1 a h0
  rw [hF] at hat
  have hA : A a := hW.1.2.2.1 a h0 (fun e => h21 (by rw [e]; exact hW.1.2.2.2.1))
  exact d_putN0 hx hb hts (fun w h => List.mem_cons_of_mem _ (hin w h)) ty0 hty hnm hown hV.1 hat hc k hk (va_Nw.use (dNW_tab _ hu) (hV.2.2.1 _ hu)) (fun x h9 => by rw [hs] at h9; exact h9) hfin hd hn hfit hl hdg
    (fun H1 i hat1 z oq => kk H1 _ ⟨dH_set hW.1 z oq (by rw [hF1]; exact hat1) h1.1 h1.2.1 h1.2.2 hf, hW.2.put z oq hA⟩)
theorem d_getN (B : dB p l s m args meth c D A G own nm cc nL ret w0) (hW : dOK D A G S s.heap H locs) {C ref host : String} {T : u_T} {N ci index : Nat} {fs : List Value} (hin : ∀ w ∈ u_ws C T N, w ∈ Tw) (hc : vwCl[ci]? = some (C, T, N)) (hF : dF G S a = .inr (ci, fs)) (h0 : dK S a ≠ 0) (k : Nat) (hk : k < N) (hu : Cond.fieldLinkNest own index ref (T k).2.1 (T k).2.2.1 host ∈ dNW) (hs : (T k).1 = ref) {v : Value} (hv : fs[k]? = some v) (hdg : decode cc pc = .ok (.getfield index, 3))
    (kk : W p l e R s m args below meth c H locs cells slots Q (F0 m (pc + 3) ls (v :: rest))) : W p l e R s m args below meth c H locs cells slots Q (F0 m pc ls (.ref a :: rest)) := by
  obtain ⟨hx, hb, -, -, hown, hts, -, hV, -⟩ := B
  have hat := hW.1.2.1 a h0
  rw [hF] at hat
  exact va_getN (D := D) (ci := ci) (v := v) (C := C) (T := T) (N := N) hx hb hts (fun w h => List.mem_cons_of_mem _ (hin w h)) hown hV.1 (va_P1 hat) 0 rfl hc k hk (va_Nw.use (dNW_tab _ hu) (hV.2.2.1 _ hu)) (fun x h9 => by rw [hs] at h9; exact h9) hv hdg kk
theorem d_new (B : dB p l s m args meth c D A G own nm cc nL ret w0) (hW : dOK D A G S s.heap H locs) {C : String} {T : u_T} {N ci index kd C1 Z1 : Nat} {fs : List Value} (hin : ∀ w ∈ u_ws C T N, w ∈ Tw) (ty : Nat → FieldType) (hty : ∀ k, k < N → parseFieldDescriptor (T k).2.2.1 = some (ty k)) (hcl : Cond.classLink own index C ∈ Tw) (hinst : Cond.instantiable C N ∈ Tw) (hini : Cond.initialized C ∈ Tw) (hc : vwCl[ci]? = some (C, T, N)) (hfs : ∀ j, j < N → defaultValue (ty j) = vp_V fs j) (hF : ∀ S : DS, dF G (sO S kd) (dn S) = .inr (ci, fs)) (hT : cells + (1 + C1) = R.cells ∧ slots + (N + Z1) = R.slots) (hdg : decode cc pc = .ok (.new index, 3))
    (kk : ∀ (H1 : Heap) (cells1 slots1 q : Nat) (S1 : DS), q = dn S → S1 = sO S kd → dOK D A G S1 s.heap H1 locs → cells1 + C1 = R.cells ∧ slots1 + Z1 = R.slots → W p l e R s m args below meth c H1 locs cells1 slots1 Q (F0 m (pc + 3) ls (.ref q :: rest))) : W p l e R s m args below meth c H locs cells slots Q (F0 m pc ls rest) := by
  obtain ⟨hx, hb, -, -, hown, hts, -, hV, hZ, -⟩ := B
  have hsz := hW.1.1
  refine d_new0 hx hb hts (fun w h => List.mem_cons_of_mem _ (hin w h)) ty hty hown (hts _ (List.mem_cons_of_mem _ hcl)) (hts _ (List.mem_cons_of_mem _ hinst)) (hts _ (List.mem_cons_of_mem _ hini)) hV.1 hc hfs (by omega) (by omega) hdg (fun H1 hat z oq => ?_)
  have hA : A H.size := hZ.2.2.2 _ hW.2.1
  refine kk H1 _ _ _ _ hsz rfl ⟨dH_new hW.1 z oq (by rw [hsz, hF]; rw [hsz] at hat; exact hat) hA rfl (fun b hb => va_up_ne _ _ hb) (fun b hb => rfl) (fun b hb => dF_sO hb), Nat.le_trans hW.2.1 (by omega), fun x h1 h2 => (oq x (Nat.lt_of_lt_of_le h1 hW.2.1)).trans (hW.2.2.1 x h1 h2), hW.2.2.2⟩ (by omega)
theorem d_iald (B : dB p l s m args meth c D A G own nm cc nL ret w0) (hW : dOK D A G S s.heap H locs) (h : dK S a = 20) {i : Int32} (hin : inb i (dL S a)) (hdg : decode cc pc = .ok (.iaload, 1))
    (kk : W p l e R s m args below meth c H locs cells slots Q (F0 m (pc + 1) ls (.int (dX S a i.toNatClampNeg) :: rest))) : W p l e R s m args below meth c H locs cells slots Q (F0 m pc ls (.int i :: .ref a :: rest)) := by
  obtain ⟨hx, hb, -, -, hown, hts, -, hV, -⟩ := B
  have hat := hW.1.2.1 a (by rw [h]; decide)
  rw [dF_20 h] at hat
  exact va_iald hx hb hV.1 (va_P1 hat) 0 0 rfl rfl (vp_in_iff.mpr hin) hdg kk
theorem d_iast (B : dB p l s m args meth c D A G own nm cc nL ret w0) (hW : dOK D A G S s.heap H locs) (h : dK S a = 20) {i x : Int32} (hin : inb i (dL S a)) (hdg : decode cc pc = .ok (.iastore, 1))
    (kk : ∀ (H1 : Heap) (locs1 : List Loc) (S1 : DS), S1 = sX S a (upd (dX S a) i.toNatClampNeg x) → dOK D A G S1 s.heap H1 locs1 → W p l e R s m args below meth c H1 locs1 cells slots Q (F0 m (pc + 1) ls rest)) : W p l e R s m args below meth c H locs cells slots Q (F0 m pc ls (.int x :: .int i :: .ref a :: rest)) := by
  obtain ⟨hx, hb, -, -, hown, hts, -, hV, -⟩ := B
  have h0 : dK S a ≠ 0 := by rw [h]; decide
  have hat := hW.1.2.1 a h0
  rw [dF_20 h] at hat
  have hA : A a := hW.1.2.2.1 a h0 (fun e9 => by rw [e9, hW.1.2.2.2.1] at h; cases h)
  refine d_iast0 hx hb hV.1 0 hat rfl hin hdg (fun H1 j hat1 z oq => ?_)
  have hF1 : dF G (sX S a (upd (dX S a) i.toNatClampNeg x)) a = .inl (G.1, dL S a, .inl (upd (dX S a) i.toNatClampNeg x)) := by
    rw [dF_20 (S := sX S a _) h]
    have e9 : dX (sX S a (upd (dX S a) i.toNatClampNeg x)) a = upd (dX S a) i.toNatClampNeg x := va_up_self _ _ _
    rw [e9]; rfl
  exact kk H1 _ _ rfl ⟨dH_set hW.1 z oq (by rw [hF1]; exact hat1) rfl rfl rfl (fun b hb => dF_sX hb), hW.2.put z oq hA⟩
theorem d_alen (B : dB p l s m args meth c D A G own nm cc nL ret w0) (hW : dOK D A G S s.heap H locs) (h : dK S a = 20 ∨ dK S a = 21) (hdg : decode cc pc = .ok (.arraylength, 1))
    (kk : W p l e R s m args below meth c H locs cells slots Q (F0 m (pc + 1) ls (.int (nI (dL S a)) :: rest))) : W p l e R s m args below meth c H locs cells slots Q (F0 m pc ls (.ref a :: rest)) := by
  obtain ⟨hx, hb, -, -, hown, hts, -, hV, -⟩ := B
  rcases h with h | h
  · have hat := hW.1.2.1 a (by rw [h]; decide)
    rw [dF_20 h] at hat
    exact va_alen hx hb hV.1 (va_P1 hat) 0 0 rfl rfl rfl hdg kk
  · have hat := hW.1.2.1 a (by rw [h]; decide)
    rw [dF_21 h] at hat
    exact va_alen hx hb hV.1 (va_P1 hat) 0 1 rfl rfl rfl hdg kk
theorem d_aald (B : dB p l s m args meth c D A G own nm cc nL ret w0) (hW : dOK D A G S s.heap H locs) (h : dK S a = 21) {i : Int32} (hin : inb i (dL S a)) (hdg : decode cc pc = .ok (.aaload, 1))
    (kk : W p l e R s m args below meth c H locs cells slots Q (F0 m (pc + 1) ls (va_rf (dY S a i.toNatClampNeg) :: rest))) : W p l e R s m args below meth c H locs cells slots Q (F0 m pc ls (.int i :: .ref a :: rest)) := by
  obtain ⟨hx, hb, -, -, hown, hts, -, hV, -⟩ := B
  have hat := hW.1.2.1 a (by rw [h]; decide)
  rw [dF_21 h] at hat
  exact va_aldq hx hb hV.1 (va_P1 hat) 0 1 rfl rfl (vp_in_iff.mpr hin) hdg kk
theorem d_newI (B : dB p l s m args meth c D A G own nm cc nL ret w0) (hW : dOK D A G S s.heap H locs) (harr : Cond.arrayClass .int ∈ Tw) {n : Int32} (hn : 0 ≤ n.toInt ∧ n.toInt < 100000) {C1 Z1 : Nat} (hT : cells + (1 + C1) = R.cells ∧ slots + (n.toNatClampNeg + Z1) = R.slots) (hdg : decode cc pc = .ok (.newarray .int, 2))
    (kk : ∀ (H1 : Heap) (cells1 slots1 q : Nat) (S1 : DS), q = dn S → S1 = sAI S n.toNatClampNeg (fun _ => 0) → dOK D A G S1 s.heap H1 locs → cells1 + C1 = R.cells ∧ slots1 + Z1 = R.slots → W p l e R s m args below meth c H1 locs cells1 slots1 Q (F0 m (pc + 2) ls (.ref q :: rest))) : W p l e R s m args below meth c H locs cells slots Q (F0 m pc ls (.int n :: rest)) := by
  obtain ⟨hx, hb, -, -, hown, hts, -, hV, hZ, -⟩ := B
  have hsz := hW.1.1
  have hcA : s.vm.findClass ("[" ++ FieldType.int.toString) = some G.1 := (hV.1.2 0 (G.1, .int) rfl).2
  refine d_newI0 (D := D) (cl := vwCl) hx hb (hts _ (List.mem_cons_of_mem _ harr)) hcA hn.1 hn.2 (by omega) (by omega) hdg (fun H1 hat z oq => ?_)
  have hA : A H.size := hZ.2.2.2 _ hW.2.1
  have hF1 : dF G (sAI S n.toNatClampNeg (fun _ => 0)) (dn S) = .inl (G.1, n.toNatClampNeg, .inl (fun _ => 0)) := by
    rw [dF_20 (S := sAI S n.toNatClampNeg (fun _ => 0)) (va_up_self _ _ _)]
    have e1 : dL (sAI S n.toNatClampNeg (fun _ => 0)) (dn S) = n.toNatClampNeg := va_up_self _ _ _
    have e2 : dX (sAI S n.toNatClampNeg (fun _ => 0)) (dn S) = fun _ => 0 := va_up_self _ _ _
    rw [e1, e2]
  refine kk H1 _ _ _ _ hsz rfl ⟨dH_new hW.1 z oq (by rw [hsz, hF1]; rw [hsz] at hat; exact hat) hA rfl (fun b hb => va_up_ne _ _ hb) (fun b hb => va_up_ne _ _ hb) (fun b hb => dF_sAI hb), Nat.le_trans hW.2.1 (by omega), fun x h1 h2 => (oq x (Nat.lt_of_lt_of_le h1 hW.2.1)).trans (hW.2.2.1 x h1 h2), hW.2.2.2⟩ (by omega)
theorem d_newO (B : dB p l s m args meth c D A G own nm cc nL ret w0) (hW : dOK D A G S s.heap H locs) {index : Nat} (hcl : Cond.classLink own index "java/lang/Object" ∈ Tw) {n : Int32} (hn : 0 ≤ n.toInt ∧ n.toInt < 100000) {C1 Z1 : Nat} (hT : cells + (1 + C1) = R.cells ∧ slots + (n.toNatClampNeg + Z1) = R.slots) (hdg : decode cc pc = .ok (.anewarray index, 3))
    (kk : ∀ (H1 : Heap) (cells1 slots1 q : Nat) (S1 : DS), q = dn S → S1 = sAO S n.toNatClampNeg (fun _ => none) → dOK D A G S1 s.heap H1 locs → cells1 + C1 = R.cells ∧ slots1 + Z1 = R.slots → W p l e R s m args below meth c H1 locs cells1 slots1 Q (F0 m (pc + 3) ls (.ref q :: rest))) : W p l e R s m args below meth c H locs cells slots Q (F0 m pc ls (.int n :: rest)) := by
  obtain ⟨hx, hb, -, -, hown, hts, -, hV, hZ, -⟩ := B
  have hsz := hW.1.1
  have hcA : s.vm.findClass ("[" ++ (FieldType.object "java/lang/Object").toString) = some G.2.1 := by
    obtain ⟨-, -, -, -, -, h4⟩ := (hV.1.2 1 (G.2.1, .object "java/lang/Object") rfl).2
    exact h4
  refine d_newO0 (D := D) (cl := vwCl) hx hb hown (hts _ (List.mem_cons_of_mem _ hcl)) hV.2.1 hcA hn.1 hn.2 (by omega) (by omega) hdg (fun H1 hat z oq => ?_)
  have hA : A H.size := hZ.2.2.2 _ hW.2.1
  have hF1 : dF G (sAO S n.toNatClampNeg (fun _ => none)) (dn S) = .inl (G.2.1, n.toNatClampNeg, .inr (.inr (.inr (.inr (fun _ => none))))) := by
    rw [dF_21 (S := sAO S n.toNatClampNeg (fun _ => none)) (va_up_self _ _ _)]
    have e1 : dL (sAO S n.toNatClampNeg (fun _ => none)) (dn S) = n.toNatClampNeg := va_up_self _ _ _
    have e2 : dY (sAO S n.toNatClampNeg (fun _ => none)) (dn S) = fun _ => none := va_up_self _ _ _
    rw [e1, e2]
  refine kk H1 _ _ _ _ hsz rfl ⟨dH_new hW.1 z oq (by rw [hsz, hF1]; rw [hsz] at hat; exact hat) hA rfl (fun b hb => va_up_ne _ _ hb) (fun b hb => va_up_ne _ _ hb) (fun b hb => dF_sAO hb), Nat.le_trans hW.2.1 (by omega), fun x h1 h2 => (oq x (Nat.lt_of_lt_of_le h1 hW.2.1)).trans (hW.2.2.1 x h1 h2), hW.2.2.2⟩ (by omega)
/-! references that may be null -/
theorem d_aload_n (hx : p.tables.exec = Jvm.exec) (hb : c.code = cc) {k : Fin 4} {i : Nat} {x : Option Nat} (hdg : decode cc pc = .ok (.aload_n k, 1)) (hi : (k : Nat) = i) (hl : ls[i]? = some (.val (va_rf x))) (kk : W p l e R s m args below meth c H locs cells slots Q (F0 m (pc + 1) ls (va_rf x :: rest))) : W p l e R s m args below meth c H locs cells slots Q (F0 m pc ls rest) := by
  cases x with
  | none => exact lv_aload_nN hx hb hdg hi hl kk
  | some y => exact lv_aload_n hx hb hdg hi hl kk
theorem d_aload (hx : p.tables.exec = Jvm.exec) (hb : c.code = cc) {i : Nat} {x : Option Nat} (hdg : decode cc pc = .ok (.aload i, 2)) (hl : ls[i]? = some (.val (va_rf x))) (kk : W p l e R s m args below meth c H locs cells slots Q (F0 m (pc + 2) ls (va_rf x :: rest))) : W p l e R s m args below meth c H locs cells slots Q (F0 m pc ls rest) := by
  cases x with
  | none => exact lv_aloadN hx hb hdg hl kk
  | some y => exact lv_aload hx hb hdg hl kk
theorem d_astore_n (hx : p.tables.exec = Jvm.exec) (hb : c.code = cc) {k : Fin 4} {i nL : Nat} {x : Option Nat} {lv lv' : List (Nat × Value)} (hdg : decode cc pc = .ok (.astore_n k, 1)) (hi : (k : Nat) = i) (h : lv_has ls nL lv) (hn : i < nL) (hl : (i, va_rf x) :: lv.filter (fun q => !(q.1 == i) && !(q.1 + 1 == i && q.2.category == 2)) = lv') (kk : ∀ ls' : Array Slot, lv_has ls' nL lv' → W p l e R s m args below meth c H locs cells slots Q (F0 m (pc + 1) ls' rest)) : W p l e R s m args below meth c H locs cells slots Q (F0 m pc ls (va_rf x :: rest)) := by
  cases x with
  | none => exact lv_astore_nN hx hb hdg hi h hn hl kk
  | some y => exact lv_astore_n hx hb hdg hi h hn hl kk
theorem d_astore (hx : p.tables.exec = Jvm.exec) (hb : c.code = cc) {i nL : Nat} {x : Option Nat} {lv lv' : List (Nat × Value)} (hdg : decode cc pc = .ok (.astore i, 2)) (h : lv_has ls nL lv) (hn : i < nL) (hl : (i, va_rf x) :: lv.filter (fun q => !(q.1 == i) && !(q.1 + 1 == i && q.2.category == 2)) = lv') (kk : ∀ ls' : Array Slot, lv_has ls' nL lv' → W p l e R s m args below meth c H locs cells slots Q (F0 m (pc + 2) ls' rest)) : W p l e R s m args below meth c H locs cells slots Q (F0 m pc ls (va_rf x :: rest)) := by
  cases x with
  | none => exact lv_astoreN hx hb hdg h hn hl kk
  | some y => exact lv_astore hx hb hdg h hn hl kk
theorem d_ifnull (hx : p.tables.exec = Jvm.exec) (hb : c.code = cc) {x : Option Nat} {off : Int} {tgt : Nat} (hdg : decode cc pc = .ok (.ifnull off, 3)) (ht : (pc : Int) + off = (tgt : Int)) (kt : x = none → W p l e R s m args below meth c H locs cells slots Q (F0 m tgt ls rest)) (kf : ¬ x = none → W p l e R s m args below meth c H locs cells slots Q (F0 m (pc + 3) ls rest)) : W p l e R s m args below meth c H locs cells slots Q (F0 m pc ls (va_rf x :: rest)) := by
  cases x with
  | none => exact lv_ifnullN hx hb hdg ht (kt rfl)
  | some y => exact lv_ifnull hx hb hdg (kf (fun h => nomatch h))
theorem d_ifnonnull (hx : p.tables.exec = Jvm.exec) (hb : c.code = cc) {x : Option Nat} {off : Int} {tgt : Nat} (hdg : decode cc pc = .ok (.ifnonnull off, 3)) (ht : (pc : Int) + off = (tgt : Int)) (kt : ¬ x = none → W p l e R s m args below meth c H locs cells slots Q (F0 m tgt ls rest)) (kf : x = none → W p l e R s m args below meth c H locs cells slots Q (F0 m (pc + 3) ls rest)) : W p l e R s m args below meth c H locs cells slots Q (F0 m pc ls (va_rf x :: rest)) := by
  cases x with
  | none => exact lv_ifnonnullN hx hb hdg (kf rfl)
  | some y => exact lv_ifnonnull hx hb hdg ht (kt (fun h => nomatch h))
end DR
end
section
theorem un_0 : Cond.fieldLinkNest "PromiseDesk$Element" 23 "PromiseDesk" "threw" "Z" "PromiseDesk" ∈ dNW := List.mem_of_getElem? (i := 0) rfl
theorem un_1 : Cond.fieldLinkNest "PromiseDesk$Lastly" 25 "PromiseDesk" "threw" "Z" "PromiseDesk" ∈ dNW := List.mem_of_getElem? (i := 1) rfl
theorem un_2 : Cond.fieldLinkNest "PromiseDesk$Simple" 32 "PromiseDesk" "threw" "Z" "PromiseDesk" ∈ dNW := List.mem_of_getElem? (i := 2) rfl
theorem un_3 : Cond.methodLinkNest "PromiseDesk$Simple" 3 yX3_init "PromiseDesk" ∈ dNW := List.mem_of_getElem? (i := 3) rfl
theorem un_4 : Cond.methodLinkNest "PromiseDesk$Lastly" 3 yX3_init "PromiseDesk" ∈ dNW := List.mem_of_getElem? (i := 4) rfl
theorem un_5 : Cond.castable "[I" "java/lang/Cloneable" ∈ dNW := List.mem_of_getElem? (i := 5) rfl
theorem un_6 : Cond.methodLinkNest "PromiseDesk$Element" 3 yX3_init "PromiseDesk" ∈ dNW := List.mem_of_getElem? (i := 6) rfl
theorem un_7 : Cond.methodLinkNest "PromiseDesk$Simple" 28 yX11_note "PromiseDesk" ∈ dNW := List.mem_of_getElem? (i := 7) rfl
theorem un_8 : Cond.methodLinkNest "PromiseDesk$Simple" 36 yX11_resolve "PromiseDesk" ∈ dNW := List.mem_of_getElem? (i := 8) rfl
theorem un_9 : Cond.methodLinkNest "PromiseDesk$Simple" 40 yX11_reject "PromiseDesk" ∈ dNW := List.mem_of_getElem? (i := 9) rfl
theorem un_10 : Cond.methodLinkNest "PromiseDesk$Element" 31 yX11_newThing "PromiseDesk" ∈ dNW := List.mem_of_getElem? (i := 10) rfl
theorem un_11 : Cond.methodLinkNest "PromiseDesk$Element" 42 yX11_complete "PromiseDesk" ∈ dNW := List.mem_of_getElem? (i := 11) rfl
theorem un_12 : Cond.methodLinkNest "PromiseDesk$Lastly" 29 yX11_promiseFor "PromiseDesk" ∈ dNW := List.mem_of_getElem? (i := 12) rfl
theorem un_13 : Cond.methodLinkNest "PromiseDesk$Lastly" 36 yX11_derive "PromiseDesk" ∈ dNW := List.mem_of_getElem? (i := 13) rfl
theorem un_14 : Cond.castable "PromiseDesk$Promise" "PromiseDesk$Thing" ∈ dNW := List.mem_of_getElem? (i := 14) rfl
theorem un_15 : Cond.castable "PromiseDesk$Thenable" "PromiseDesk$Thing" ∈ dNW := List.mem_of_getElem? (i := 15) rfl
theorem un_16 : Cond.castable "PromiseDesk$Thing" "PromiseDesk$Thing" ∈ dNW := List.mem_of_getElem? (i := 16) rfl
theorem un_17 : Cond.castable "PromiseDesk$Promise" "PromiseDesk$Promise" ∈ dNW := List.mem_of_getElem? (i := 17) rfl
theorem un_18 : Cond.castable "PromiseDesk$Thenable" "PromiseDesk$Thenable" ∈ dNW := List.mem_of_getElem? (i := 18) rfl
theorem un_19 : Cond.castable "PromiseDesk$Simple" "PromiseDesk$Simple" ∈ dNW := List.mem_of_getElem? (i := 19) rfl
theorem un_20 : Cond.castable "PromiseDesk" "java/lang/Object" ∈ dNW := List.mem_of_getElem? (i := 20) rfl
theorem un_21 : Cond.castable "PromiseDeskModel" "java/lang/Object" ∈ dNW := List.mem_of_getElem? (i := 21) rfl
theorem un_22 : Cond.castable "PromiseDesk$Promise" "java/lang/Object" ∈ dNW := List.mem_of_getElem? (i := 22) rfl
theorem un_23 : Cond.castable "PromiseDesk$Resolvers" "java/lang/Object" ∈ dNW := List.mem_of_getElem? (i := 23) rfl
theorem un_24 : Cond.castable "PromiseDesk$Simple" "java/lang/Object" ∈ dNW := List.mem_of_getElem? (i := 24) rfl
theorem un_25 : Cond.castable "PromiseDesk$Thenable" "java/lang/Object" ∈ dNW := List.mem_of_getElem? (i := 25) rfl
theorem un_26 : Cond.castable "PromiseDesk$Thing" "java/lang/Object" ∈ dNW := List.mem_of_getElem? (i := 26) rfl
theorem un_27 : Cond.castable "PromiseDesk$Job" "java/lang/Object" ∈ dNW := List.mem_of_getElem? (i := 27) rfl
theorem un_28 : Cond.castable "PromiseDesk$Lastly" "java/lang/Object" ∈ dNW := List.mem_of_getElem? (i := 28) rfl
theorem un_29 : Cond.castable "PromiseDesk$Combination" "java/lang/Object" ∈ dNW := List.mem_of_getElem? (i := 29) rfl
theorem un_30 : Cond.castable "PromiseDesk$Element" "java/lang/Object" ∈ dNW := List.mem_of_getElem? (i := 30) rfl
theorem un_31 : Cond.castable "PromiseDesk$AsyncRun" "java/lang/Object" ∈ dNW := List.mem_of_getElem? (i := 31) rfl
theorem uc_0 : ("PromiseDesk$Thing", "PromiseDesk$Promise") ∈ dNC := List.mem_of_getElem? (i := 0) rfl
theorem uc_1 : ("PromiseDesk$Thenable", "PromiseDesk$Promise") ∈ dNC := List.mem_of_getElem? (i := 1) rfl
theorem uc_2 : ("PromiseDesk$Thing", "PromiseDesk$Thenable") ∈ dNC := List.mem_of_getElem? (i := 2) rfl
theorem uc_3 : ("PromiseDesk$Promise", "PromiseDesk$Thenable") ∈ dNC := List.mem_of_getElem? (i := 3) rfl
theorem ut_0 : (242, "no room for more objects") ∈ dTx := List.mem_of_getElem? (i := 0) rfl
theorem ut_1 : (218, "out of range") ∈ dTx := List.mem_of_getElem? (i := 1) rfl
theorem ut_2 : (223, "no value") ∈ dTx := List.mem_of_getElem? (i := 2) rfl
theorem ut_3 : (227, "no promise") ∈ dTx := List.mem_of_getElem? (i := 3) rfl
theorem ut_4 : (231, "not made by promise") ∈ dTx := List.mem_of_getElem? (i := 4) rfl
theorem ut_5 : (67, "no more handlers") ∈ dTx := List.mem_of_getElem? (i := 5) rfl
theorem ut_6 : (229, "no thenable") ∈ dTx := List.mem_of_getElem? (i := 6) rfl
theorem ut_7 : (138, "the list is full") ∈ dTx := List.mem_of_getElem? (i := 7) rfl
theorem ut_8 : (244, "the log is full") ∈ dTx := List.mem_of_getElem? (i := 8) rfl
theorem ut_9 : (225, "no object") ∈ dTx := List.mem_of_getElem? (i := 9) rfl
theorem ut_10 : (240, "it has no parts") ∈ dTx := List.mem_of_getElem? (i := 10) rfl
theorem ut_11 : (215, "nothing of that number is counted") ∈ dTx := List.mem_of_getElem? (i := 11) rfl
theorem inT_0 : ∀ w ∈ u_ws RJx4a65c TJx4a65c 3, w ∈ Tw := by decide +kernel
theorem ds_0_0 {G : DG} {S : DS} {a : Nat} (h : dK S a = 1) (x : Int32) : dF G (sI S 0 a x) a = .inr (0, (dfl_0 (fun g => dI S g a) (fun g => dP S g a)).set 0 (.int x)) := by rw [dF_0 (S := sI S 0 a x) h]; simp [dfl_0, sI, fset, dI]
theorem ds_0_1 {G : DG} {S : DS} {a : Nat} (h : dK S a = 1) (x : Option Nat) : dF G (sP S 1 a x) a = .inr (0, (dfl_0 (fun g => dI S g a) (fun g => dP S g a)).set 1 (va_rf x)) := by rw [dF_0 (S := sP S 1 a x) h]; simp [dfl_0, sP, fset, dP]
theorem ds_0_2 {G : DG} {S : DS} {a : Nat} (h : dK S a = 1) (x : Int32) : dF G (sI S 2 a x) a = .inr (0, (dfl_0 (fun g => dI S g a) (fun g => dP S g a)).set 2 (.int x)) := by rw [dF_0 (S := sI S 2 a x) h]; simp [dfl_0, sI, fset, dI]
theorem dw_0 {G : DG} : ∀ S : DS, dF G (sO S 1) (dn S) = .inr (0, [.int 0, .null, .int 0]) := fun S => by rw [dF_0 (S := sO S 1) (va_up_self _ _ _)]; simp [dfl_0, sO, va_up_self, va_rf, dI, dP]
theorem inT_1 : ∀ w ∈ u_ws RX0 TX0 5, w ∈ Tw := by decide +kernel
theorem ds_1_0 {G : DG} {S : DS} {a : Nat} (h : dK S a = 2) (x : Option Nat) : dF G (sP S 100 a x) a = .inr (1, (dfl_1 (fun g => dI S g a) (fun g => dP S g a)).set 0 (va_rf x)) := by rw [dF_1 (S := sP S 100 a x) h]; simp [dfl_1, sP, fset, dP]
theorem ds_1_1 {G : DG} {S : DS} {a : Nat} (h : dK S a = 2) (x : Option Nat) : dF G (sP S 101 a x) a = .inr (1, (dfl_1 (fun g => dI S g a) (fun g => dP S g a)).set 1 (va_rf x)) := by rw [dF_1 (S := sP S 101 a x) h]; simp [dfl_1, sP, fset, dP]
theorem ds_1_2 {G : DG} {S : DS} {a : Nat} (h : dK S a = 2) (x : Int32) : dF G (sI S 102 a x) a = .inr (1, (dfl_1 (fun g => dI S g a) (fun g => dP S g a)).set 2 (.int x)) := by rw [dF_1 (S := sI S 102 a x) h]; simp [dfl_1, sI, fset, dI]
theorem ds_1_3 {G : DG} {S : DS} {a : Nat} (h : dK S a = 2) (x : Option Nat) : dF G (sP S 103 a x) a = .inr (1, (dfl_1 (fun g => dI S g a) (fun g => dP S g a)).set 3 (va_rf x)) := by rw [dF_1 (S := sP S 103 a x) h]; simp [dfl_1, sP, fset, dP]
theorem ds_1_4 {G : DG} {S : DS} {a : Nat} (h : dK S a = 2) (x : Int32) : dF G (sI S 104 a x) a = .inr (1, (dfl_1 (fun g => dI S g a) (fun g => dP S g a)).set 4 (.int x)) := by rw [dF_1 (S := sI S 104 a x) h]; simp [dfl_1, sI, fset, dI]
theorem dw_1 {G : DG} : ∀ S : DS, dF G (sO S 2) (dn S) = .inr (1, [.null, .null, .int 0, .null, .int 0]) := fun S => by rw [dF_1 (S := sO S 2) (va_up_self _ _ _)]; simp [dfl_1, sO, va_up_self, va_rf, dI, dP]
theorem inT_2 : ∀ w ∈ u_ws RX1 TX1 4, w ∈ Tw := by decide +kernel
theorem ds_2_0 {G : DG} {S : DS} {a : Nat} (h : dK S a = 3) (x : Int32) : dF G (sI S 200 a x) a = .inr (2, (dfl_2 (fun g => dI S g a) (fun g => dP S g a)).set 0 (.int x)) := by rw [dF_2 (S := sI S 200 a x) h]; simp [dfl_2, sI, fset, dI]
theorem ds_2_1 {G : DG} {S : DS} {a : Nat} (h : dK S a = 3) (x : Option Nat) : dF G (sP S 201 a x) a = .inr (2, (dfl_2 (fun g => dI S g a) (fun g => dP S g a)).set 1 (va_rf x)) := by rw [dF_2 (S := sP S 201 a x) h]; simp [dfl_2, sP, fset, dP]
theorem ds_2_2 {G : DG} {S : DS} {a : Nat} (h : dK S a = 3) (x : Option Nat) : dF G (sP S 202 a x) a = .inr (2, (dfl_2 (fun g => dI S g a) (fun g => dP S g a)).set 2 (va_rf x)) := by rw [dF_2 (S := sP S 202 a x) h]; simp [dfl_2, sP, fset, dP]
theorem ds_2_3 {G : DG} {S : DS} {a : Nat} (h : dK S a = 3) (x : Int32) : dF G (sI S 203 a x) a = .inr (2, (dfl_2 (fun g => dI S g a) (fun g => dP S g a)).set 3 (.int x)) := by rw [dF_2 (S := sI S 203 a x) h]; simp [dfl_2, sI, fset, dI]
theorem dw_2 {G : DG} : ∀ S : DS, dF G (sO S 3) (dn S) = .inr (2, [.int 0, .null, .null, .int 0]) := fun S => by rw [dF_2 (S := sO S 3) (va_up_self _ _ _)]; simp [dfl_2, sO, va_up_self, va_rf, dI, dP]
theorem inT_3 : ∀ w ∈ u_ws RX2 TX2 3, w ∈ Tw := by decide +kernel
theorem ds_3_0 {G : DG} {S : DS} {a : Nat} (h : dK S a = 4) (x : Option Nat) : dF G (sP S 300 a x) a = .inr (3, (dfl_3 (fun g => dI S g a) (fun g => dP S g a)).set 0 (va_rf x)) := by rw [dF_3 (S := sP S 300 a x) h]; simp [dfl_3, sP, fset, dP]
theorem ds_3_1 {G : DG} {S : DS} {a : Nat} (h : dK S a = 4) (x : Int32) : dF G (sI S 301 a x) a = .inr (3, (dfl_3 (fun g => dI S g a) (fun g => dP S g a)).set 1 (.int x)) := by rw [dF_3 (S := sI S 301 a x) h]; simp [dfl_3, sI, fset, dI]
theorem ds_3_2 {G : DG} {S : DS} {a : Nat} (h : dK S a = 4) (x : Int32) : dF G (sI S 302 a x) a = .inr (3, (dfl_3 (fun g => dI S g a) (fun g => dP S g a)).set 2 (.int x)) := by rw [dF_3 (S := sI S 302 a x) h]; simp [dfl_3, sI, fset, dI]
theorem dw_3 {G : DG} : ∀ S : DS, dF G (sO S 4) (dn S) = .inr (3, [.null, .int 0, .int 0]) := fun S => by rw [dF_3 (S := sO S 4) (va_up_self _ _ _)]; simp [dfl_3, sO, va_up_self, va_rf, dI, dP]
theorem inT_4 : ∀ w ∈ u_ws RX4 TX4 8, w ∈ Tw := by decide +kernel
theorem ds_4_0 {G : DG} {S : DS} {a : Nat} (h : dK S a = 5) (x : Option Nat) : dF G (sP S 400 a x) a = .inr (4, (dfl_4 (fun g => dI S g a) (fun g => dP S g a)).set 0 (va_rf x)) := by rw [dF_4 (S := sP S 400 a x) h]; simp [dfl_4, sP, fset, dP]
theorem ds_4_1 {G : DG} {S : DS} {a : Nat} (h : dK S a = 5) (x : Option Nat) : dF G (sP S 401 a x) a = .inr (4, (dfl_4 (fun g => dI S g a) (fun g => dP S g a)).set 1 (va_rf x)) := by rw [dF_4 (S := sP S 401 a x) h]; simp [dfl_4, sP, fset, dP]
theorem ds_4_2 {G : DG} {S : DS} {a : Nat} (h : dK S a = 5) (x : Option Nat) : dF G (sP S 402 a x) a = .inr (4, (dfl_4 (fun g => dI S g a) (fun g => dP S g a)).set 2 (va_rf x)) := by rw [dF_4 (S := sP S 402 a x) h]; simp [dfl_4, sP, fset, dP]
theorem ds_4_3 {G : DG} {S : DS} {a : Nat} (h : dK S a = 5) (x : Option Nat) : dF G (sP S 403 a x) a = .inr (4, (dfl_4 (fun g => dI S g a) (fun g => dP S g a)).set 3 (va_rf x)) := by rw [dF_4 (S := sP S 403 a x) h]; simp [dfl_4, sP, fset, dP]
theorem ds_4_4 {G : DG} {S : DS} {a : Nat} (h : dK S a = 5) (x : Option Nat) : dF G (sP S 404 a x) a = .inr (4, (dfl_4 (fun g => dI S g a) (fun g => dP S g a)).set 4 (va_rf x)) := by rw [dF_4 (S := sP S 404 a x) h]; simp [dfl_4, sP, fset, dP]
theorem ds_4_5 {G : DG} {S : DS} {a : Nat} (h : dK S a = 5) (x : Int32) : dF G (sI S 405 a x) a = .inr (4, (dfl_4 (fun g => dI S g a) (fun g => dP S g a)).set 5 (.int x)) := by rw [dF_4 (S := sI S 405 a x) h]; simp [dfl_4, sI, fset, dI]
theorem ds_4_6 {G : DG} {S : DS} {a : Nat} (h : dK S a = 5) (x : Int32) : dF G (sI S 406 a x) a = .inr (4, (dfl_4 (fun g => dI S g a) (fun g => dP S g a)).set 6 (.int x)) := by rw [dF_4 (S := sI S 406 a x) h]; simp [dfl_4, sI, fset, dI]
theorem ds_4_7 {G : DG} {S : DS} {a : Nat} (h : dK S a = 5) (x : Option Nat) : dF G (sP S 407 a x) a = .inr (4, (dfl_4 (fun g => dI S g a) (fun g => dP S g a)).set 7 (va_rf x)) := by rw [dF_4 (S := sP S 407 a x) h]; simp [dfl_4, sP, fset, dP]
theorem dw_4 {G : DG} : ∀ S : DS, dF G (sO S 5) (dn S) = .inr (4, [.null, .null, .null, .null, .null, .int 0, .int 0, .null]) := fun S => by rw [dF_4 (S := sO S 5) (va_up_self _ _ _)]; simp [dfl_4, sO, va_up_self, va_rf, dI, dP]
theorem inT_5 : ∀ w ∈ u_ws RX5 TX5 2, w ∈ Tw := by decide +kernel
theorem ds_5_0 {G : DG} {S : DS} {a : Nat} (h : dK S a = 6) (x : Option Nat) : dF G (sP S 500 a x) a = .inr (5, (dfl_5 (fun g => dI S g a) (fun g => dP S g a)).set 0 (va_rf x)) := by rw [dF_5 (S := sP S 500 a x) h]; simp [dfl_5, sP, fset, dP]
theorem ds_5_1 {G : DG} {S : DS} {a : Nat} (h : dK S a = 6) (x : Int32) : dF G (sI S 501 a x) a = .inr (5, (dfl_5 (fun g => dI S g a) (fun g => dP S g a)).set 1 (.int x)) := by rw [dF_5 (S := sI S 501 a x) h]; simp [dfl_5, sI, fset, dI]
theorem dw_5 {G : DG} : ∀ S : DS, dF G (sO S 6) (dn S) = .inr (5, [.null, .int 0]) := fun S => by rw [dF_5 (S := sO S 6) (va_up_self _ _ _)]; simp [dfl_5, sO, va_up_self, va_rf, dI, dP]
theorem inT_6 : ∀ w ∈ u_ws RX6 TX6 9, w ∈ Tw := by decide +kernel
theorem ds_6_0 {G : DG} {S : DS} {a : Nat} (h : dK S a = 7) (x : Int32) : dF G (sI S 1000 a x) a = .inr (6, (dfl_6 (fun g => dI S g a) (fun g => dP S g a)).set 0 (.int x)) := by rw [dF_6 (S := sI S 1000 a x) h]; simp [dfl_6, sI, fset, dI]
theorem ds_6_1 {G : DG} {S : DS} {a : Nat} (h : dK S a = 7) (x : Int32) : dF G (sI S 1001 a x) a = .inr (6, (dfl_6 (fun g => dI S g a) (fun g => dP S g a)).set 1 (.int x)) := by rw [dF_6 (S := sI S 1001 a x) h]; simp [dfl_6, sI, fset, dI]
theorem ds_6_2 {G : DG} {S : DS} {a : Nat} (h : dK S a = 7) (x : Option Nat) : dF G (sP S 1002 a x) a = .inr (6, (dfl_6 (fun g => dI S g a) (fun g => dP S g a)).set 2 (va_rf x)) := by rw [dF_6 (S := sP S 1002 a x) h]; simp [dfl_6, sP, fset, dP]
theorem ds_6_3 {G : DG} {S : DS} {a : Nat} (h : dK S a = 7) (x : Int32) : dF G (sI S 603 a x) a = .inr (6, (dfl_6 (fun g => dI S g a) (fun g => dP S g a)).set 3 (.int x)) := by rw [dF_6 (S := sI S 603 a x) h]; simp [dfl_6, sI, fset, dI]
theorem ds_6_4 {G : DG} {S : DS} {a : Nat} (h : dK S a = 7) (x : Int32) : dF G (sI S 604 a x) a = .inr (6, (dfl_6 (fun g => dI S g a) (fun g => dP S g a)).set 4 (.int x)) := by rw [dF_6 (S := sI S 604 a x) h]; simp [dfl_6, sI, fset, dI]
theorem ds_6_5 {G : DG} {S : DS} {a : Nat} (h : dK S a = 7) (x : Int32) : dF G (sI S 605 a x) a = .inr (6, (dfl_6 (fun g => dI S g a) (fun g => dP S g a)).set 5 (.int x)) := by rw [dF_6 (S := sI S 605 a x) h]; simp [dfl_6, sI, fset, dI]
theorem ds_6_6 {G : DG} {S : DS} {a : Nat} (h : dK S a = 7) (x : Option Nat) : dF G (sP S 606 a x) a = .inr (6, (dfl_6 (fun g => dI S g a) (fun g => dP S g a)).set 6 (va_rf x)) := by rw [dF_6 (S := sP S 606 a x) h]; simp [dfl_6, sP, fset, dP]
theorem ds_6_7 {G : DG} {S : DS} {a : Nat} (h : dK S a = 7) (x : Option Nat) : dF G (sP S 607 a x) a = .inr (6, (dfl_6 (fun g => dI S g a) (fun g => dP S g a)).set 7 (va_rf x)) := by rw [dF_6 (S := sP S 607 a x) h]; simp [dfl_6, sP, fset, dP]
theorem ds_6_8 {G : DG} {S : DS} {a : Nat} (h : dK S a = 7) (x : Option Nat) : dF G (sP S 608 a x) a = .inr (6, (dfl_6 (fun g => dI S g a) (fun g => dP S g a)).set 8 (va_rf x)) := by rw [dF_6 (S := sP S 608 a x) h]; simp [dfl_6, sP, fset, dP]
theorem dw_6 {G : DG} : ∀ S : DS, dF G (sO S 7) (dn S) = .inr (6, [.int 0, .int 0, .null, .int 0, .int 0, .int 0, .null, .null, .null]) := fun S => by rw [dF_6 (S := sO S 7) (va_up_self _ _ _)]; simp [dfl_6, sO, va_up_self, va_rf, dI, dP]
theorem inT_7 : ∀ w ∈ u_ws RX7 TX7 2, w ∈ Tw := by decide +kernel
theorem ds_7_0 {G : DG} {S : DS} {a : Nat} (h : dK S a = 8) (x : Option Nat) : dF G (sP S 700 a x) a = .inr (7, (dfl_7 (fun g => dI S g a) (fun g => dP S g a)).set 0 (va_rf x)) := by rw [dF_7 (S := sP S 700 a x) h]; simp [dfl_7, sP, fset, dP]
theorem ds_7_1 {G : DG} {S : DS} {a : Nat} (h : dK S a = 8) (x : Int32) : dF G (sI S 701 a x) a = .inr (7, (dfl_7 (fun g => dI S g a) (fun g => dP S g a)).set 1 (.int x)) := by rw [dF_7 (S := sI S 701 a x) h]; simp [dfl_7, sI, fset, dI]
theorem dw_7 {G : DG} : ∀ S : DS, dF G (sO S 8) (dn S) = .inr (7, [.null, .int 0]) := fun S => by rw [dF_7 (S := sO S 8) (va_up_self _ _ _)]; simp [dfl_7, sO, va_up_self, va_rf, dI, dP]
theorem inT_8 : ∀ w ∈ u_ws RX8 TX8 4, w ∈ Tw := by decide +kernel
theorem ds_8_0 {G : DG} {S : DS} {a : Nat} (h : dK S a = 9) (x : Int32) : dF G (sI S 800 a x) a = .inr (8, (dfl_8 (fun g => dI S g a) (fun g => dP S g a)).set 0 (.int x)) := by rw [dF_8 (S := sI S 800 a x) h]; simp [dfl_8, sI, fset, dI]
theorem ds_8_1 {G : DG} {S : DS} {a : Nat} (h : dK S a = 9) (x : Int32) : dF G (sI S 801 a x) a = .inr (8, (dfl_8 (fun g => dI S g a) (fun g => dP S g a)).set 1 (.int x)) := by rw [dF_8 (S := sI S 801 a x) h]; simp [dfl_8, sI, fset, dI]
theorem ds_8_2 {G : DG} {S : DS} {a : Nat} (h : dK S a = 9) (x : Int32) : dF G (sI S 802 a x) a = .inr (8, (dfl_8 (fun g => dI S g a) (fun g => dP S g a)).set 2 (.int x)) := by rw [dF_8 (S := sI S 802 a x) h]; simp [dfl_8, sI, fset, dI]
theorem ds_8_3 {G : DG} {S : DS} {a : Nat} (h : dK S a = 9) (x : Option Nat) : dF G (sP S 803 a x) a = .inr (8, (dfl_8 (fun g => dI S g a) (fun g => dP S g a)).set 3 (va_rf x)) := by rw [dF_8 (S := sP S 803 a x) h]; simp [dfl_8, sP, fset, dP]
theorem dw_8 {G : DG} : ∀ S : DS, dF G (sO S 9) (dn S) = .inr (8, [.int 0, .int 0, .int 0, .null]) := fun S => by rw [dF_8 (S := sO S 9) (va_up_self _ _ _)]; simp [dfl_8, sO, va_up_self, va_rf, dI, dP]
theorem inT_9 : ∀ w ∈ u_ws RX9 TX9 9, w ∈ Tw := by decide +kernel
theorem ds_9_0 {G : DG} {S : DS} {a : Nat} (h : dK S a = 10) (x : Int32) : dF G (sI S 1000 a x) a = .inr (9, (dfl_9 (fun g => dI S g a) (fun g => dP S g a)).set 0 (.int x)) := by rw [dF_9 (S := sI S 1000 a x) h]; simp [dfl_9, sI, fset, dI]
theorem ds_9_1 {G : DG} {S : DS} {a : Nat} (h : dK S a = 10) (x : Int32) : dF G (sI S 1001 a x) a = .inr (9, (dfl_9 (fun g => dI S g a) (fun g => dP S g a)).set 1 (.int x)) := by rw [dF_9 (S := sI S 1001 a x) h]; simp [dfl_9, sI, fset, dI]
theorem ds_9_2 {G : DG} {S : DS} {a : Nat} (h : dK S a = 10) (x : Option Nat) : dF G (sP S 1002 a x) a = .inr (9, (dfl_9 (fun g => dI S g a) (fun g => dP S g a)).set 2 (va_rf x)) := by rw [dF_9 (S := sP S 1002 a x) h]; simp [dfl_9, sP, fset, dP]
theorem ds_9_3 {G : DG} {S : DS} {a : Nat} (h : dK S a = 10) (x : Int32) : dF G (sI S 903 a x) a = .inr (9, (dfl_9 (fun g => dI S g a) (fun g => dP S g a)).set 3 (.int x)) := by rw [dF_9 (S := sI S 903 a x) h]; simp [dfl_9, sI, fset, dI]
theorem ds_9_4 {G : DG} {S : DS} {a : Nat} (h : dK S a = 10) (x : Int32) : dF G (sI S 904 a x) a = .inr (9, (dfl_9 (fun g => dI S g a) (fun g => dP S g a)).set 4 (.int x)) := by rw [dF_9 (S := sI S 904 a x) h]; simp [dfl_9, sI, fset, dI]
theorem ds_9_5 {G : DG} {S : DS} {a : Nat} (h : dK S a = 10) (x : Int32) : dF G (sI S 905 a x) a = .inr (9, (dfl_9 (fun g => dI S g a) (fun g => dP S g a)).set 5 (.int x)) := by rw [dF_9 (S := sI S 905 a x) h]; simp [dfl_9, sI, fset, dI]
theorem ds_9_6 {G : DG} {S : DS} {a : Nat} (h : dK S a = 10) (x : Int32) : dF G (sI S 906 a x) a = .inr (9, (dfl_9 (fun g => dI S g a) (fun g => dP S g a)).set 6 (.int x)) := by rw [dF_9 (S := sI S 906 a x) h]; simp [dfl_9, sI, fset, dI]
theorem ds_9_7 {G : DG} {S : DS} {a : Nat} (h : dK S a = 10) (x : Int32) : dF G (sI S 907 a x) a = .inr (9, (dfl_9 (fun g => dI S g a) (fun g => dP S g a)).set 7 (.int x)) := by rw [dF_9 (S := sI S 907 a x) h]; simp [dfl_9, sI, fset, dI]
theorem ds_9_8 {G : DG} {S : DS} {a : Nat} (h : dK S a = 10) (x : Option Nat) : dF G (sP S 908 a x) a = .inr (9, (dfl_9 (fun g => dI S g a) (fun g => dP S g a)).set 8 (va_rf x)) := by rw [dF_9 (S := sP S 908 a x) h]; simp [dfl_9, sP, fset, dP]
theorem dw_9 {G : DG} : ∀ S : DS, dF G (sO S 10) (dn S) = .inr (9, [.int 0, .int 0, .null, .int 0, .int 0, .int 0, .int 0, .int 0, .null]) := fun S => by rw [dF_9 (S := sO S 10) (va_up_self _ _ _)]; simp [dfl_9, sO, va_up_self, va_rf, dI, dP]
theorem inT_10 : ∀ w ∈ u_ws RX10 TX10 3, w ∈ Tw := by decide +kernel
theorem ds_10_0 {G : DG} {S : DS} {a : Nat} (h : dK S a = 11) (x : Int32) : dF G (sI S 1000 a x) a = .inr (10, (dfl_10 (fun g => dI S g a) (fun g => dP S g a)).set 0 (.int x)) := by rw [dF_10 (S := sI S 1000 a x) h]; simp [dfl_10, sI, fset, dI]
theorem ds_10_1 {G : DG} {S : DS} {a : Nat} (h : dK S a = 11) (x : Int32) : dF G (sI S 1001 a x) a = .inr (10, (dfl_10 (fun g => dI S g a) (fun g => dP S g a)).set 1 (.int x)) := by rw [dF_10 (S := sI S 1001 a x) h]; simp [dfl_10, sI, fset, dI]
theorem ds_10_2 {G : DG} {S : DS} {a : Nat} (h : dK S a = 11) (x : Option Nat) : dF G (sP S 1002 a x) a = .inr (10, (dfl_10 (fun g => dI S g a) (fun g => dP S g a)).set 2 (va_rf x)) := by rw [dF_10 (S := sP S 1002 a x) h]; simp [dfl_10, sP, fset, dP]
theorem dw_10 {G : DG} : ∀ S : DS, dF G (sO S 11) (dn S) = .inr (10, [.int 0, .int 0, .null]) := fun S => by rw [dF_10 (S := sO S 11) (va_up_self _ _ _)]; simp [dfl_10, sO, va_up_self, va_rf, dI, dP]
theorem inT_11 : ∀ w ∈ u_ws RX11 TX11 10, w ∈ Tw := by decide +kernel
theorem ds_11_0 {G : DG} {S : DS} {a : Nat} (h : dK S a = 12) (x : Option Nat) : dF G (sP S 1100 a x) a = .inr (11, (dfl_11 (fun g => dI S g a) (fun g => dP S g a)).set 0 (va_rf x)) := by rw [dF_11 (S := sP S 1100 a x) h]; simp [dfl_11, sP, fset, dP]
theorem ds_11_1 {G : DG} {S : DS} {a : Nat} (h : dK S a = 12) (x : Option Nat) : dF G (sP S 1101 a x) a = .inr (11, (dfl_11 (fun g => dI S g a) (fun g => dP S g a)).set 1 (va_rf x)) := by rw [dF_11 (S := sP S 1101 a x) h]; simp [dfl_11, sP, fset, dP]
theorem ds_11_2 {G : DG} {S : DS} {a : Nat} (h : dK S a = 12) (x : Option Nat) : dF G (sP S 1102 a x) a = .inr (11, (dfl_11 (fun g => dI S g a) (fun g => dP S g a)).set 2 (va_rf x)) := by rw [dF_11 (S := sP S 1102 a x) h]; simp [dfl_11, sP, fset, dP]
theorem ds_11_3 {G : DG} {S : DS} {a : Nat} (h : dK S a = 12) (x : Int32) : dF G (sI S 1103 a x) a = .inr (11, (dfl_11 (fun g => dI S g a) (fun g => dP S g a)).set 3 (.int x)) := by rw [dF_11 (S := sI S 1103 a x) h]; simp [dfl_11, sI, fset, dI]
theorem ds_11_4 {G : DG} {S : DS} {a : Nat} (h : dK S a = 12) (x : Option Nat) : dF G (sP S 1104 a x) a = .inr (11, (dfl_11 (fun g => dI S g a) (fun g => dP S g a)).set 4 (va_rf x)) := by rw [dF_11 (S := sP S 1104 a x) h]; simp [dfl_11, sP, fset, dP]
theorem ds_11_5 {G : DG} {S : DS} {a : Nat} (h : dK S a = 12) (x : Int32) : dF G (sI S 1105 a x) a = .inr (11, (dfl_11 (fun g => dI S g a) (fun g => dP S g a)).set 5 (.int x)) := by rw [dF_11 (S := sI S 1105 a x) h]; simp [dfl_11, sI, fset, dI]
theorem ds_11_6 {G : DG} {S : DS} {a : Nat} (h : dK S a = 12) (x : Option Nat) : dF G (sP S 1106 a x) a = .inr (11, (dfl_11 (fun g => dI S g a) (fun g => dP S g a)).set 6 (va_rf x)) := by rw [dF_11 (S := sP S 1106 a x) h]; simp [dfl_11, sP, fset, dP]
theorem ds_11_7 {G : DG} {S : DS} {a : Nat} (h : dK S a = 12) (x : Option Nat) : dF G (sP S 1107 a x) a = .inr (11, (dfl_11 (fun g => dI S g a) (fun g => dP S g a)).set 7 (va_rf x)) := by rw [dF_11 (S := sP S 1107 a x) h]; simp [dfl_11, sP, fset, dP]
theorem ds_11_8 {G : DG} {S : DS} {a : Nat} (h : dK S a = 12) (x : Int32) : dF G (sI S 1108 a x) a = .inr (11, (dfl_11 (fun g => dI S g a) (fun g => dP S g a)).set 8 (.int x)) := by rw [dF_11 (S := sI S 1108 a x) h]; simp [dfl_11, sI, fset, dI]
theorem ds_11_9 {G : DG} {S : DS} {a : Nat} (h : dK S a = 12) (x : Int32) : dF G (sI S 1109 a x) a = .inr (11, (dfl_11 (fun g => dI S g a) (fun g => dP S g a)).set 9 (.int x)) := by rw [dF_11 (S := sI S 1109 a x) h]; simp [dfl_11, sI, fset, dI]
theorem dw_11 {G : DG} : ∀ S : DS, dF G (sO S 12) (dn S) = .inr (11, [.null, .null, .null, .int 0, .null, .int 0, .null, .null, .int 0, .int 0]) := fun S => by rw [dF_11 (S := sO S 12) (va_up_self _ _ _)]; simp [dfl_11, sO, va_up_self, va_rf, dI, dP]
end
