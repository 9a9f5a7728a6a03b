-- ===== PART A: goes FIRST, ahead of the names: the tables' words, and 'selects' of the private methods out of them =====
/-- a private method of a class that the tables say can be made, by its rows of tables_1 -/
def lw_okq (q : MethodName × Nat) : Prop := (q.1.cls ≠ "java/lang/invoke/MethodHandle" ∧ q.1.cls ≠ "java/lang/invoke/VarHandle") ∧ Cond.instantiable q.1.cls q.2 ∈ tables_1 ∧ Cond.privateMethod q.1 ∈ tables_1 ∧ Cond.instanceMethod q.1 ∈ tables_1
theorem lw_p0 : lw_okq (⟨"PipeMoments$History", "dropOldest", "()V"⟩, 2) := ⟨⟨by decide +kernel, by decide +kernel⟩, List.mem_of_getElem? (i := 51) (by decide +kernel), List.mem_of_getElem? (i := 173) (by decide +kernel), List.mem_of_getElem? (i := 174) (by decide +kernel)⟩
theorem lw_p1 : lw_okq (⟨"PipeMoments$Stream", "leastTickFor", "(I)I"⟩, 7) := ⟨⟨by decide +kernel, by decide +kernel⟩, List.mem_of_getElem? (i := 68) (by decide +kernel), List.mem_of_getElem? (i := 288) (by decide +kernel), List.mem_of_getElem? (i := 289) (by decide +kernel)⟩
theorem lw_p2 : lw_okq (⟨"PipeMoments$Stream", "begin", "()V"⟩, 7) := ⟨⟨by decide +kernel, by decide +kernel⟩, List.mem_of_getElem? (i := 68) (by decide +kernel), List.mem_of_getElem? (i := 292) (by decide +kernel), List.mem_of_getElem? (i := 293) (by decide +kernel)⟩
theorem lw_p3 : lw_okq (⟨"PipeMoments$Stream", "bind", "(II)V"⟩, 7) := ⟨⟨by decide +kernel, by decide +kernel⟩, List.mem_of_getElem? (i := 68) (by decide +kernel), List.mem_of_getElem? (i := 303) (by decide +kernel), List.mem_of_getElem? (i := 304) (by decide +kernel)⟩
theorem lw_p4 : lw_okq (⟨"PipeMoments$Stream", "moreBy", "(I)I"⟩, 7) := ⟨⟨by decide +kernel, by decide +kernel⟩, List.mem_of_getElem? (i := 68) (by decide +kernel), List.mem_of_getElem? (i := 316) (by decide +kernel), List.mem_of_getElem? (i := 317) (by decide +kernel)⟩
theorem lw_p5 : lw_okq (⟨"PipeMoments$Stream", "search", "(I)V"⟩, 7) := ⟨⟨by decide +kernel, by decide +kernel⟩, List.mem_of_getElem? (i := 68) (by decide +kernel), List.mem_of_getElem? (i := 321) (by decide +kernel), List.mem_of_getElem? (i := 322) (by decide +kernel)⟩
theorem lw_p6 : lw_okq (⟨"PipeMoments$Stream", "tryWay", "(III)V"⟩, 7) := ⟨⟨by decide +kernel, by decide +kernel⟩, List.mem_of_getElem? (i := 68) (by decide +kernel), List.mem_of_getElem? (i := 325) (by decide +kernel), List.mem_of_getElem? (i := 326) (by decide +kernel)⟩
theorem lw_p7 : lw_okq (⟨"PipeMoments$Stream", "spread", "(II)V"⟩, 7) := ⟨⟨by decide +kernel, by decide +kernel⟩, List.mem_of_getElem? (i := 68) (by decide +kernel), List.mem_of_getElem? (i := 329) (by decide +kernel), List.mem_of_getElem? (i := 330) (by decide +kernel)⟩
theorem lw_p8 : lw_okq (⟨"PipeMoments$Stream", "carryToArrival", "()I"⟩, 7) := ⟨⟨by decide +kernel, by decide +kernel⟩, List.mem_of_getElem? (i := 68) (by decide +kernel), List.mem_of_getElem? (i := 334) (by decide +kernel), List.mem_of_getElem? (i := 335) (by decide +kernel)⟩
theorem lw_p9 : lw_okq (⟨"PipeMoments$Stream", "mostBy", "(I)I"⟩, 7) := ⟨⟨by decide +kernel, by decide +kernel⟩, List.mem_of_getElem? (i := 68) (by decide +kernel), List.mem_of_getElem? (i := 351) (by decide +kernel), List.mem_of_getElem? (i := 352) (by decide +kernel)⟩
theorem lw_p10 : lw_okq (⟨"PipeMoments$Stream", "isNarrow", "(II)Z"⟩, 7) := ⟨⟨by decide +kernel, by decide +kernel⟩, List.mem_of_getElem? (i := 68) (by decide +kernel), List.mem_of_getElem? (i := 384) (by decide +kernel), List.mem_of_getElem? (i := 385) (by decide +kernel)⟩
theorem lw_p11 : lw_okq (⟨"PipeMoments$Settings", "readSetting", "()V"⟩, 9) := ⟨⟨by decide +kernel, by decide +kernel⟩, List.mem_of_getElem? (i := 98) (by decide +kernel), List.mem_of_getElem? (i := 473) (by decide +kernel), List.mem_of_getElem? (i := 474) (by decide +kernel)⟩
theorem lw_p12 : lw_okq (⟨"PipeMoments$Settings", "readForm", "(C)Z"⟩, 9) := ⟨⟨by decide +kernel, by decide +kernel⟩, List.mem_of_getElem? (i := 98) (by decide +kernel), List.mem_of_getElem? (i := 477) (by decide +kernel), List.mem_of_getElem? (i := 478) (by decide +kernel)⟩
theorem lw_p13 : lw_okq (⟨"PipeMoments$Settings", "readNumber", "(I)Z"⟩, 9) := ⟨⟨by decide +kernel, by decide +kernel⟩, List.mem_of_getElem? (i := 98) (by decide +kernel), List.mem_of_getElem? (i := 484) (by decide +kernel), List.mem_of_getElem? (i := 485) (by decide +kernel)⟩
theorem lw_p14 : lw_okq (⟨"PipeMoments$Settings", "isDigitNext", "()Z"⟩, 9) := ⟨⟨by decide +kernel, by decide +kernel⟩, List.mem_of_getElem? (i := 98) (by decide +kernel), List.mem_of_getElem? (i := 488) (by decide +kernel), List.mem_of_getElem? (i := 489) (by decide +kernel)⟩
theorem lw_p15 : lw_okq (⟨"PipeMoments$Settings", "readSign", "(C)Z"⟩, 9) := ⟨⟨by decide +kernel, by decide +kernel⟩, List.mem_of_getElem? (i := 98) (by decide +kernel), List.mem_of_getElem? (i := 493) (by decide +kernel), List.mem_of_getElem? (i := 494) (by decide +kernel)⟩
def lw_privs_1 : List (MethodName × Nat) := [(⟨"PipeMoments$History", "dropOldest", "()V"⟩, 2), (⟨"PipeMoments$Stream", "leastTickFor", "(I)I"⟩, 7), (⟨"PipeMoments$Stream", "begin", "()V"⟩, 7), (⟨"PipeMoments$Stream", "bind", "(II)V"⟩, 7), (⟨"PipeMoments$Stream", "moreBy", "(I)I"⟩, 7), (⟨"PipeMoments$Stream", "search", "(I)V"⟩, 7), (⟨"PipeMoments$Stream", "tryWay", "(III)V"⟩, 7), (⟨"PipeMoments$Stream", "spread", "(II)V"⟩, 7), (⟨"PipeMoments$Stream", "carryToArrival", "()I"⟩, 7), (⟨"PipeMoments$Stream", "mostBy", "(I)I"⟩, 7), (⟨"PipeMoments$Stream", "isNarrow", "(II)Z"⟩, 7), (⟨"PipeMoments$Settings", "readSetting", "()V"⟩, 9), (⟨"PipeMoments$Settings", "readForm", "(C)Z"⟩, 9), (⟨"PipeMoments$Settings", "readNumber", "(I)Z"⟩, 9), (⟨"PipeMoments$Settings", "isDigitNext", "()Z"⟩, 9), (⟨"PipeMoments$Settings", "readSign", "(C)Z"⟩, 9)]
theorem lw_r1 : ∀ q ∈ lw_privs_1, lw_okq q := List.forall_mem_cons.mpr ⟨lw_p0, List.forall_mem_cons.mpr ⟨lw_p1, List.forall_mem_cons.mpr ⟨lw_p2, List.forall_mem_cons.mpr ⟨lw_p3, List.forall_mem_cons.mpr ⟨lw_p4, List.forall_mem_cons.mpr ⟨lw_p5, List.forall_mem_cons.mpr ⟨lw_p6, List.forall_mem_cons.mpr ⟨lw_p7, List.forall_mem_cons.mpr ⟨lw_p8, List.forall_mem_cons.mpr ⟨lw_p9, List.forall_mem_cons.mpr ⟨lw_p10, List.forall_mem_cons.mpr ⟨lw_p11, List.forall_mem_cons.mpr ⟨lw_p12, List.forall_mem_cons.mpr ⟨lw_p13, List.forall_mem_cons.mpr ⟨lw_p14, List.forall_mem_cons.mpr ⟨lw_p15, fun _ h => absurd h List.not_mem_nil⟩⟩⟩⟩⟩⟩⟩⟩⟩⟩⟩⟩⟩⟩⟩⟩
theorem lw_p16 : lw_okq (⟨"PipeMoments$Settings", "badNumber", "(C)I"⟩, 9) := ⟨⟨by decide +kernel, by decide +kernel⟩, List.mem_of_getElem? (i := 98) (by decide +kernel), List.mem_of_getElem? (i := 497) (by decide +kernel), List.mem_of_getElem? (i := 498) (by decide +kernel)⟩
theorem lw_p17 : lw_okq (⟨"PipeMoments$Settings", "isBeyondLimit", "(C)Z"⟩, 9) := ⟨⟨by decide +kernel, by decide +kernel⟩, List.mem_of_getElem? (i := 98) (by decide +kernel), List.mem_of_getElem? (i := 505) (by decide +kernel), List.mem_of_getElem? (i := 506) (by decide +kernel)⟩
theorem lw_p18 : lw_okq (⟨"PipeMoments$Settings", "settle", "(C)V"⟩, 9) := ⟨⟨by decide +kernel, by decide +kernel⟩, List.mem_of_getElem? (i := 98) (by decide +kernel), List.mem_of_getElem? (i := 511) (by decide +kernel), List.mem_of_getElem? (i := 512) (by decide +kernel)⟩
theorem lw_p19 : lw_okq (⟨"PipeMomentsModel", "asIs", "()V"⟩, 23) := ⟨⟨by decide +kernel, by decide +kernel⟩, List.mem_of_getElem? (i := 527) (by decide +kernel), List.mem_of_getElem? (i := 533) (by decide +kernel), List.mem_of_getElem? (i := 534) (by decide +kernel)⟩
theorem lw_p20 : lw_okq (⟨"PipeMomentsModel", "keeps", "()V"⟩, 23) := ⟨⟨by decide +kernel, by decide +kernel⟩, List.mem_of_getElem? (i := 527) (by decide +kernel), List.mem_of_getElem? (i := 615) (by decide +kernel), List.mem_of_getElem? (i := 616) (by decide +kernel)⟩
theorem lw_p21 : lw_okq (⟨"PipeMomentsModel", "adds", "(II)I"⟩, 23) := ⟨⟨by decide +kernel, by decide +kernel⟩, List.mem_of_getElem? (i := 527) (by decide +kernel), List.mem_of_getElem? (i := 619) (by decide +kernel), List.mem_of_getElem? (i := 620) (by decide +kernel)⟩
theorem lw_p22 : lw_okq (⟨"PipeMomentsModel", "acted", "(I)I"⟩, 23) := ⟨⟨by decide +kernel, by decide +kernel⟩, List.mem_of_getElem? (i := 527) (by decide +kernel), List.mem_of_getElem? (i := 624) (by decide +kernel), List.mem_of_getElem? (i := 625) (by decide +kernel)⟩
theorem lw_p23 : lw_okq (⟨"PipeMomentsModel", "isPlace", "(I)Z"⟩, 23) := ⟨⟨by decide +kernel, by decide +kernel⟩, List.mem_of_getElem? (i := 527) (by decide +kernel), List.mem_of_getElem? (i := 632) (by decide +kernel), List.mem_of_getElem? (i := 633) (by decide +kernel)⟩
theorem lw_p24 : lw_okq (⟨"PipeMomentsModel", "lays", "(IIII)I"⟩, 23) := ⟨⟨by decide +kernel, by decide +kernel⟩, List.mem_of_getElem? (i := 527) (by decide +kernel), List.mem_of_getElem? (i := 636) (by decide +kernel), List.mem_of_getElem? (i := 637) (by decide +kernel)⟩
theorem lw_p25 : lw_okq (⟨"PipeMomentsModel", "isPipe", "(I)Z"⟩, 23) := ⟨⟨by decide +kernel, by decide +kernel⟩, List.mem_of_getElem? (i := 527) (by decide +kernel), List.mem_of_getElem? (i := 644) (by decide +kernel), List.mem_of_getElem? (i := 645) (by decide +kernel)⟩
theorem lw_p26 : lw_okq (⟨"PipeMomentsModel", "opens", "(III)I"⟩, 23) := ⟨⟨by decide +kernel, by decide +kernel⟩, List.mem_of_getElem? (i := 527) (by decide +kernel), List.mem_of_getElem? (i := 652) (by decide +kernel), List.mem_of_getElem? (i := 653) (by decide +kernel)⟩
theorem lw_p27 : lw_okq (⟨"PipeMomentsModel", "becomes", "(II)I"⟩, 23) := ⟨⟨by decide +kernel, by decide +kernel⟩, List.mem_of_getElem? (i := 527) (by decide +kernel), List.mem_of_getElem? (i := 660) (by decide +kernel), List.mem_of_getElem? (i := 661) (by decide +kernel)⟩
theorem lw_p28 : lw_okq (⟨"PipeMomentsModel", "pi", "(II)I"⟩, 23) := ⟨⟨by decide +kernel, by decide +kernel⟩, List.mem_of_getElem? (i := 527) (by decide +kernel), List.mem_of_getElem? (i := 676) (by decide +kernel), List.mem_of_getElem? (i := 677) (by decide +kernel)⟩
theorem lw_p29 : lw_okq (⟨"PipeMomentsModel", "pipesOf", "(II)I"⟩, 23) := ⟨⟨by decide +kernel, by decide +kernel⟩, List.mem_of_getElem? (i := 527) (by decide +kernel), List.mem_of_getElem? (i := 684) (by decide +kernel), List.mem_of_getElem? (i := 685) (by decide +kernel)⟩
theorem lw_p30 : lw_okq (⟨"PipeMomentsModel", "alone", "(I)I"⟩, 23) := ⟨⟨by decide +kernel, by decide +kernel⟩, List.mem_of_getElem? (i := 527) (by decide +kernel), List.mem_of_getElem? (i := 688) (by decide +kernel), List.mem_of_getElem? (i := 689) (by decide +kernel)⟩
theorem lw_p31 : lw_okq (⟨"PipeMomentsModel", "comes", "(I)I"⟩, 23) := ⟨⟨by decide +kernel, by decide +kernel⟩, List.mem_of_getElem? (i := 527) (by decide +kernel), List.mem_of_getElem? (i := 697) (by decide +kernel), List.mem_of_getElem? (i := 698) (by decide +kernel)⟩
def lw_privs_2 : List (MethodName × Nat) := [(⟨"PipeMoments$Settings", "badNumber", "(C)I"⟩, 9), (⟨"PipeMoments$Settings", "isBeyondLimit", "(C)Z"⟩, 9), (⟨"PipeMoments$Settings", "settle", "(C)V"⟩, 9), (⟨"PipeMomentsModel", "asIs", "()V"⟩, 23), (⟨"PipeMomentsModel", "keeps", "()V"⟩, 23), (⟨"PipeMomentsModel", "adds", "(II)I"⟩, 23), (⟨"PipeMomentsModel", "acted", "(I)I"⟩, 23), (⟨"PipeMomentsModel", "isPlace", "(I)Z"⟩, 23), (⟨"PipeMomentsModel", "lays", "(IIII)I"⟩, 23), (⟨"PipeMomentsModel", "isPipe", "(I)Z"⟩, 23), (⟨"PipeMomentsModel", "opens", "(III)I"⟩, 23), (⟨"PipeMomentsModel", "becomes", "(II)I"⟩, 23), (⟨"PipeMomentsModel", "pi", "(II)I"⟩, 23), (⟨"PipeMomentsModel", "pipesOf", "(II)I"⟩, 23), (⟨"PipeMomentsModel", "alone", "(I)I"⟩, 23), (⟨"PipeMomentsModel", "comes", "(I)I"⟩, 23)]
theorem lw_r2 : ∀ q ∈ lw_privs_2, lw_okq q := List.forall_mem_cons.mpr ⟨lw_p16, List.forall_mem_cons.mpr ⟨lw_p17, List.forall_mem_cons.mpr ⟨lw_p18, List.forall_mem_cons.mpr ⟨lw_p19, List.forall_mem_cons.mpr ⟨lw_p20, List.forall_mem_cons.mpr ⟨lw_p21, List.forall_mem_cons.mpr ⟨lw_p22, List.forall_mem_cons.mpr ⟨lw_p23, List.forall_mem_cons.mpr ⟨lw_p24, List.forall_mem_cons.mpr ⟨lw_p25, List.forall_mem_cons.mpr ⟨lw_p26, List.forall_mem_cons.mpr ⟨lw_p27, List.forall_mem_cons.mpr ⟨lw_p28, List.forall_mem_cons.mpr ⟨lw_p29, List.forall_mem_cons.mpr ⟨lw_p30, List.forall_mem_cons.mpr ⟨lw_p31, fun _ h => absurd h List.not_mem_nil⟩⟩⟩⟩⟩⟩⟩⟩⟩⟩⟩⟩⟩⟩⟩⟩
theorem lw_p32 : lw_okq (⟨"PipeMomentsModel", "finds", "()Z"⟩, 23) := ⟨⟨by decide +kernel, by decide +kernel⟩, List.mem_of_getElem? (i := 527) (by decide +kernel), List.mem_of_getElem? (i := 701) (by decide +kernel), List.mem_of_getElem? (i := 702) (by decide +kernel)⟩
theorem lw_p33 : lw_okq (⟨"PipeMomentsModel", "unitsOf", "(I)I"⟩, 23) := ⟨⟨by decide +kernel, by decide +kernel⟩, List.mem_of_getElem? (i := 527) (by decide +kernel), List.mem_of_getElem? (i := 705) (by decide +kernel), List.mem_of_getElem? (i := 706) (by decide +kernel)⟩
theorem lw_p34 : lw_okq (⟨"PipeMomentsModel", "reaches", "(III)V"⟩, 23) := ⟨⟨by decide +kernel, by decide +kernel⟩, List.mem_of_getElem? (i := 527) (by decide +kernel), List.mem_of_getElem? (i := 710) (by decide +kernel), List.mem_of_getElem? (i := 711) (by decide +kernel)⟩
theorem lw_p35 : lw_okq (⟨"PipeMomentsModel", "looks", "(I)V"⟩, 23) := ⟨⟨by decide +kernel, by decide +kernel⟩, List.mem_of_getElem? (i := 527) (by decide +kernel), List.mem_of_getElem? (i := 714) (by decide +kernel), List.mem_of_getElem? (i := 715) (by decide +kernel)⟩
theorem lw_p36 : lw_okq (⟨"PipeMomentsModel", "roomOf", "(I)I"⟩, 23) := ⟨⟨by decide +kernel, by decide +kernel⟩, List.mem_of_getElem? (i := 527) (by decide +kernel), List.mem_of_getElem? (i := 718) (by decide +kernel), List.mem_of_getElem? (i := 719) (by decide +kernel)⟩
theorem lw_p37 : lw_okq (⟨"PipeMomentsModel", "isOpen", "(II)Z"⟩, 23) := ⟨⟨by decide +kernel, by decide +kernel⟩, List.mem_of_getElem? (i := 527) (by decide +kernel), List.mem_of_getElem? (i := 722) (by decide +kernel), List.mem_of_getElem? (i := 723) (by decide +kernel)⟩
theorem lw_p38 : lw_okq (⟨"PipeMomentsModel", "goes", "()V"⟩, 23) := ⟨⟨by decide +kernel, by decide +kernel⟩, List.mem_of_getElem? (i := 527) (by decide +kernel), List.mem_of_getElem? (i := 726) (by decide +kernel), List.mem_of_getElem? (i := 727) (by decide +kernel)⟩
theorem lw_p39 : lw_okq (⟨"PipeMomentsModel", "all", "()I"⟩, 23) := ⟨⟨by decide +kernel, by decide +kernel⟩, List.mem_of_getElem? (i := 527) (by decide +kernel), List.mem_of_getElem? (i := 734) (by decide +kernel), List.mem_of_getElem? (i := 735) (by decide +kernel)⟩
theorem lw_p40 : lw_okq (⟨"PipeMomentsModel", "isNarrow", "(I)Z"⟩, 23) := ⟨⟨by decide +kernel, by decide +kernel⟩, List.mem_of_getElem? (i := 527) (by decide +kernel), List.mem_of_getElem? (i := 746) (by decide +kernel), List.mem_of_getElem? (i := 747) (by decide +kernel)⟩
theorem lw_p41 : lw_okq (⟨"PipeMomentsModel", "bounds", "()I"⟩, 23) := ⟨⟨by decide +kernel, by decide +kernel⟩, List.mem_of_getElem? (i := 527) (by decide +kernel), List.mem_of_getElem? (i := 770) (by decide +kernel), List.mem_of_getElem? (i := 771) (by decide +kernel)⟩
theorem lw_p42 : lw_okq (⟨"PipeMomentsModel", "faulty", "()I"⟩, 23) := ⟨⟨by decide +kernel, by decide +kernel⟩, List.mem_of_getElem? (i := 527) (by decide +kernel), List.mem_of_getElem? (i := 791) (by decide +kernel), List.mem_of_getElem? (i := 792) (by decide +kernel)⟩
theorem lw_p43 : lw_okq (⟨"PipeMomentsModel", "doesNext", "()I"⟩, 23) := ⟨⟨by decide +kernel, by decide +kernel⟩, List.mem_of_getElem? (i := 527) (by decide +kernel), List.mem_of_getElem? (i := 795) (by decide +kernel), List.mem_of_getElem? (i := 796) (by decide +kernel)⟩
theorem lw_p44 : lw_okq (⟨"PipeMomentsModel", "sign", "()I"⟩, 23) := ⟨⟨by decide +kernel, by decide +kernel⟩, List.mem_of_getElem? (i := 527) (by decide +kernel), List.mem_of_getElem? (i := 799) (by decide +kernel), List.mem_of_getElem? (i := 800) (by decide +kernel)⟩
theorem lw_p45 : lw_okq (⟨"PipeMomentsModel", "reads", "(I)Z"⟩, 23) := ⟨⟨by decide +kernel, by decide +kernel⟩, List.mem_of_getElem? (i := 527) (by decide +kernel), List.mem_of_getElem? (i := 803) (by decide +kernel), List.mem_of_getElem? (i := 804) (by decide +kernel)⟩
theorem lw_p46 : lw_okq (⟨"PipeMomentsModel", "readsNumber", "(I)Z"⟩, 23) := ⟨⟨by decide +kernel, by decide +kernel⟩, List.mem_of_getElem? (i := 527) (by decide +kernel), List.mem_of_getElem? (i := 807) (by decide +kernel), List.mem_of_getElem? (i := 808) (by decide +kernel)⟩
theorem lw_p47 : lw_okq (⟨"PipeMomentsModel", "isRight", "(II)Z"⟩, 23) := ⟨⟨by decide +kernel, by decide +kernel⟩, List.mem_of_getElem? (i := 527) (by decide +kernel), List.mem_of_getElem? (i := 811) (by decide +kernel), List.mem_of_getElem? (i := 812) (by decide +kernel)⟩
def lw_privs_3 : List (MethodName × Nat) := [(⟨"PipeMomentsModel", "finds", "()Z"⟩, 23), (⟨"PipeMomentsModel", "unitsOf", "(I)I"⟩, 23), (⟨"PipeMomentsModel", "reaches", "(III)V"⟩, 23), (⟨"PipeMomentsModel", "looks", "(I)V"⟩, 23), (⟨"PipeMomentsModel", "roomOf", "(I)I"⟩, 23), (⟨"PipeMomentsModel", "isOpen", "(II)Z"⟩, 23), (⟨"PipeMomentsModel", "goes", "()V"⟩, 23), (⟨"PipeMomentsModel", "all", "()I"⟩, 23), (⟨"PipeMomentsModel", "isNarrow", "(I)Z"⟩, 23), (⟨"PipeMomentsModel", "bounds", "()I"⟩, 23), (⟨"PipeMomentsModel", "faulty", "()I"⟩, 23), (⟨"PipeMomentsModel", "doesNext", "()I"⟩, 23), (⟨"PipeMomentsModel", "sign", "()I"⟩, 23), (⟨"PipeMomentsModel", "reads", "(I)Z"⟩, 23), (⟨"PipeMomentsModel", "readsNumber", "(I)Z"⟩, 23), (⟨"PipeMomentsModel", "isRight", "(II)Z"⟩, 23)]
theorem lw_r3 : ∀ q ∈ lw_privs_3, lw_okq q := List.forall_mem_cons.mpr ⟨lw_p32, List.forall_mem_cons.mpr ⟨lw_p33, List.forall_mem_cons.mpr ⟨lw_p34, List.forall_mem_cons.mpr ⟨lw_p35, List.forall_mem_cons.mpr ⟨lw_p36, List.forall_mem_cons.mpr ⟨lw_p37, List.forall_mem_cons.mpr ⟨lw_p38, List.forall_mem_cons.mpr ⟨lw_p39, List.forall_mem_cons.mpr ⟨lw_p40, List.forall_mem_cons.mpr ⟨lw_p41, List.forall_mem_cons.mpr ⟨lw_p42, List.forall_mem_cons.mpr ⟨lw_p43, List.forall_mem_cons.mpr ⟨lw_p44, List.forall_mem_cons.mpr ⟨lw_p45, List.forall_mem_cons.mpr ⟨lw_p46, List.forall_mem_cons.mpr ⟨lw_p47, fun _ h => absurd h List.not_mem_nil⟩⟩⟩⟩⟩⟩⟩⟩⟩⟩⟩⟩⟩⟩⟩⟩
theorem lw_p48 : lw_okq (⟨"PipeMomentsModel", "does", "(I)I"⟩, 23) := ⟨⟨by decide +kernel, by decide +kernel⟩, List.mem_of_getElem? (i := 527) (by decide +kernel), List.mem_of_getElem? (i := 815) (by decide +kernel), List.mem_of_getElem? (i := 816) (by decide +kernel)⟩
def lw_privs_4 : List (MethodName × Nat) := [(⟨"PipeMomentsModel", "does", "(I)I"⟩, 23)]
theorem lw_r4 : ∀ q ∈ lw_privs_4, lw_okq q := List.forall_mem_cons.mpr ⟨lw_p48, fun _ h => absurd h List.not_mem_nil⟩
def lw_privs : List (MethodName × Nat) := lw_privs_1 ++ (lw_privs_2 ++ (lw_privs_3 ++ (lw_privs_4)))
def lw_tbl : List Cond := k2_sels lw_privs ++ tables_1
theorem lw_privs_ok : ∀ q ∈ lw_privs, lw_okq q := by
  show ∀ q ∈ lw_privs_1 ++ (lw_privs_2 ++ (lw_privs_3 ++ (lw_privs_4))), lw_okq q
  exact List.forall_mem_append.mpr ⟨lw_r1, List.forall_mem_append.mpr ⟨lw_r2, List.forall_mem_append.mpr ⟨lw_r3, lw_r4⟩⟩⟩

def RX0 : String := "PipeMoments$History"
def TX0 : u_T := fun k => match k with
  | 0 => ("PipeMoments$History", "states", "[LPipeMoments$Layout;", true)
  | _ => ("PipeMoments$History", "kept", "I", false)
def tyX0 : Nat → FieldType := fun k => match k with
  | 0 => .array (.object "PipeMoments$Layout")
  | _ => .int
abbrev wsX00 : List Cond := u_ws RX0 TX0 2
theorem nmX0 : ∀ a, a < 2 → ∀ b, b < 2 → a ≠ b → (TX0 a).2.1 ≠ (TX0 b).2.1 := by decide +kernel
theorem tyX0_ok : ∀ k, k < 2 → parseFieldDescriptor (TX0 k).2.2.1 = some (tyX0 k) := by decide +kernel
abbrev cX0_init : ByteArray := prog_2_method_1_code
def yX0_init : MethodName := ⟨RX0, "<init>", "()V"⟩
abbrev cX0_keep : ByteArray := prog_2_method_2_code
def yX0_keep : MethodName := ⟨RX0, "keep", "(LPipeMoments$Layout;)V"⟩
abbrev cX0_restore : ByteArray := prog_2_method_3_code
def yX0_restore : MethodName := ⟨RX0, "restore", "(LPipeMoments$Layout;)V"⟩
abbrev cX0_dropOldest : ByteArray := prog_2_method_4_code
def yX0_dropOldest : MethodName := ⟨RX0, "dropOldest", "()V"⟩
def RX1 : String := "PipeMoments$Layout"
def TX1 : u_T := fun k => match k with
  | 0 => ("PipeMoments$Layout", "unitsAt", "[I", true)
  | 1 => ("PipeMoments$Layout", "roomAt", "[I", true)
  | 2 => ("PipeMoments$Layout", "parts", "[I", true)
  | 3 => ("PipeMoments$Layout", "placeCount", "I", false)
  | _ => ("PipeMoments$Layout", "pipeCount", "I", false)
def tyX1 : Nat → FieldType := fun k => match k with
  | 0 => .array .int
  | 1 => .array .int
  | 2 => .array .int
  | 3 => .int
  | _ => .int
abbrev wsX10 : List Cond := u_ws RX1 TX1 5
theorem nmX1 : ∀ a, a < 5 → ∀ b, b < 5 → a ≠ b → (TX1 a).2.1 ≠ (TX1 b).2.1 := by decide +kernel
theorem tyX1_ok : ∀ k, k < 5 → parseFieldDescriptor (TX1 k).2.2.1 = some (tyX1 k) := by decide +kernel
abbrev cX1_init : ByteArray := prog_3_method_1_code
def yX1_init : MethodName := ⟨RX1, "<init>", "()V"⟩
abbrev cX1_copyFrom : ByteArray := prog_3_method_2_code
def yX1_copyFrom : MethodName := ⟨RX1, "copyFrom", "(LPipeMoments$Layout;)V"⟩
abbrev cX1_isPlace : ByteArray := prog_3_method_3_code
def yX1_isPlace : MethodName := ⟨RX1, "isPlace", "(I)Z"⟩
abbrev cX1_isPipe : ByteArray := prog_3_method_4_code
def yX1_isPipe : MethodName := ⟨RX1, "isPipe", "(I)Z"⟩
abbrev cX1_placesAreFull : ByteArray := prog_3_method_5_code
def yX1_placesAreFull : MethodName := ⟨RX1, "placesAreFull", "()Z"⟩
abbrev cX1_pipesAreFull : ByteArray := prog_3_method_6_code
def yX1_pipesAreFull : MethodName := ⟨RX1, "pipesAreFull", "()Z"⟩
abbrev cX1_badOfPlace : ByteArray := prog_3_method_7_code
def yX1_badOfPlace : MethodName := ⟨RX1, "badOfPlace", "(II)I"⟩
abbrev cX1_badOfPipe : ByteArray := prog_3_method_8_code
def yX1_badOfPipe : MethodName := ⟨RX1, "badOfPipe", "(IIII)I"⟩
abbrev cX1_badOfOpening : ByteArray := prog_3_method_9_code
def yX1_badOfOpening : MethodName := ⟨RX1, "badOfOpening", "(III)I"⟩
abbrev cX1_badOfUnits : ByteArray := prog_3_method_10_code
def yX1_badOfUnits : MethodName := ⟨RX1, "badOfUnits", "(II)I"⟩
abbrev cX1_addPlace : ByteArray := prog_3_method_11_code
def yX1_addPlace : MethodName := ⟨RX1, "addPlace", "(II)I"⟩
abbrev cX1_addPipe : ByteArray := prog_3_method_12_code
def yX1_addPipe : MethodName := ⟨RX1, "addPipe", "(IIII)I"⟩
abbrev cX1_removePipe : ByteArray := prog_3_method_13_code
def yX1_removePipe : MethodName := ⟨RX1, "removePipe", "(I)V"⟩
abbrev cX1_setOpening : ByteArray := prog_3_method_14_code
def yX1_setOpening : MethodName := ⟨RX1, "setOpening", "(III)V"⟩
abbrev cX1_partOf : ByteArray := prog_3_method_15_code
def yX1_partOf : MethodName := ⟨RX1, "partOf", "(II)I"⟩
abbrev cX1_setPart : ByteArray := prog_3_method_16_code
def yX1_setPart : MethodName := ⟨RX1, "setPart", "(III)V"⟩
abbrev cX1_boundIn : ByteArray := prog_3_method_17_code
def yX1_boundIn : MethodName := ⟨RX1, "boundIn", "(II)I"⟩
abbrev cX1_pipesWith : ByteArray := prog_3_method_18_code
def yX1_pipesWith : MethodName := ⟨RX1, "pipesWith", "(II)I"⟩
abbrev cX1_allUnits : ByteArray := prog_3_method_19_code
def yX1_allUnits : MethodName := ⟨RX1, "allUnits", "()I"⟩
abbrev cX1_allBounds : ByteArray := prog_3_method_20_code
def yX1_allBounds : MethodName := ⟨RX1, "allBounds", "()I"⟩
def RX2 : String := "PipeMoments$Settings"
def TX2 : u_T := fun k => match k with
  | 0 => ("PipeMoments$Settings", "signs", "[C", true)
  | 1 => ("PipeMoments$Settings", "numbers", "[I", true)
  | 2 => ("PipeMoments$Settings", "trial", "LPipeMoments$Layout;", true)
  | 3 => ("PipeMoments$Settings", "length", "I", false)
  | 4 => ("PipeMoments$Settings", "next", "I", false)
  | 5 => ("PipeMoments$Settings", "start", "I", false)
  | 6 => ("PipeMoments$Settings", "reason", "I", false)
  | 7 => ("PipeMoments$Settings", "cause", "I", false)
  | _ => ("PipeMoments$Settings", "settled", "I", false)
def tyX2 : Nat → FieldType := fun k => match k with
  | 0 => .array .char
  | 1 => .array .int
  | 2 => .object "PipeMoments$Layout"
  | 3 => .int
  | 4 => .int
  | 5 => .int
  | 6 => .int
  | 7 => .int
  | _ => .int
abbrev wsX20 : List Cond := u_ws RX2 TX2 9
theorem nmX2 : ∀ a, a < 9 → ∀ b, b < 9 → a ≠ b → (TX2 a).2.1 ≠ (TX2 b).2.1 := by decide +kernel
theorem tyX2_ok : ∀ k, k < 9 → parseFieldDescriptor (TX2 k).2.2.1 = some (tyX2 k) := by decide +kernel
abbrev cX2_init : ByteArray := prog_4_method_1_code
def yX2_init : MethodName := ⟨RX2, "<init>", "()V"⟩
abbrev cX2_append : ByteArray := prog_4_method_2_code
def yX2_append : MethodName := ⟨RX2, "append", "(C)I"⟩
abbrev cX2_empty : ByteArray := prog_4_method_3_code
def yX2_empty : MethodName := ⟨RX2, "empty", "()I"⟩
abbrev cX2_faultPart : ByteArray := prog_4_method_4_code
def yX2_faultPart : MethodName := ⟨RX2, "faultPart", "(I)I"⟩
abbrev cX2_read : ByteArray := prog_4_method_5_code
def yX2_read : MethodName := ⟨RX2, "read", "(LPipeMoments$Layout;)V"⟩
abbrev cX2_readSetting : ByteArray := prog_4_method_6_code
def yX2_readSetting : MethodName := ⟨RX2, "readSetting", "()V"⟩
abbrev cX2_readForm : ByteArray := prog_4_method_7_code
def yX2_readForm : MethodName := ⟨RX2, "readForm", "(C)Z"⟩
abbrev cX2_numbersOf : ByteArray := prog_4_method_8_code
def yX2_numbersOf : MethodName := ⟨RX2, "numbersOf", "(C)I"⟩
abbrev cX2_readNumber : ByteArray := prog_4_method_9_code
def yX2_readNumber : MethodName := ⟨RX2, "readNumber", "(I)Z"⟩
abbrev cX2_isDigitNext : ByteArray := prog_4_method_10_code
def yX2_isDigitNext : MethodName := ⟨RX2, "isDigitNext", "()Z"⟩
abbrev cX2_readSign : ByteArray := prog_4_method_11_code
def yX2_readSign : MethodName := ⟨RX2, "readSign", "(C)Z"⟩
abbrev cX2_badNumber : ByteArray := prog_4_method_12_code
def yX2_badNumber : MethodName := ⟨RX2, "badNumber", "(C)I"⟩
abbrev cX2_isBeyondLimit : ByteArray := prog_4_method_13_code
def yX2_isBeyondLimit : MethodName := ⟨RX2, "isBeyondLimit", "(C)Z"⟩
abbrev cX2_settle : ByteArray := prog_4_method_14_code
def yX2_settle : MethodName := ⟨RX2, "settle", "(C)V"⟩
def RX3 : String := "PipeMoments$Stream"
def TX3 : u_T := fun k => match k with
  | 0 => ("PipeMoments$Stream", "net", "LPipeMoments$Layout;", true)
  | 1 => ("PipeMoments$Stream", "left", "[I", true)
  | 2 => ("PipeMoments$Stream", "reachedBy", "[I", true)
  | 3 => ("PipeMoments$Stream", "reachedFrom", "[I", true)
  | 4 => ("PipeMoments$Stream", "queue", "[I", true)
  | 5 => ("PipeMoments$Stream", "queued", "I", false)
  | _ => ("PipeMoments$Stream", "arrival", "I", false)
def tyX3 : Nat → FieldType := fun k => match k with
  | 0 => .object "PipeMoments$Layout"
  | 1 => .array .int
  | 2 => .array .int
  | 3 => .array .int
  | 4 => .array .int
  | 5 => .int
  | _ => .int
abbrev wsX30 : List Cond := u_ws RX3 TX3 7
theorem nmX3 : ∀ a, a < 7 → ∀ b, b < 7 → a ≠ b → (TX3 a).2.1 ≠ (TX3 b).2.1 := by decide +kernel
theorem tyX3_ok : ∀ k, k < 7 → parseFieldDescriptor (TX3 k).2.2.1 = some (tyX3 k) := by decide +kernel
abbrev cX3_init : ByteArray := prog_5_method_1_code
def yX3_init : MethodName := ⟨RX3, "<init>", "()V"⟩
abbrev cX3_most : ByteArray := prog_5_method_2_code
def yX3_most : MethodName := ⟨RX3, "most", "(LPipeMoments$Layout;I)I"⟩
abbrev cX3_mostWithout : ByteArray := prog_5_method_3_code
def yX3_mostWithout : MethodName := ⟨RX3, "mostWithout", "(LPipeMoments$Layout;II)I"⟩
abbrev cX3_mostWider : ByteArray := prog_5_method_4_code
def yX3_mostWider : MethodName := ⟨RX3, "mostWider", "(LPipeMoments$Layout;II)I"⟩
abbrev cX3_mostWithUnit : ByteArray := prog_5_method_5_code
def yX3_mostWithUnit : MethodName := ⟨RX3, "mostWithUnit", "(LPipeMoments$Layout;II)I"⟩
abbrev cX3_mostRepeated : ByteArray := prog_5_method_6_code
def yX3_mostRepeated : MethodName := ⟨RX3, "mostRepeated", "(LPipeMoments$Layout;II)I"⟩
abbrev cX3_leastTick : ByteArray := prog_5_method_7_code
def yX3_leastTick : MethodName := ⟨RX3, "leastTick", "(LPipeMoments$Layout;I)I"⟩
abbrev cX3_leastTickAlone : ByteArray := prog_5_method_8_code
def yX3_leastTickAlone : MethodName := ⟨RX3, "leastTickAlone", "(LPipeMoments$Layout;I)I"⟩
abbrev cX3_usedPipes : ByteArray := prog_5_method_9_code
def yX3_usedPipes : MethodName := ⟨RX3, "usedPipes", "()I"⟩
abbrev cX3_isWanting : ByteArray := prog_5_method_10_code
def yX3_isWanting : MethodName := ⟨RX3, "isWanting", "(II)Z"⟩
abbrev cX3_narrowPipes : ByteArray := prog_5_method_11_code
def yX3_narrowPipes : MethodName := ⟨RX3, "narrowPipes", "(I)I"⟩
abbrev cX3_isNarrow : ByteArray := prog_5_method_12_code
def yX3_isNarrow : MethodName := ⟨RX3, "isNarrow", "(II)Z"⟩
abbrev cX3_mostBy : ByteArray := prog_5_method_13_code
def yX3_mostBy : MethodName := ⟨RX3, "mostBy", "(I)I"⟩
abbrev cX3_leastTickFor : ByteArray := prog_5_method_14_code
def yX3_leastTickFor : MethodName := ⟨RX3, "leastTickFor", "(I)I"⟩
abbrev cX3_through : ByteArray := prog_5_method_15_code
def yX3_through : MethodName := ⟨RX3, "through", "(II)I"⟩
abbrev cX3_waiting : ByteArray := prog_5_method_16_code
def yX3_waiting : MethodName := ⟨RX3, "waiting", "(I)I"⟩
abbrev cX3_settingOut : ByteArray := prog_5_method_17_code
def yX3_settingOut : MethodName := ⟨RX3, "settingOut", "(I)I"⟩
abbrev cX3_back : ByteArray := prog_5_method_18_code
def yX3_back : MethodName := ⟨RX3, "back", "(I)I"⟩
abbrev cX3_begin : ByteArray := prog_5_method_19_code
def yX3_begin : MethodName := ⟨RX3, "begin", "()V"⟩
abbrev cX3_bind : ByteArray := prog_5_method_20_code
def yX3_bind : MethodName := ⟨RX3, "bind", "(II)V"⟩
abbrev cX3_moreBy : ByteArray := prog_5_method_21_code
def yX3_moreBy : MethodName := ⟨RX3, "moreBy", "(I)I"⟩
abbrev cX3_search : ByteArray := prog_5_method_22_code
def yX3_search : MethodName := ⟨RX3, "search", "(I)V"⟩
abbrev cX3_spread : ByteArray := prog_5_method_23_code
def yX3_spread : MethodName := ⟨RX3, "spread", "(II)V"⟩
abbrev cX3_tryWay : ByteArray := prog_5_method_24_code
def yX3_tryWay : MethodName := ⟨RX3, "tryWay", "(III)V"⟩
abbrev cX3_carryToArrival : ByteArray := prog_5_method_25_code
def yX3_carryToArrival : MethodName := ⟨RX3, "carryToArrival", "()I"⟩
def RX4 : String := "PipeMoments"
def TX4 : u_T := fun k => match k with
  | 0 => ("PipeMoments", "laid", "LPipeMoments$Layout;", true)
  | 1 => ("PipeMoments", "history", "LPipeMoments$History;", true)
  | 2 => ("PipeMoments", "stream", "LPipeMoments$Stream;", true)
  | _ => ("PipeMoments", "settings", "LPipeMoments$Settings;", true)
def tyX4 : Nat → FieldType := fun k => match k with
  | 0 => .object "PipeMoments$Layout"
  | 1 => .object "PipeMoments$History"
  | 2 => .object "PipeMoments$Stream"
  | _ => .object "PipeMoments$Settings"
abbrev wsX40 : List Cond := u_ws RX4 TX4 4
theorem nmX4 : ∀ a, a < 4 → ∀ b, b < 4 → a ≠ b → (TX4 a).2.1 ≠ (TX4 b).2.1 := by decide +kernel
theorem tyX4_ok : ∀ k, k < 4 → parseFieldDescriptor (TX4 k).2.2.1 = some (tyX4 k) := by decide +kernel
abbrev cX4_init : ByteArray := prog_1_method_1_code
def yX4_init : MethodName := ⟨RX4, "<init>", "()V"⟩
abbrev cX4_place : ByteArray := prog_1_method_2_code
def yX4_place : MethodName := ⟨RX4, "place", "(II)I"⟩
abbrev cX4_pipe : ByteArray := prog_1_method_3_code
def yX4_pipe : MethodName := ⟨RX4, "pipe", "(IIII)I"⟩
abbrev cX4_dropPipe : ByteArray := prog_1_method_4_code
def yX4_dropPipe : MethodName := ⟨RX4, "dropPipe", "(I)I"⟩
abbrev cX4_open : ByteArray := prog_1_method_5_code
def yX4_open : MethodName := ⟨RX4, "open", "(III)I"⟩
abbrev cX4_widen : ByteArray := prog_1_method_6_code
def yX4_widen : MethodName := ⟨RX4, "widen", "(II)I"⟩
abbrev cX4_units : ByteArray := prog_1_method_7_code
def yX4_units : MethodName := ⟨RX4, "units", "(II)I"⟩
abbrev cX4_room : ByteArray := prog_1_method_8_code
def yX4_room : MethodName := ⟨RX4, "room", "(II)I"⟩
abbrev cX4_pipeOf : ByteArray := prog_1_method_9_code
def yX4_pipeOf : MethodName := ⟨RX4, "pipeOf", "(II)I"⟩
abbrev cX4_placeOf : ByteArray := prog_1_method_10_code
def yX4_placeOf : MethodName := ⟨RX4, "placeOf", "(II)I"⟩
abbrev cX4_come : ByteArray := prog_1_method_11_code
def yX4_come : MethodName := ⟨RX4, "come", "(I)I"⟩
abbrev cX4_earliest : ByteArray := prog_1_method_12_code
def yX4_earliest : MethodName := ⟨RX4, "earliest", "(I)I"⟩
abbrev cX4_repeated : ByteArray := prog_1_method_13_code
def yX4_repeated : MethodName := ⟨RX4, "repeated", "(II)I"⟩
abbrev cX4_narrow : ByteArray := prog_1_method_14_code
def yX4_narrow : MethodName := ⟨RX4, "narrow", "(I)I"⟩
abbrev cX4_wanting : ByteArray := prog_1_method_15_code
def yX4_wanting : MethodName := ⟨RX4, "wanting", "(III)I"⟩
abbrev cX4_dearest : ByteArray := prog_1_method_16_code
def yX4_dearest : MethodName := ⟨RX4, "dearest", "(II)I"⟩
abbrev cX4_helpful : ByteArray := prog_1_method_17_code
def yX4_helpful : MethodName := ⟨RX4, "helpful", "(II)I"⟩
abbrev cX4_withOneMore : ByteArray := prog_1_method_18_code
def yX4_withOneMore : MethodName := ⟨RX4, "withOneMore", "(II)I"⟩
abbrev cX4_count : ByteArray := prog_1_method_19_code
def yX4_count : MethodName := ⟨RX4, "count", "(I)I"⟩
abbrev cX4_undo : ByteArray := prog_1_method_20_code
def yX4_undo : MethodName := ⟨RX4, "undo", "()I"⟩
abbrev cX4_type : ByteArray := prog_1_method_21_code
def yX4_type : MethodName := ⟨RX4, "type", "(I)I"⟩
abbrev cX4_clearText : ByteArray := prog_1_method_22_code
def yX4_clearText : MethodName := ⟨RX4, "clearText", "()I"⟩
abbrev cX4_fault : ByteArray := prog_1_method_23_code
def yX4_fault : MethodName := ⟨RX4, "fault", "(I)I"⟩
abbrev cX4_play : ByteArray := prog_1_method_24_code
def yX4_play : MethodName := ⟨RX4, "play", "()I"⟩
abbrev cX4_within : ByteArray := prog_1_method_25_code
def yX4_within : MethodName := ⟨RX4, "within", "(III)Z"⟩
abbrev cX4_isTick : ByteArray := prog_1_method_26_code
def yX4_isTick : MethodName := ⟨RX4, "isTick", "(I)Z"⟩
abbrev cX4_has : ByteArray := prog_1_method_27_code
def yX4_has : MethodName := ⟨RX4, "has", "(II)Z"⟩
def RX5 : String := "PipeMomentsModel"
def TX5 : u_T := fun k => match k with
  | 0 => ("PipeMomentsModel", "s", "[I", true)
  | 1 => ("PipeMomentsModel", "was", "[I", true)
  | 2 => ("PipeMomentsModel", "begun", "[I", true)
  | 3 => ("PipeMomentsModel", "aside", "[I", true)
  | 4 => ("PipeMomentsModel", "states", "I", false)
  | 5 => ("PipeMomentsModel", "text", "[C", true)
  | 6 => ("PipeMomentsModel", "typed", "I", false)
  | 7 => ("PipeMomentsModel", "at", "I", false)
  | 8 => ("PipeMomentsModel", "reason", "I", false)
  | 9 => ("PipeMomentsModel", "cause", "I", false)
  | 10 => ("PipeMomentsModel", "number", "[I", true)
  | 11 => ("PipeMomentsModel", "out", "[I", true)
  | 12 => ("PipeMomentsModel", "wait", "[I", true)
  | 13 => ("PipeMomentsModel", "enter", "[I", true)
  | 14 => ("PipeMomentsModel", "back", "[I", true)
  | 15 => ("PipeMomentsModel", "by", "[I", true)
  | 16 => ("PipeMomentsModel", "row", "[I", true)
  | 17 => ("PipeMomentsModel", "end", "I", false)
  | 18 => ("PipeMomentsModel", "many", "I", false)
  | 19 => ("PipeMomentsModel", "without", "I", false)
  | 20 => ("PipeMomentsModel", "wider", "I", false)
  | 21 => ("PipeMomentsModel", "more", "I", false)
  | _ => ("PipeMomentsModel", "endless", "I", false)
def tyX5 : Nat → FieldType := fun k => match k with
  | 0 => .array .int
  | 1 => .array .int
  | 2 => .array .int
  | 3 => .array .int
  | 4 => .int
  | 5 => .array .char
  | 6 => .int
  | 7 => .int
  | 8 => .int
  | 9 => .int
  | 10 => .array .int
  | 11 => .array .int
  | 12 => .array .int
  | 13 => .array .int
  | 14 => .array .int
  | 15 => .array .int
  | 16 => .array .int
  | 17 => .int
  | 18 => .int
  | 19 => .int
  | 20 => .int
  | 21 => .int
  | _ => .int
abbrev wsX50 : List Cond := u_ws RX5 TX5 23
theorem nmX5 : ∀ a, a < 23 → ∀ b, b < 23 → a ≠ b → (TX5 a).2.1 ≠ (TX5 b).2.1 := by decide +kernel
theorem tyX5_ok : ∀ k, k < 23 → parseFieldDescriptor (TX5 k).2.2.1 = some (tyX5 k) := by decide +kernel
abbrev cX5_init : ByteArray := prog_7_method_1_code
def yX5_init : MethodName := ⟨RX5, "<init>", "()V"⟩
abbrev cX5_in : ByteArray := prog_7_method_2_code
def yX5_in : MethodName := ⟨RX5, "in", "(III)Z"⟩
abbrev cX5_asIs : ByteArray := prog_7_method_3_code
def yX5_asIs : MethodName := ⟨RX5, "asIs", "()V"⟩
abbrev cX5_isPlace : ByteArray := prog_7_method_4_code
def yX5_isPlace : MethodName := ⟨RX5, "isPlace", "(I)Z"⟩
abbrev cX5_isPipe : ByteArray := prog_7_method_5_code
def yX5_isPipe : MethodName := ⟨RX5, "isPipe", "(I)Z"⟩
abbrev cX5_pi : ByteArray := prog_7_method_6_code
def yX5_pi : MethodName := ⟨RX5, "pi", "(II)I"⟩
abbrev cX5_keeps : ByteArray := prog_7_method_7_code
def yX5_keeps : MethodName := ⟨RX5, "keeps", "()V"⟩
abbrev cX5_acted : ByteArray := prog_7_method_8_code
def yX5_acted : MethodName := ⟨RX5, "acted", "(I)I"⟩
abbrev cX5_adds : ByteArray := prog_7_method_9_code
def yX5_adds : MethodName := ⟨RX5, "adds", "(II)I"⟩
abbrev cX5_place : ByteArray := prog_7_method_10_code
def yX5_place : MethodName := ⟨RX5, "place", "(II)I"⟩
abbrev cX5_lays : ByteArray := prog_7_method_11_code
def yX5_lays : MethodName := ⟨RX5, "lays", "(IIII)I"⟩
abbrev cX5_pipe : ByteArray := prog_7_method_12_code
def yX5_pipe : MethodName := ⟨RX5, "pipe", "(IIII)I"⟩
abbrev cX5_dropPipe : ByteArray := prog_7_method_13_code
def yX5_dropPipe : MethodName := ⟨RX5, "dropPipe", "(I)I"⟩
abbrev cX5_opens : ByteArray := prog_7_method_14_code
def yX5_opens : MethodName := ⟨RX5, "opens", "(III)I"⟩
abbrev cX5_open : ByteArray := prog_7_method_15_code
def yX5_open : MethodName := ⟨RX5, "open", "(III)I"⟩
abbrev cX5_becomes : ByteArray := prog_7_method_16_code
def yX5_becomes : MethodName := ⟨RX5, "becomes", "(II)I"⟩
abbrev cX5_widen : ByteArray := prog_7_method_17_code
def yX5_widen : MethodName := ⟨RX5, "widen", "(II)I"⟩
abbrev cX5_units : ByteArray := prog_7_method_18_code
def yX5_units : MethodName := ⟨RX5, "units", "(II)I"⟩
abbrev cX5_room : ByteArray := prog_7_method_19_code
def yX5_room : MethodName := ⟨RX5, "room", "(II)I"⟩
abbrev cX5_pipeOf : ByteArray := prog_7_method_20_code
def yX5_pipeOf : MethodName := ⟨RX5, "pipeOf", "(II)I"⟩
abbrev cX5_pipesOf : ByteArray := prog_7_method_21_code
def yX5_pipesOf : MethodName := ⟨RX5, "pipesOf", "(II)I"⟩
abbrev cX5_alone : ByteArray := prog_7_method_22_code
def yX5_alone : MethodName := ⟨RX5, "alone", "(I)I"⟩
abbrev cX5_placeOf : ByteArray := prog_7_method_23_code
def yX5_placeOf : MethodName := ⟨RX5, "placeOf", "(II)I"⟩
abbrev cX5_unitsOf : ByteArray := prog_7_method_24_code
def yX5_unitsOf : MethodName := ⟨RX5, "unitsOf", "(I)I"⟩
abbrev cX5_roomOf : ByteArray := prog_7_method_25_code
def yX5_roomOf : MethodName := ⟨RX5, "roomOf", "(I)I"⟩
abbrev cX5_isOpen : ByteArray := prog_7_method_26_code
def yX5_isOpen : MethodName := ⟨RX5, "isOpen", "(II)Z"⟩
abbrev cX5_reaches : ByteArray := prog_7_method_27_code
def yX5_reaches : MethodName := ⟨RX5, "reaches", "(III)V"⟩
abbrev cX5_looks : ByteArray := prog_7_method_28_code
def yX5_looks : MethodName := ⟨RX5, "looks", "(I)V"⟩
abbrev cX5_finds : ByteArray := prog_7_method_29_code
def yX5_finds : MethodName := ⟨RX5, "finds", "()Z"⟩
abbrev cX5_goes : ByteArray := prog_7_method_30_code
def yX5_goes : MethodName := ⟨RX5, "goes", "()V"⟩
abbrev cX5_comes : ByteArray := prog_7_method_31_code
def yX5_comes : MethodName := ⟨RX5, "comes", "(I)I"⟩
abbrev cX5_come : ByteArray := prog_7_method_32_code
def yX5_come : MethodName := ⟨RX5, "come", "(I)I"⟩
abbrev cX5_all : ByteArray := prog_7_method_33_code
def yX5_all : MethodName := ⟨RX5, "all", "()I"⟩
abbrev cX5_earliest : ByteArray := prog_7_method_34_code
def yX5_earliest : MethodName := ⟨RX5, "earliest", "(I)I"⟩
abbrev cX5_repeated : ByteArray := prog_7_method_35_code
def yX5_repeated : MethodName := ⟨RX5, "repeated", "(II)I"⟩
abbrev cX5_isNarrow : ByteArray := prog_7_method_36_code
def yX5_isNarrow : MethodName := ⟨RX5, "isNarrow", "(I)Z"⟩
abbrev cX5_narrow : ByteArray := prog_7_method_37_code
def yX5_narrow : MethodName := ⟨RX5, "narrow", "(I)I"⟩
abbrev cX5_wanting : ByteArray := prog_7_method_38_code
def yX5_wanting : MethodName := ⟨RX5, "wanting", "(III)I"⟩
abbrev cX5_dearest : ByteArray := prog_7_method_39_code
def yX5_dearest : MethodName := ⟨RX5, "dearest", "(II)I"⟩
abbrev cX5_helpful : ByteArray := prog_7_method_40_code
def yX5_helpful : MethodName := ⟨RX5, "helpful", "(II)I"⟩
abbrev cX5_withOneMore : ByteArray := prog_7_method_41_code
def yX5_withOneMore : MethodName := ⟨RX5, "withOneMore", "(II)I"⟩
abbrev cX5_bounds : ByteArray := prog_7_method_42_code
def yX5_bounds : MethodName := ⟨RX5, "bounds", "()I"⟩
abbrev cX5_count : ByteArray := prog_7_method_43_code
def yX5_count : MethodName := ⟨RX5, "count", "(I)I"⟩
abbrev cX5_undo : ByteArray := prog_7_method_44_code
def yX5_undo : MethodName := ⟨RX5, "undo", "()I"⟩
abbrev cX5_type : ByteArray := prog_7_method_45_code
def yX5_type : MethodName := ⟨RX5, "type", "(I)I"⟩
abbrev cX5_clearText : ByteArray := prog_7_method_46_code
def yX5_clearText : MethodName := ⟨RX5, "clearText", "()I"⟩
abbrev cX5_sign : ByteArray := prog_7_method_47_code
def yX5_sign : MethodName := ⟨RX5, "sign", "()I"⟩
abbrev cX5_readsNumber : ByteArray := prog_7_method_48_code
def yX5_readsNumber : MethodName := ⟨RX5, "readsNumber", "(I)Z"⟩
abbrev cX5_reads : ByteArray := prog_7_method_49_code
def yX5_reads : MethodName := ⟨RX5, "reads", "(I)Z"⟩
abbrev cX5_isRight : ByteArray := prog_7_method_50_code
def yX5_isRight : MethodName := ⟨RX5, "isRight", "(II)Z"⟩
abbrev cX5_does : ByteArray := prog_7_method_51_code
def yX5_does : MethodName := ⟨RX5, "does", "(I)I"⟩
abbrev cX5_doesNext : ByteArray := prog_7_method_52_code
def yX5_doesNext : MethodName := ⟨RX5, "doesNext", "()I"⟩
abbrev cX5_faulty : ByteArray := prog_7_method_53_code
def yX5_faulty : MethodName := ⟨RX5, "faulty", "()I"⟩
abbrev cX5_fault : ByteArray := prog_7_method_54_code
def yX5_fault : MethodName := ⟨RX5, "fault", "(I)I"⟩
abbrev cX5_play : ByteArray := prog_7_method_55_code
def yX5_play : MethodName := ⟨RX5, "play", "()I"⟩
def RJ9 : String := "java/lang/Math"
def TJ9 : u_T := fun k => match k with
  | _ => ("", "", "", false)
def tyJ9 : Nat → FieldType := fun k => match k with
  | _ => .int
abbrev wsJ90 : List Cond := u_ws RJ9 TJ9 0
theorem nmJ9 : ∀ a, a < 0 → ∀ b, b < 0 → a ≠ b → (TJ9 a).2.1 ≠ (TJ9 b).2.1 := by decide +kernel
theorem tyJ9_ok : ∀ k, k < 0 → parseFieldDescriptor (TJ9 k).2.2.1 = some (tyJ9 k) := by decide +kernel
abbrev cJ9_max_7cf53 : ByteArray := prog_8_method_65_code
def yJ9_max_7cf53 : MethodName := ⟨RJ9, "max", "(II)I"⟩
abbrev cJ9_min_7cf53 : ByteArray := prog_8_method_69_code
def yJ9_min_7cf53 : MethodName := ⟨RJ9, "min", "(II)I"⟩
def RJ10 : String := "java/lang/System"
def TJ10 : u_T := fun k => match k with
  | _ => ("", "", "", false)
def tyJ10 : Nat → FieldType := fun k => match k with
  | _ => .int
abbrev wsJ100 : List Cond := u_ws RJ10 TJ10 0
theorem nmJ10 : ∀ a, a < 0 → ∀ b, b < 0 → a ≠ b → (TJ10 a).2.1 ≠ (TJ10 b).2.1 := by decide +kernel
theorem tyJ10_ok : ∀ k, k < 0 → parseFieldDescriptor (TJ10 k).2.2.1 = some (tyJ10 k) := by decide +kernel
def RJ7 : String := "java/util/Arrays"
def TJ7 : u_T := fun k => match k with
  | _ => ("", "", "", false)
def tyJ7 : Nat → FieldType := fun k => match k with
  | _ => .int
abbrev wsJ70 : List Cond := u_ws RJ7 TJ7 0
theorem nmJ7 : ∀ a, a < 0 → ∀ b, b < 0 → a ≠ b → (TJ7 a).2.1 ≠ (TJ7 b).2.1 := by decide +kernel
theorem tyJ7_ok : ∀ k, k < 0 → parseFieldDescriptor (TJ7 k).2.2.1 = some (tyJ7 k) := by decide +kernel
abbrev cJ7_fill_53178 : ByteArray := prog_10_method_103_code
def yJ7_fill_53178 : MethodName := ⟨RJ7, "fill", "([II)V"⟩
def RL : String := "PipeMomentsLaw"
abbrev cL_law : ByteArray := code
def yL_law : MethodName := ⟨RL, "law", "([I)Z"⟩
