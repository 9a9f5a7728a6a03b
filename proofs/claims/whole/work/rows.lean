section
-- ===== PART A: goes FIRST, ahead of the names: the tables' words, and 'selects' of the private methods out of them =====
/-- a private method of a class that the tables say can be made, by its rows of tables_1 -/
def lw_okq (q : MethodName × Nat) : Prop := (q.1.cls ≠ "java/lang/invoke/MethodHandle" ∧ q.1.cls ≠ "java/lang/invoke/VarHandle") ∧ Cond.instantiable q.1.cls q.2 ∈ tables_1 ∧ Cond.privateMethod q.1 ∈ tables_1 ∧ Cond.instanceMethod q.1 ∈ tables_1
theorem lw_p0 : lw_okq (⟨"PipeMoments$History", "dropOldest", "()V"⟩, 2) := ⟨⟨by decide +kernel, by decide +kernel⟩, List.mem_of_getElem? (i := 51) (by decide +kernel), List.mem_of_getElem? (i := 173) (by decide +kernel), List.mem_of_getElem? (i := 174) (by decide +kernel)⟩
theorem lw_p1 : lw_okq (⟨"PipeMoments$Stream", "leastTickFor", "(I)I"⟩, 7) := ⟨⟨by decide +kernel, by decide +kernel⟩, List.mem_of_getElem? (i := 68) (by decide +kernel), List.mem_of_getElem? (i := 288) (by decide +kernel), List.mem_of_getElem? (i := 289) (by decide +kernel)⟩
theorem lw_p2 : lw_okq (⟨"PipeMoments$Stream", "begin", "()V"⟩, 7) := ⟨⟨by decide +kernel, by decide +kernel⟩, List.mem_of_getElem? (i := 68) (by decide +kernel), List.mem_of_getElem? (i := 292) (by decide +kernel), List.mem_of_getElem? (i := 293) (by decide +kernel)⟩
theorem lw_p3 : lw_okq (⟨"PipeMoments$Stream", "bind", "(II)V"⟩, 7) := ⟨⟨by decide +kernel, by decide +kernel⟩, List.mem_of_getElem? (i := 68) (by decide +kernel), List.mem_of_getElem? (i := 303) (by decide +kernel), List.mem_of_getElem? (i := 304) (by decide +kernel)⟩
theorem lw_p4 : lw_okq (⟨"PipeMoments$Stream", "moreBy", "(I)I"⟩, 7) := ⟨⟨by decide +kernel, by decide +kernel⟩, List.mem_of_getElem? (i := 68) (by decide +kernel), List.mem_of_getElem? (i := 316) (by decide +kernel), List.mem_of_getElem? (i := 317) (by decide +kernel)⟩
theorem lw_p5 : lw_okq (⟨"PipeMoments$Stream", "search", "(I)V"⟩, 7) := ⟨⟨by decide +kernel, by decide +kernel⟩, List.mem_of_getElem? (i := 68) (by decide +kernel), List.mem_of_getElem? (i := 321) (by decide +kernel), List.mem_of_getElem? (i := 322) (by decide +kernel)⟩
theorem lw_p6 : lw_okq (⟨"PipeMoments$Stream", "tryWay", "(III)V"⟩, 7) := ⟨⟨by decide +kernel, by decide +kernel⟩, List.mem_of_getElem? (i := 68) (by decide +kernel), List.mem_of_getElem? (i := 325) (by decide +kernel), List.mem_of_getElem? (i := 326) (by decide +kernel)⟩
theorem lw_p7 : lw_okq (⟨"PipeMoments$Stream", "spread", "(II)V"⟩, 7) := ⟨⟨by decide +kernel, by decide +kernel⟩, List.mem_of_getElem? (i := 68) (by decide +kernel), List.mem_of_getElem? (i := 329) (by decide +kernel), List.mem_of_getElem? (i := 330) (by decide +kernel)⟩
theorem lw_p8 : lw_okq (⟨"PipeMoments$Stream", "carryToArrival", "()I"⟩, 7) := ⟨⟨by decide +kernel, by decide +kernel⟩, List.mem_of_getElem? (i := 68) (by decide +kernel), List.mem_of_getElem? (i := 334) (by decide +kernel), List.mem_of_getElem? (i := 335) (by decide +kernel)⟩
theorem lw_p9 : lw_okq (⟨"PipeMoments$Stream", "mostBy", "(I)I"⟩, 7) := ⟨⟨by decide +kernel, by decide +kernel⟩, List.mem_of_getElem? (i := 68) (by decide +kernel), List.mem_of_getElem? (i := 351) (by decide +kernel), List.mem_of_getElem? (i := 352) (by decide +kernel)⟩
theorem lw_p10 : lw_okq (⟨"PipeMoments$Stream", "isNarrow", "(II)Z"⟩, 7) := ⟨⟨by decide +kernel, by decide +kernel⟩, List.mem_of_getElem? (i := 68) (by decide +kernel), List.mem_of_getElem? (i := 384) (by decide +kernel), List.mem_of_getElem? (i := 385) (by decide +kernel)⟩
theorem lw_p11 : lw_okq (⟨"PipeMoments$Settings", "readSetting", "()V"⟩, 9) := ⟨⟨by decide +kernel, by decide +kernel⟩, List.mem_of_getElem? (i := 98) (by decide +kernel), List.mem_of_getElem? (i := 473) (by decide +kernel), List.mem_of_getElem? (i := 474) (by decide +kernel)⟩
theorem lw_p12 : lw_okq (⟨"PipeMoments$Settings", "readForm", "(C)Z"⟩, 9) := ⟨⟨by decide +kernel, by decide +kernel⟩, List.mem_of_getElem? (i := 98) (by decide +kernel), List.mem_of_getElem? (i := 477) (by decide +kernel), List.mem_of_getElem? (i := 478) (by decide +kernel)⟩
theorem lw_p13 : lw_okq (⟨"PipeMoments$Settings", "readNumber", "(I)Z"⟩, 9) := ⟨⟨by decide +kernel, by decide +kernel⟩, List.mem_of_getElem? (i := 98) (by decide +kernel), List.mem_of_getElem? (i := 484) (by decide +kernel), List.mem_of_getElem? (i := 485) (by decide +kernel)⟩
theorem lw_p14 : lw_okq (⟨"PipeMoments$Settings", "isDigitNext", "()Z"⟩, 9) := ⟨⟨by decide +kernel, by decide +kernel⟩, List.mem_of_getElem? (i := 98) (by decide +kernel), List.mem_of_getElem? (i := 488) (by decide +kernel), List.mem_of_getElem? (i := 489) (by decide +kernel)⟩
theorem lw_p15 : lw_okq (⟨"PipeMoments$Settings", "readSign", "(C)Z"⟩, 9) := ⟨⟨by decide +kernel, by decide +kernel⟩, List.mem_of_getElem? (i := 98) (by decide +kernel), List.mem_of_getElem? (i := 493) (by decide +kernel), List.mem_of_getElem? (i := 494) (by decide +kernel)⟩
def lw_privs_1 : List (MethodName × Nat) := [(⟨"PipeMoments$History", "dropOldest", "()V"⟩, 2), (⟨"PipeMoments$Stream", "leastTickFor", "(I)I"⟩, 7), (⟨"PipeMoments$Stream", "begin", "()V"⟩, 7), (⟨"PipeMoments$Stream", "bind", "(II)V"⟩, 7), (⟨"PipeMoments$Stream", "moreBy", "(I)I"⟩, 7), (⟨"PipeMoments$Stream", "search", "(I)V"⟩, 7), (⟨"PipeMoments$Stream", "tryWay", "(III)V"⟩, 7), (⟨"PipeMoments$Stream", "spread", "(II)V"⟩, 7), (⟨"PipeMoments$Stream", "carryToArrival", "()I"⟩, 7), (⟨"PipeMoments$Stream", "mostBy", "(I)I"⟩, 7), (⟨"PipeMoments$Stream", "isNarrow", "(II)Z"⟩, 7), (⟨"PipeMoments$Settings", "readSetting", "()V"⟩, 9), (⟨"PipeMoments$Settings", "readForm", "(C)Z"⟩, 9), (⟨"PipeMoments$Settings", "readNumber", "(I)Z"⟩, 9), (⟨"PipeMoments$Settings", "isDigitNext", "()Z"⟩, 9), (⟨"PipeMoments$Settings", "readSign", "(C)Z"⟩, 9)]
theorem lw_r1 : ∀ q ∈ lw_privs_1, lw_okq q := List.forall_mem_cons.mpr ⟨lw_p0, List.forall_mem_cons.mpr ⟨lw_p1, List.forall_mem_cons.mpr ⟨lw_p2, List.forall_mem_cons.mpr ⟨lw_p3, List.forall_mem_cons.mpr ⟨lw_p4, List.forall_mem_cons.mpr ⟨lw_p5, List.forall_mem_cons.mpr ⟨lw_p6, List.forall_mem_cons.mpr ⟨lw_p7, List.forall_mem_cons.mpr ⟨lw_p8, List.forall_mem_cons.mpr ⟨lw_p9, List.forall_mem_cons.mpr ⟨lw_p10, List.forall_mem_cons.mpr ⟨lw_p11, List.forall_mem_cons.mpr ⟨lw_p12, List.forall_mem_cons.mpr ⟨lw_p13, List.forall_mem_cons.mpr ⟨lw_p14, List.forall_mem_cons.mpr ⟨lw_p15, fun _ h => absurd h List.not_mem_nil⟩⟩⟩⟩⟩⟩⟩⟩⟩⟩⟩⟩⟩⟩⟩⟩
theorem lw_p16 : lw_okq (⟨"PipeMoments$Settings", "badNumber", "(C)I"⟩, 9) := ⟨⟨by decide +kernel, by decide +kernel⟩, List.mem_of_getElem? (i := 98) (by decide +kernel), List.mem_of_getElem? (i := 497) (by decide +kernel), List.mem_of_getElem? (i := 498) (by decide +kernel)⟩
theorem lw_p17 : lw_okq (⟨"PipeMoments$Settings", "isBeyondLimit", "(C)Z"⟩, 9) := ⟨⟨by decide +kernel, by decide +kernel⟩, List.mem_of_getElem? (i := 98) (by decide +kernel), List.mem_of_getElem? (i := 505) (by decide +kernel), List.mem_of_getElem? (i := 506) (by decide +kernel)⟩
theorem lw_p18 : lw_okq (⟨"PipeMoments$Settings", "settle", "(C)V"⟩, 9) := ⟨⟨by decide +kernel, by decide +kernel⟩, List.mem_of_getElem? (i := 98) (by decide +kernel), List.mem_of_getElem? (i := 511) (by decide +kernel), List.mem_of_getElem? (i := 512) (by decide +kernel)⟩
theorem lw_p19 : lw_okq (⟨"PipeMomentsModel", "asIs", "()V"⟩, 23) := ⟨⟨by decide +kernel, by decide +kernel⟩, List.mem_of_getElem? (i := 527) (by decide +kernel), List.mem_of_getElem? (i := 533) (by decide +kernel), List.mem_of_getElem? (i := 534) (by decide +kernel)⟩
theorem lw_p20 : lw_okq (⟨"PipeMomentsModel", "keeps", "()V"⟩, 23) := ⟨⟨by decide +kernel, by decide +kernel⟩, List.mem_of_getElem? (i := 527) (by decide +kernel), List.mem_of_getElem? (i := 615) (by decide +kernel), List.mem_of_getElem? (i := 616) (by decide +kernel)⟩
theorem lw_p21 : lw_okq (⟨"PipeMomentsModel", "adds", "(II)I"⟩, 23) := ⟨⟨by decide +kernel, by decide +kernel⟩, List.mem_of_getElem? (i := 527) (by decide +kernel), List.mem_of_getElem? (i := 619) (by decide +kernel), List.mem_of_getElem? (i := 620) (by decide +kernel)⟩
theorem lw_p22 : lw_okq (⟨"PipeMomentsModel", "acted", "(I)I"⟩, 23) := ⟨⟨by decide +kernel, by decide +kernel⟩, List.mem_of_getElem? (i := 527) (by decide +kernel), List.mem_of_getElem? (i := 624) (by decide +kernel), List.mem_of_getElem? (i := 625) (by decide +kernel)⟩
theorem lw_p23 : lw_okq (⟨"PipeMomentsModel", "isPlace", "(I)Z"⟩, 23) := ⟨⟨by decide +kernel, by decide +kernel⟩, List.mem_of_getElem? (i := 527) (by decide +kernel), List.mem_of_getElem? (i := 632) (by decide +kernel), List.mem_of_getElem? (i := 633) (by decide +kernel)⟩
theorem lw_p24 : lw_okq (⟨"PipeMomentsModel", "lays", "(IIII)I"⟩, 23) := ⟨⟨by decide +kernel, by decide +kernel⟩, List.mem_of_getElem? (i := 527) (by decide +kernel), List.mem_of_getElem? (i := 636) (by decide +kernel), List.mem_of_getElem? (i := 637) (by decide +kernel)⟩
theorem lw_p25 : lw_okq (⟨"PipeMomentsModel", "isPipe", "(I)Z"⟩, 23) := ⟨⟨by decide +kernel, by decide +kernel⟩, List.mem_of_getElem? (i := 527) (by decide +kernel), List.mem_of_getElem? (i := 644) (by decide +kernel), List.mem_of_getElem? (i := 645) (by decide +kernel)⟩
theorem lw_p26 : lw_okq (⟨"PipeMomentsModel", "opens", "(III)I"⟩, 23) := ⟨⟨by decide +kernel, by decide +kernel⟩, List.mem_of_getElem? (i := 527) (by decide +kernel), List.mem_of_getElem? (i := 652) (by decide +kernel), List.mem_of_getElem? (i := 653) (by decide +kernel)⟩
theorem lw_p27 : lw_okq (⟨"PipeMomentsModel", "becomes", "(II)I"⟩, 23) := ⟨⟨by decide +kernel, by decide +kernel⟩, List.mem_of_getElem? (i := 527) (by decide +kernel), List.mem_of_getElem? (i := 660) (by decide +kernel), List.mem_of_getElem? (i := 661) (by decide +kernel)⟩
theorem lw_p28 : lw_okq (⟨"PipeMomentsModel", "pi", "(II)I"⟩, 23) := ⟨⟨by decide +kernel, by decide +kernel⟩, List.mem_of_getElem? (i := 527) (by decide +kernel), List.mem_of_getElem? (i := 676) (by decide +kernel), List.mem_of_getElem? (i := 677) (by decide +kernel)⟩
theorem lw_p29 : lw_okq (⟨"PipeMomentsModel", "pipesOf", "(II)I"⟩, 23) := ⟨⟨by decide +kernel, by decide +kernel⟩, List.mem_of_getElem? (i := 527) (by decide +kernel), List.mem_of_getElem? (i := 684) (by decide +kernel), List.mem_of_getElem? (i := 685) (by decide +kernel)⟩
theorem lw_p30 : lw_okq (⟨"PipeMomentsModel", "alone", "(I)I"⟩, 23) := ⟨⟨by decide +kernel, by decide +kernel⟩, List.mem_of_getElem? (i := 527) (by decide +kernel), List.mem_of_getElem? (i := 688) (by decide +kernel), List.mem_of_getElem? (i := 689) (by decide +kernel)⟩
theorem lw_p31 : lw_okq (⟨"PipeMomentsModel", "comes", "(I)I"⟩, 23) := ⟨⟨by decide +kernel, by decide +kernel⟩, List.mem_of_getElem? (i := 527) (by decide +kernel), List.mem_of_getElem? (i := 697) (by decide +kernel), List.mem_of_getElem? (i := 698) (by decide +kernel)⟩
def lw_privs_2 : List (MethodName × Nat) := [(⟨"PipeMoments$Settings", "badNumber", "(C)I"⟩, 9), (⟨"PipeMoments$Settings", "isBeyondLimit", "(C)Z"⟩, 9), (⟨"PipeMoments$Settings", "settle", "(C)V"⟩, 9), (⟨"PipeMomentsModel", "asIs", "()V"⟩, 23), (⟨"PipeMomentsModel", "keeps", "()V"⟩, 23), (⟨"PipeMomentsModel", "adds", "(II)I"⟩, 23), (⟨"PipeMomentsModel", "acted", "(I)I"⟩, 23), (⟨"PipeMomentsModel", "isPlace", "(I)Z"⟩, 23), (⟨"PipeMomentsModel", "lays", "(IIII)I"⟩, 23), (⟨"PipeMomentsModel", "isPipe", "(I)Z"⟩, 23), (⟨"PipeMomentsModel", "opens", "(III)I"⟩, 23), (⟨"PipeMomentsModel", "becomes", "(II)I"⟩, 23), (⟨"PipeMomentsModel", "pi", "(II)I"⟩, 23), (⟨"PipeMomentsModel", "pipesOf", "(II)I"⟩, 23), (⟨"PipeMomentsModel", "alone", "(I)I"⟩, 23), (⟨"PipeMomentsModel", "comes", "(I)I"⟩, 23)]
theorem lw_r2 : ∀ q ∈ lw_privs_2, lw_okq q := List.forall_mem_cons.mpr ⟨lw_p16, List.forall_mem_cons.mpr ⟨lw_p17, List.forall_mem_cons.mpr ⟨lw_p18, List.forall_mem_cons.mpr ⟨lw_p19, List.forall_mem_cons.mpr ⟨lw_p20, List.forall_mem_cons.mpr ⟨lw_p21, List.forall_mem_cons.mpr ⟨lw_p22, List.forall_mem_cons.mpr ⟨lw_p23, List.forall_mem_cons.mpr ⟨lw_p24, List.forall_mem_cons.mpr ⟨lw_p25, List.forall_mem_cons.mpr ⟨lw_p26, List.forall_mem_cons.mpr ⟨lw_p27, List.forall_mem_cons.mpr ⟨lw_p28, List.forall_mem_cons.mpr ⟨lw_p29, List.forall_mem_cons.mpr ⟨lw_p30, List.forall_mem_cons.mpr ⟨lw_p31, fun _ h => absurd h List.not_mem_nil⟩⟩⟩⟩⟩⟩⟩⟩⟩⟩⟩⟩⟩⟩⟩⟩
theorem lw_p32 : lw_okq (⟨"PipeMomentsModel", "finds", "()Z"⟩, 23) := ⟨⟨by decide +kernel, by decide +kernel⟩, List.mem_of_getElem? (i := 527) (by decide +kernel), List.mem_of_getElem? (i := 701) (by decide +kernel), List.mem_of_getElem? (i := 702) (by decide +kernel)⟩
theorem lw_p33 : lw_okq (⟨"PipeMomentsModel", "unitsOf", "(I)I"⟩, 23) := ⟨⟨by decide +kernel, by decide +kernel⟩, List.mem_of_getElem? (i := 527) (by decide +kernel), List.mem_of_getElem? (i := 705) (by decide +kernel), List.mem_of_getElem? (i := 706) (by decide +kernel)⟩
theorem lw_p34 : lw_okq (⟨"PipeMomentsModel", "reaches", "(III)V"⟩, 23) := ⟨⟨by decide +kernel, by decide +kernel⟩, List.mem_of_getElem? (i := 527) (by decide +kernel), List.mem_of_getElem? (i := 710) (by decide +kernel), List.mem_of_getElem? (i := 711) (by decide +kernel)⟩
theorem lw_p35 : lw_okq (⟨"PipeMomentsModel", "looks", "(I)V"⟩, 23) := ⟨⟨by decide +kernel, by decide +kernel⟩, List.mem_of_getElem? (i := 527) (by decide +kernel), List.mem_of_getElem? (i := 714) (by decide +kernel), List.mem_of_getElem? (i := 715) (by decide +kernel)⟩
theorem lw_p36 : lw_okq (⟨"PipeMomentsModel", "roomOf", "(I)I"⟩, 23) := ⟨⟨by decide +kernel, by decide +kernel⟩, List.mem_of_getElem? (i := 527) (by decide +kernel), List.mem_of_getElem? (i := 718) (by decide +kernel), List.mem_of_getElem? (i := 719) (by decide +kernel)⟩
theorem lw_p37 : lw_okq (⟨"PipeMomentsModel", "isOpen", "(II)Z"⟩, 23) := ⟨⟨by decide +kernel, by decide +kernel⟩, List.mem_of_getElem? (i := 527) (by decide +kernel), List.mem_of_getElem? (i := 722) (by decide +kernel), List.mem_of_getElem? (i := 723) (by decide +kernel)⟩
theorem lw_p38 : lw_okq (⟨"PipeMomentsModel", "goes", "()V"⟩, 23) := ⟨⟨by decide +kernel, by decide +kernel⟩, List.mem_of_getElem? (i := 527) (by decide +kernel), List.mem_of_getElem? (i := 726) (by decide +kernel), List.mem_of_getElem? (i := 727) (by decide +kernel)⟩
theorem lw_p39 : lw_okq (⟨"PipeMomentsModel", "all", "()I"⟩, 23) := ⟨⟨by decide +kernel, by decide +kernel⟩, List.mem_of_getElem? (i := 527) (by decide +kernel), List.mem_of_getElem? (i := 734) (by decide +kernel), List.mem_of_getElem? (i := 735) (by decide +kernel)⟩
theorem lw_p40 : lw_okq (⟨"PipeMomentsModel", "isNarrow", "(I)Z"⟩, 23) := ⟨⟨by decide +kernel, by decide +kernel⟩, List.mem_of_getElem? (i := 527) (by decide +kernel), List.mem_of_getElem? (i := 746) (by decide +kernel), List.mem_of_getElem? (i := 747) (by decide +kernel)⟩
theorem lw_p41 : lw_okq (⟨"PipeMomentsModel", "bounds", "()I"⟩, 23) := ⟨⟨by decide +kernel, by decide +kernel⟩, List.mem_of_getElem? (i := 527) (by decide +kernel), List.mem_of_getElem? (i := 770) (by decide +kernel), List.mem_of_getElem? (i := 771) (by decide +kernel)⟩
theorem lw_p42 : lw_okq (⟨"PipeMomentsModel", "faulty", "()I"⟩, 23) := ⟨⟨by decide +kernel, by decide +kernel⟩, List.mem_of_getElem? (i := 527) (by decide +kernel), List.mem_of_getElem? (i := 791) (by decide +kernel), List.mem_of_getElem? (i := 792) (by decide +kernel)⟩
theorem lw_p43 : lw_okq (⟨"PipeMomentsModel", "doesNext", "()I"⟩, 23) := ⟨⟨by decide +kernel, by decide +kernel⟩, List.mem_of_getElem? (i := 527) (by decide +kernel), List.mem_of_getElem? (i := 795) (by decide +kernel), List.mem_of_getElem? (i := 796) (by decide +kernel)⟩
theorem lw_p44 : lw_okq (⟨"PipeMomentsModel", "sign", "()I"⟩, 23) := ⟨⟨by decide +kernel, by decide +kernel⟩, List.mem_of_getElem? (i := 527) (by decide +kernel), List.mem_of_getElem? (i := 799) (by decide +kernel), List.mem_of_getElem? (i := 800) (by decide +kernel)⟩
theorem lw_p45 : lw_okq (⟨"PipeMomentsModel", "reads", "(I)Z"⟩, 23) := ⟨⟨by decide +kernel, by decide +kernel⟩, List.mem_of_getElem? (i := 527) (by decide +kernel), List.mem_of_getElem? (i := 803) (by decide +kernel), List.mem_of_getElem? (i := 804) (by decide +kernel)⟩
theorem lw_p46 : lw_okq (⟨"PipeMomentsModel", "readsNumber", "(I)Z"⟩, 23) := ⟨⟨by decide +kernel, by decide +kernel⟩, List.mem_of_getElem? (i := 527) (by decide +kernel), List.mem_of_getElem? (i := 807) (by decide +kernel), List.mem_of_getElem? (i := 808) (by decide +kernel)⟩
theorem lw_p47 : lw_okq (⟨"PipeMomentsModel", "isRight", "(II)Z"⟩, 23) := ⟨⟨by decide +kernel, by decide +kernel⟩, List.mem_of_getElem? (i := 527) (by decide +kernel), List.mem_of_getElem? (i := 811) (by decide +kernel), List.mem_of_getElem? (i := 812) (by decide +kernel)⟩
def lw_privs_3 : List (MethodName × Nat) := [(⟨"PipeMomentsModel", "finds", "()Z"⟩, 23), (⟨"PipeMomentsModel", "unitsOf", "(I)I"⟩, 23), (⟨"PipeMomentsModel", "reaches", "(III)V"⟩, 23), (⟨"PipeMomentsModel", "looks", "(I)V"⟩, 23), (⟨"PipeMomentsModel", "roomOf", "(I)I"⟩, 23), (⟨"PipeMomentsModel", "isOpen", "(II)Z"⟩, 23), (⟨"PipeMomentsModel", "goes", "()V"⟩, 23), (⟨"PipeMomentsModel", "all", "()I"⟩, 23), (⟨"PipeMomentsModel", "isNarrow", "(I)Z"⟩, 23), (⟨"PipeMomentsModel", "bounds", "()I"⟩, 23), (⟨"PipeMomentsModel", "faulty", "()I"⟩, 23), (⟨"PipeMomentsModel", "doesNext", "()I"⟩, 23), (⟨"PipeMomentsModel", "sign", "()I"⟩, 23), (⟨"PipeMomentsModel", "reads", "(I)Z"⟩, 23), (⟨"PipeMomentsModel", "readsNumber", "(I)Z"⟩, 23), (⟨"PipeMomentsModel", "isRight", "(II)Z"⟩, 23)]
theorem lw_r3 : ∀ q ∈ lw_privs_3, lw_okq q := List.forall_mem_cons.mpr ⟨lw_p32, List.forall_mem_cons.mpr ⟨lw_p33, List.forall_mem_cons.mpr ⟨lw_p34, List.forall_mem_cons.mpr ⟨lw_p35, List.forall_mem_cons.mpr ⟨lw_p36, List.forall_mem_cons.mpr ⟨lw_p37, List.forall_mem_cons.mpr ⟨lw_p38, List.forall_mem_cons.mpr ⟨lw_p39, List.forall_mem_cons.mpr ⟨lw_p40, List.forall_mem_cons.mpr ⟨lw_p41, List.forall_mem_cons.mpr ⟨lw_p42, List.forall_mem_cons.mpr ⟨lw_p43, List.forall_mem_cons.mpr ⟨lw_p44, List.forall_mem_cons.mpr ⟨lw_p45, List.forall_mem_cons.mpr ⟨lw_p46, List.forall_mem_cons.mpr ⟨lw_p47, fun _ h => absurd h List.not_mem_nil⟩⟩⟩⟩⟩⟩⟩⟩⟩⟩⟩⟩⟩⟩⟩⟩
theorem lw_p48 : lw_okq (⟨"PipeMomentsModel", "does", "(I)I"⟩, 23) := ⟨⟨by decide +kernel, by decide +kernel⟩, List.mem_of_getElem? (i := 527) (by decide +kernel), List.mem_of_getElem? (i := 815) (by decide +kernel), List.mem_of_getElem? (i := 816) (by decide +kernel)⟩
def lw_privs_4 : List (MethodName × Nat) := [(⟨"PipeMomentsModel", "does", "(I)I"⟩, 23)]
theorem lw_r4 : ∀ q ∈ lw_privs_4, lw_okq q := List.forall_mem_cons.mpr ⟨lw_p48, fun _ h => absurd h List.not_mem_nil⟩
def lw_privs : List (MethodName × Nat) := lw_privs_1 ++ (lw_privs_2 ++ (lw_privs_3 ++ (lw_privs_4)))
def lw_tbl : List Cond := k2_sels lw_privs ++ tables_1
theorem lw_privs_ok : ∀ q ∈ lw_privs, lw_okq q := by
  show ∀ q ∈ lw_privs_1 ++ (lw_privs_2 ++ (lw_privs_3 ++ (lw_privs_4))), lw_okq q
  exact List.forall_mem_append.mpr ⟨lw_r1, List.forall_mem_append.mpr ⟨lw_r2, List.forall_mem_append.mpr ⟨lw_r3, lw_r4⟩⟩⟩

def RX0 : String := "PipeMoments$History"
def TX0 : u_T := fun k => match k with
  | 0 => ("PipeMoments$History", "states", "[LPipeMoments$Layout;", true)
  | _ => ("PipeMoments$History", "kept", "I", false)
def tyX0 : Nat → FieldType := fun k => match k with
  | 0 => .array (.object "PipeMoments$Layout")
  | _ => .int
abbrev wsX00 : List Cond := u_ws RX0 TX0 2
theorem nmX0 : ∀ a, a < 2 → ∀ b, b < 2 → a ≠ b → (TX0 a).2.1 ≠ (TX0 b).2.1 := by decide +kernel
theorem tyX0_ok : ∀ k, k < 2 → parseFieldDescriptor (TX0 k).2.2.1 = some (tyX0 k) := by decide +kernel
abbrev cX0_init : ByteArray := prog_2_method_1_code
def yX0_init : MethodName := ⟨RX0, "<init>", "()V"⟩
abbrev cX0_keep : ByteArray := prog_2_method_2_code
def yX0_keep : MethodName := ⟨RX0, "keep", "(LPipeMoments$Layout;)V"⟩
abbrev cX0_restore : ByteArray := prog_2_method_3_code
def yX0_restore : MethodName := ⟨RX0, "restore", "(LPipeMoments$Layout;)V"⟩
abbrev cX0_dropOldest : ByteArray := prog_2_method_4_code
def yX0_dropOldest : MethodName := ⟨RX0, "dropOldest", "()V"⟩
def RX1 : String := "PipeMoments$Layout"
def TX1 : u_T := fun k => match k with
  | 0 => ("PipeMoments$Layout", "unitsAt", "[I", true)
  | 1 => ("PipeMoments$Layout", "roomAt", "[I", true)
  | 2 => ("PipeMoments$Layout", "parts", "[I", true)
  | 3 => ("PipeMoments$Layout", "placeCount", "I", false)
  | _ => ("PipeMoments$Layout", "pipeCount", "I", false)
def tyX1 : Nat → FieldType := fun k => match k with
  | 0 => .array .int
  | 1 => .array .int
  | 2 => .array .int
  | 3 => .int
  | _ => .int
abbrev wsX10 : List Cond := u_ws RX1 TX1 5
theorem nmX1 : ∀ a, a < 5 → ∀ b, b < 5 → a ≠ b → (TX1 a).2.1 ≠ (TX1 b).2.1 := by decide +kernel
theorem tyX1_ok : ∀ k, k < 5 → parseFieldDescriptor (TX1 k).2.2.1 = some (tyX1 k) := by decide +kernel
abbrev cX1_init : ByteArray := prog_3_method_1_code
def yX1_init : MethodName := ⟨RX1, "<init>", "()V"⟩
abbrev cX1_copyFrom : ByteArray := prog_3_method_2_code
def yX1_copyFrom : MethodName := ⟨RX1, "copyFrom", "(LPipeMoments$Layout;)V"⟩
abbrev cX1_isPlace : ByteArray := prog_3_method_3_code
def yX1_isPlace : MethodName := ⟨RX1, "isPlace", "(I)Z"⟩
abbrev cX1_isPipe : ByteArray := prog_3_method_4_code
def yX1_isPipe : MethodName := ⟨RX1, "isPipe", "(I)Z"⟩
abbrev cX1_placesAreFull : ByteArray := prog_3_method_5_code
def yX1_placesAreFull : MethodName := ⟨RX1, "placesAreFull", "()Z"⟩
abbrev cX1_pipesAreFull : ByteArray := prog_3_method_6_code
def yX1_pipesAreFull : MethodName := ⟨RX1, "pipesAreFull", "()Z"⟩
abbrev cX1_badOfPlace : ByteArray := prog_3_method_7_code
def yX1_badOfPlace : MethodName := ⟨RX1, "badOfPlace", "(II)I"⟩
abbrev cX1_badOfPipe : ByteArray := prog_3_method_8_code
def yX1_badOfPipe : MethodName := ⟨RX1, "badOfPipe", "(IIII)I"⟩
abbrev cX1_badOfOpening : ByteArray := prog_3_method_9_code
def yX1_badOfOpening : MethodName := ⟨RX1, "badOfOpening", "(III)I"⟩
abbrev cX1_badOfUnits : ByteArray := prog_3_method_10_code
def yX1_badOfUnits : MethodName := ⟨RX1, "badOfUnits", "(II)I"⟩
abbrev cX1_addPlace : ByteArray := prog_3_method_11_code
def yX1_addPlace : MethodName := ⟨RX1, "addPlace", "(II)I"⟩
abbrev cX1_addPipe : ByteArray := prog_3_method_12_code
def yX1_addPipe : MethodName := ⟨RX1, "addPipe", "(IIII)I"⟩
abbrev cX1_removePipe : ByteArray := prog_3_method_13_code
def yX1_removePipe : MethodName := ⟨RX1, "removePipe", "(I)V"⟩
abbrev cX1_setOpening : ByteArray := prog_3_method_14_code
def yX1_setOpening : MethodName := ⟨RX1, "setOpening", "(III)V"⟩
abbrev cX1_partOf : ByteArray := prog_3_method_15_code
def yX1_partOf : MethodName := ⟨RX1, "partOf", "(II)I"⟩
abbrev cX1_setPart : ByteArray := prog_3_method_16_code
def yX1_setPart : MethodName := ⟨RX1, "setPart", "(III)V"⟩
abbrev cX1_boundIn : ByteArray := prog_3_method_17_code
def yX1_boundIn : MethodName := ⟨RX1, "boundIn", "(II)I"⟩
abbrev cX1_pipesWith : ByteArray := prog_3_method_18_code
def yX1_pipesWith : MethodName := ⟨RX1, "pipesWith", "(II)I"⟩
abbrev cX1_allUnits : ByteArray := prog_3_method_19_code
def yX1_allUnits : MethodName := ⟨RX1, "allUnits", "()I"⟩
abbrev cX1_allBounds : ByteArray := prog_3_method_20_code
def yX1_allBounds : MethodName := ⟨RX1, "allBounds", "()I"⟩
def RX2 : String := "PipeMoments$Settings"
def TX2 : u_T := fun k => match k with
  | 0 => ("PipeMoments$Settings", "signs", "[C", true)
  | 1 => ("PipeMoments$Settings", "numbers", "[I", true)
  | 2 => ("PipeMoments$Settings", "trial", "LPipeMoments$Layout;", true)
  | 3 => ("PipeMoments$Settings", "length", "I", false)
  | 4 => ("PipeMoments$Settings", "next", "I", false)
  | 5 => ("PipeMoments$Settings", "start", "I", false)
  | 6 => ("PipeMoments$Settings", "reason", "I", false)
  | 7 => ("PipeMoments$Settings", "cause", "I", false)
  | _ => ("PipeMoments$Settings", "settled", "I", false)
def tyX2 : Nat → FieldType := fun k => match k with
  | 0 => .array .char
  | 1 => .array .int
  | 2 => .object "PipeMoments$Layout"
  | 3 => .int
  | 4 => .int
  | 5 => .int
  | 6 => .int
  | 7 => .int
  | _ => .int
abbrev wsX20 : List Cond := u_ws RX2 TX2 9
theorem nmX2 : ∀ a, a < 9 → ∀ b, b < 9 → a ≠ b → (TX2 a).2.1 ≠ (TX2 b).2.1 := by decide +kernel
theorem tyX2_ok : ∀ k, k < 9 → parseFieldDescriptor (TX2 k).2.2.1 = some (tyX2 k) := by decide +kernel
abbrev cX2_init : ByteArray := prog_4_method_1_code
def yX2_init : MethodName := ⟨RX2, "<init>", "()V"⟩
abbrev cX2_append : ByteArray := prog_4_method_2_code
def yX2_append : MethodName := ⟨RX2, "append", "(C)I"⟩
abbrev cX2_empty : ByteArray := prog_4_method_3_code
def yX2_empty : MethodName := ⟨RX2, "empty", "()I"⟩
abbrev cX2_faultPart : ByteArray := prog_4_method_4_code
def yX2_faultPart : MethodName := ⟨RX2, "faultPart", "(I)I"⟩
abbrev cX2_read : ByteArray := prog_4_method_5_code
def yX2_read : MethodName := ⟨RX2, "read", "(LPipeMoments$Layout;)V"⟩
abbrev cX2_readSetting : ByteArray := prog_4_method_6_code
def yX2_readSetting : MethodName := ⟨RX2, "readSetting", "()V"⟩
abbrev cX2_readForm : ByteArray := prog_4_method_7_code
def yX2_readForm : MethodName := ⟨RX2, "readForm", "(C)Z"⟩
abbrev cX2_numbersOf : ByteArray := prog_4_method_8_code
def yX2_numbersOf : MethodName := ⟨RX2, "numbersOf", "(C)I"⟩
abbrev cX2_readNumber : ByteArray := prog_4_method_9_code
def yX2_readNumber : MethodName := ⟨RX2, "readNumber", "(I)Z"⟩
abbrev cX2_isDigitNext : ByteArray := prog_4_method_10_code
def yX2_isDigitNext : MethodName := ⟨RX2, "isDigitNext", "()Z"⟩
abbrev cX2_readSign : ByteArray := prog_4_method_11_code
def yX2_readSign : MethodName := ⟨RX2, "readSign", "(C)Z"⟩
abbrev cX2_badNumber : ByteArray := prog_4_method_12_code
def yX2_badNumber : MethodName := ⟨RX2, "badNumber", "(C)I"⟩
abbrev cX2_isBeyondLimit : ByteArray := prog_4_method_13_code
def yX2_isBeyondLimit : MethodName := ⟨RX2, "isBeyondLimit", "(C)Z"⟩
abbrev cX2_settle : ByteArray := prog_4_method_14_code
def yX2_settle : MethodName := ⟨RX2, "settle", "(C)V"⟩
def RX3 : String := "PipeMoments$Stream"
def TX3 : u_T := fun k => match k with
  | 0 => ("PipeMoments$Stream", "net", "LPipeMoments$Layout;", true)
  | 1 => ("PipeMoments$Stream", "left", "[I", true)
  | 2 => ("PipeMoments$Stream", "reachedBy", "[I", true)
  | 3 => ("PipeMoments$Stream", "reachedFrom", "[I", true)
  | 4 => ("PipeMoments$Stream", "queue", "[I", true)
  | 5 => ("PipeMoments$Stream", "queued", "I", false)
  | _ => ("PipeMoments$Stream", "arrival", "I", false)
def tyX3 : Nat → FieldType := fun k => match k with
  | 0 => .object "PipeMoments$Layout"
  | 1 => .array .int
  | 2 => .array .int
  | 3 => .array .int
  | 4 => .array .int
  | 5 => .int
  | _ => .int
abbrev wsX30 : List Cond := u_ws RX3 TX3 7
theorem nmX3 : ∀ a, a < 7 → ∀ b, b < 7 → a ≠ b → (TX3 a).2.1 ≠ (TX3 b).2.1 := by decide +kernel
theorem tyX3_ok : ∀ k, k < 7 → parseFieldDescriptor (TX3 k).2.2.1 = some (tyX3 k) := by decide +kernel
abbrev cX3_init : ByteArray := prog_5_method_1_code
def yX3_init : MethodName := ⟨RX3, "<init>", "()V"⟩
abbrev cX3_most : ByteArray := prog_5_method_2_code
def yX3_most : MethodName := ⟨RX3, "most", "(LPipeMoments$Layout;I)I"⟩
abbrev cX3_mostWithout : ByteArray := prog_5_method_3_code
def yX3_mostWithout : MethodName := ⟨RX3, "mostWithout", "(LPipeMoments$Layout;II)I"⟩
abbrev cX3_mostWider : ByteArray := prog_5_method_4_code
def yX3_mostWider : MethodName := ⟨RX3, "mostWider", "(LPipeMoments$Layout;II)I"⟩
abbrev cX3_mostWithUnit : ByteArray := prog_5_method_5_code
def yX3_mostWithUnit : MethodName := ⟨RX3, "mostWithUnit", "(LPipeMoments$Layout;II)I"⟩
abbrev cX3_mostRepeated : ByteArray := prog_5_method_6_code
def yX3_mostRepeated : MethodName := ⟨RX3, "mostRepeated", "(LPipeMoments$Layout;II)I"⟩
abbrev cX3_leastTick : ByteArray := prog_5_method_7_code
def yX3_leastTick : MethodName := ⟨RX3, "leastTick", "(LPipeMoments$Layout;I)I"⟩
abbrev cX3_leastTickAlone : ByteArray := prog_5_method_8_code
def yX3_leastTickAlone : MethodName := ⟨RX3, "leastTickAlone", "(LPipeMoments$Layout;I)I"⟩
abbrev cX3_usedPipes : ByteArray := prog_5_method_9_code
def yX3_usedPipes : MethodName := ⟨RX3, "usedPipes", "()I"⟩
abbrev cX3_isWanting : ByteArray := prog_5_method_10_code
def yX3_isWanting : MethodName := ⟨RX3, "isWanting", "(II)Z"⟩
abbrev cX3_narrowPipes : ByteArray := prog_5_method_11_code
def yX3_narrowPipes : MethodName := ⟨RX3, "narrowPipes", "(I)I"⟩
abbrev cX3_isNarrow : ByteArray := prog_5_method_12_code
def yX3_isNarrow : MethodName := ⟨RX3, "isNarrow", "(II)Z"⟩
abbrev cX3_mostBy : ByteArray := prog_5_method_13_code
def yX3_mostBy : MethodName := ⟨RX3, "mostBy", "(I)I"⟩
abbrev cX3_leastTickFor : ByteArray := prog_5_method_14_code
def yX3_leastTickFor : MethodName := ⟨RX3, "leastTickFor", "(I)I"⟩
abbrev cX3_through : ByteArray := prog_5_method_15_code
def yX3_through : MethodName := ⟨RX3, "through", "(II)I"⟩
abbrev cX3_waiting : ByteArray := prog_5_method_16_code
def yX3_waiting : MethodName := ⟨RX3, "waiting", "(I)I"⟩
abbrev cX3_settingOut : ByteArray := prog_5_method_17_code
def yX3_settingOut : MethodName := ⟨RX3, "settingOut", "(I)I"⟩
abbrev cX3_back : ByteArray := prog_5_method_18_code
def yX3_back : MethodName := ⟨RX3, "back", "(I)I"⟩
abbrev cX3_begin : ByteArray := prog_5_method_19_code
def yX3_begin : MethodName := ⟨RX3, "begin", "()V"⟩
abbrev cX3_bind : ByteArray := prog_5_method_20_code
def yX3_bind : MethodName := ⟨RX3, "bind", "(II)V"⟩
abbrev cX3_moreBy : ByteArray := prog_5_method_21_code
def yX3_moreBy : MethodName := ⟨RX3, "moreBy", "(I)I"⟩
abbrev cX3_search : ByteArray := prog_5_method_22_code
def yX3_search : MethodName := ⟨RX3, "search", "(I)V"⟩
abbrev cX3_spread : ByteArray := prog_5_method_23_code
def yX3_spread : MethodName := ⟨RX3, "spread", "(II)V"⟩
abbrev cX3_tryWay : ByteArray := prog_5_method_24_code
def yX3_tryWay : MethodName := ⟨RX3, "tryWay", "(III)V"⟩
abbrev cX3_carryToArrival : ByteArray := prog_5_method_25_code
def yX3_carryToArrival : MethodName := ⟨RX3, "carryToArrival", "()I"⟩
def RX4 : String := "PipeMoments"
def TX4 : u_T := fun k => match k with
  | 0 => ("PipeMoments", "laid", "LPipeMoments$Layout;", true)
  | 1 => ("PipeMoments", "history", "LPipeMoments$History;", true)
  | 2 => ("PipeMoments", "stream", "LPipeMoments$Stream;", true)
  | _ => ("PipeMoments", "settings", "LPipeMoments$Settings;", true)
def tyX4 : Nat → FieldType := fun k => match k with
  | 0 => .object "PipeMoments$Layout"
  | 1 => .object "PipeMoments$History"
  | 2 => .object "PipeMoments$Stream"
  | _ => .object "PipeMoments$Settings"
abbrev wsX40 : List Cond := u_ws RX4 TX4 4
theorem nmX4 : ∀ a, a < 4 → ∀ b, b < 4 → a ≠ b → (TX4 a).2.1 ≠ (TX4 b).2.1 := by decide +kernel
theorem tyX4_ok : ∀ k, k < 4 → parseFieldDescriptor (TX4 k).2.2.1 = some (tyX4 k) := by decide +kernel
abbrev cX4_init : ByteArray := prog_1_method_1_code
def yX4_init : MethodName := ⟨RX4, "<init>", "()V"⟩
abbrev cX4_place : ByteArray := prog_1_method_2_code
def yX4_place : MethodName := ⟨RX4, "place", "(II)I"⟩
abbrev cX4_pipe : ByteArray := prog_1_method_3_code
def yX4_pipe : MethodName := ⟨RX4, "pipe", "(IIII)I"⟩
abbrev cX4_dropPipe : ByteArray := prog_1_method_4_code
def yX4_dropPipe : MethodName := ⟨RX4, "dropPipe", "(I)I"⟩
abbrev cX4_open : ByteArray := prog_1_method_5_code
def yX4_open : MethodName := ⟨RX4, "open", "(III)I"⟩
abbrev cX4_widen : ByteArray := prog_1_method_6_code
def yX4_widen : MethodName := ⟨RX4, "widen", "(II)I"⟩
abbrev cX4_units : ByteArray := prog_1_method_7_code
def yX4_units : MethodName := ⟨RX4, "units", "(II)I"⟩
abbrev cX4_room : ByteArray := prog_1_method_8_code
def yX4_room : MethodName := ⟨RX4, "room", "(II)I"⟩
abbrev cX4_pipeOf : ByteArray := prog_1_method_9_code
def yX4_pipeOf : MethodName := ⟨RX4, "pipeOf", "(II)I"⟩
abbrev cX4_placeOf : ByteArray := prog_1_method_10_code
def yX4_placeOf : MethodName := ⟨RX4, "placeOf", "(II)I"⟩
abbrev cX4_come : ByteArray := prog_1_method_11_code
def yX4_come : MethodName := ⟨RX4, "come", "(I)I"⟩
abbrev cX4_earliest : ByteArray := prog_1_method_12_code
def yX4_earliest : MethodName := ⟨RX4, "earliest", "(I)I"⟩
abbrev cX4_repeated : ByteArray := prog_1_method_13_code
def yX4_repeated : MethodName := ⟨RX4, "repeated", "(II)I"⟩
abbrev cX4_narrow : ByteArray := prog_1_method_14_code
def yX4_narrow : MethodName := ⟨RX4, "narrow", "(I)I"⟩
abbrev cX4_wanting : ByteArray := prog_1_method_15_code
def yX4_wanting : MethodName := ⟨RX4, "wanting", "(III)I"⟩
abbrev cX4_dearest : ByteArray := prog_1_method_16_code
def yX4_dearest : MethodName := ⟨RX4, "dearest", "(II)I"⟩
abbrev cX4_helpful : ByteArray := prog_1_method_17_code
def yX4_helpful : MethodName := ⟨RX4, "helpful", "(II)I"⟩
abbrev cX4_withOneMore : ByteArray := prog_1_method_18_code
def yX4_withOneMore : MethodName := ⟨RX4, "withOneMore", "(II)I"⟩
abbrev cX4_count : ByteArray := prog_1_method_19_code
def yX4_count : MethodName := ⟨RX4, "count", "(I)I"⟩
abbrev cX4_undo : ByteArray := prog_1_method_20_code
def yX4_undo : MethodName := ⟨RX4, "undo", "()I"⟩
abbrev cX4_type : ByteArray := prog_1_method_21_code
def yX4_type : MethodName := ⟨RX4, "type", "(I)I"⟩
abbrev cX4_clearText : ByteArray := prog_1_method_22_code
def yX4_clearText : MethodName := ⟨RX4, "clearText", "()I"⟩
abbrev cX4_fault : ByteArray := prog_1_method_23_code
def yX4_fault : MethodName := ⟨RX4, "fault", "(I)I"⟩
abbrev cX4_play : ByteArray := prog_1_method_24_code
def yX4_play : MethodName := ⟨RX4, "play", "()I"⟩
abbrev cX4_within : ByteArray := prog_1_method_25_code
def yX4_within : MethodName := ⟨RX4, "within", "(III)Z"⟩
abbrev cX4_isTick : ByteArray := prog_1_method_26_code
def yX4_isTick : MethodName := ⟨RX4, "isTick", "(I)Z"⟩
abbrev cX4_has : ByteArray := prog_1_method_27_code
def yX4_has : MethodName := ⟨RX4, "has", "(II)Z"⟩
def RX5 : String := "PipeMomentsModel"
def TX5 : u_T := fun k => match k with
  | 0 => ("PipeMomentsModel", "s", "[I", true)
  | 1 => ("PipeMomentsModel", "was", "[I", true)
  | 2 => ("PipeMomentsModel", "begun", "[I", true)
  | 3 => ("PipeMomentsModel", "aside", "[I", true)
  | 4 => ("PipeMomentsModel", "states", "I", false)
  | 5 => ("PipeMomentsModel", "text", "[C", true)
  | 6 => ("PipeMomentsModel", "typed", "I", false)
  | 7 => ("PipeMomentsModel", "at", "I", false)
  | 8 => ("PipeMomentsModel", "reason", "I", false)
  | 9 => ("PipeMomentsModel", "cause", "I", false)
  | 10 => ("PipeMomentsModel", "number", "[I", true)
  | 11 => ("PipeMomentsModel", "out", "[I", true)
  | 12 => ("PipeMomentsModel", "wait", "[I", true)
  | 13 => ("PipeMomentsModel", "enter", "[I", true)
  | 14 => ("PipeMomentsModel", "back", "[I", true)
  | 15 => ("PipeMomentsModel", "by", "[I", true)
  | 16 => ("PipeMomentsModel", "row", "[I", true)
  | 17 => ("PipeMomentsModel", "end", "I", false)
  | 18 => ("PipeMomentsModel", "many", "I", false)
  | 19 => ("PipeMomentsModel", "without", "I", false)
  | 20 => ("PipeMomentsModel", "wider", "I", false)
  | 21 => ("PipeMomentsModel", "more", "I", false)
  | _ => ("PipeMomentsModel", "endless", "I", false)
def tyX5 : Nat → FieldType := fun k => match k with
  | 0 => .array .int
  | 1 => .array .int
  | 2 => .array .int
  | 3 => .array .int
  | 4 => .int
  | 5 => .array .char
  | 6 => .int
  | 7 => .int
  | 8 => .int
  | 9 => .int
  | 10 => .array .int
  | 11 => .array .int
  | 12 => .array .int
  | 13 => .array .int
  | 14 => .array .int
  | 15 => .array .int
  | 16 => .array .int
  | 17 => .int
  | 18 => .int
  | 19 => .int
  | 20 => .int
  | 21 => .int
  | _ => .int
abbrev wsX50 : List Cond := u_ws RX5 TX5 23
theorem nmX5 : ∀ a, a < 23 → ∀ b, b < 23 → a ≠ b → (TX5 a).2.1 ≠ (TX5 b).2.1 := by decide +kernel
theorem tyX5_ok : ∀ k, k < 23 → parseFieldDescriptor (TX5 k).2.2.1 = some (tyX5 k) := by decide +kernel
abbrev cX5_init : ByteArray := prog_7_method_1_code
def yX5_init : MethodName := ⟨RX5, "<init>", "()V"⟩
abbrev cX5_in : ByteArray := prog_7_method_2_code
def yX5_in : MethodName := ⟨RX5, "in", "(III)Z"⟩
abbrev cX5_asIs : ByteArray := prog_7_method_3_code
def yX5_asIs : MethodName := ⟨RX5, "asIs", "()V"⟩
abbrev cX5_isPlace : ByteArray := prog_7_method_4_code
def yX5_isPlace : MethodName := ⟨RX5, "isPlace", "(I)Z"⟩
abbrev cX5_isPipe : ByteArray := prog_7_method_5_code
def yX5_isPipe : MethodName := ⟨RX5, "isPipe", "(I)Z"⟩
abbrev cX5_pi : ByteArray := prog_7_method_6_code
def yX5_pi : MethodName := ⟨RX5, "pi", "(II)I"⟩
abbrev cX5_keeps : ByteArray := prog_7_method_7_code
def yX5_keeps : MethodName := ⟨RX5, "keeps", "()V"⟩
abbrev cX5_acted : ByteArray := prog_7_method_8_code
def yX5_acted : MethodName := ⟨RX5, "acted", "(I)I"⟩
abbrev cX5_adds : ByteArray := prog_7_method_9_code
def yX5_adds : MethodName := ⟨RX5, "adds", "(II)I"⟩
abbrev cX5_place : ByteArray := prog_7_method_10_code
def yX5_place : MethodName := ⟨RX5, "place", "(II)I"⟩
abbrev cX5_lays : ByteArray := prog_7_method_11_code
def yX5_lays : MethodName := ⟨RX5, "lays", "(IIII)I"⟩
abbrev cX5_pipe : ByteArray := prog_7_method_12_code
def yX5_pipe : MethodName := ⟨RX5, "pipe", "(IIII)I"⟩
abbrev cX5_dropPipe : ByteArray := prog_7_method_13_code
def yX5_dropPipe : MethodName := ⟨RX5, "dropPipe", "(I)I"⟩
abbrev cX5_opens : ByteArray := prog_7_method_14_code
def yX5_opens : MethodName := ⟨RX5, "opens", "(III)I"⟩
abbrev cX5_open : ByteArray := prog_7_method_15_code
def yX5_open : MethodName := ⟨RX5, "open", "(III)I"⟩
abbrev cX5_becomes : ByteArray := prog_7_method_16_code
def yX5_becomes : MethodName := ⟨RX5, "becomes", "(II)I"⟩
abbrev cX5_widen : ByteArray := prog_7_method_17_code
def yX5_widen : MethodName := ⟨RX5, "widen", "(II)I"⟩
abbrev cX5_units : ByteArray := prog_7_method_18_code
def yX5_units : MethodName := ⟨RX5, "units", "(II)I"⟩
abbrev cX5_room : ByteArray := prog_7_method_19_code
def yX5_room : MethodName := ⟨RX5, "room", "(II)I"⟩
abbrev cX5_pipeOf : ByteArray := prog_7_method_20_code
def yX5_pipeOf : MethodName := ⟨RX5, "pipeOf", "(II)I"⟩
abbrev cX5_pipesOf : ByteArray := prog_7_method_21_code
def yX5_pipesOf : MethodName := ⟨RX5, "pipesOf", "(II)I"⟩
abbrev cX5_alone : ByteArray := prog_7_method_22_code
def yX5_alone : MethodName := ⟨RX5, "alone", "(I)I"⟩
abbrev cX5_placeOf : ByteArray := prog_7_method_23_code
def yX5_placeOf : MethodName := ⟨RX5, "placeOf", "(II)I"⟩
abbrev cX5_unitsOf : ByteArray := prog_7_method_24_code
def yX5_unitsOf : MethodName := ⟨RX5, "unitsOf", "(I)I"⟩
abbrev cX5_roomOf : ByteArray := prog_7_method_25_code
def yX5_roomOf : MethodName := ⟨RX5, "roomOf", "(I)I"⟩
abbrev cX5_isOpen : ByteArray := prog_7_method_26_code
def yX5_isOpen : MethodName := ⟨RX5, "isOpen", "(II)Z"⟩
abbrev cX5_reaches : ByteArray := prog_7_method_27_code
def yX5_reaches : MethodName := ⟨RX5, "reaches", "(III)V"⟩
abbrev cX5_looks : ByteArray := prog_7_method_28_code
def yX5_looks : MethodName := ⟨RX5, "looks", "(I)V"⟩
abbrev cX5_finds : ByteArray := prog_7_method_29_code
def yX5_finds : MethodName := ⟨RX5, "finds", "()Z"⟩
abbrev cX5_goes : ByteArray := prog_7_method_30_code
def yX5_goes : MethodName := ⟨RX5, "goes", "()V"⟩
abbrev cX5_comes : ByteArray := prog_7_method_31_code
def yX5_comes : MethodName := ⟨RX5, "comes", "(I)I"⟩
abbrev cX5_come : ByteArray := prog_7_method_32_code
def yX5_come : MethodName := ⟨RX5, "come", "(I)I"⟩
abbrev cX5_all : ByteArray := prog_7_method_33_code
def yX5_all : MethodName := ⟨RX5, "all", "()I"⟩
abbrev cX5_earliest : ByteArray := prog_7_method_34_code
def yX5_earliest : MethodName := ⟨RX5, "earliest", "(I)I"⟩
abbrev cX5_repeated : ByteArray := prog_7_method_35_code
def yX5_repeated : MethodName := ⟨RX5, "repeated", "(II)I"⟩
abbrev cX5_isNarrow : ByteArray := prog_7_method_36_code
def yX5_isNarrow : MethodName := ⟨RX5, "isNarrow", "(I)Z"⟩
abbrev cX5_narrow : ByteArray := prog_7_method_37_code
def yX5_narrow : MethodName := ⟨RX5, "narrow", "(I)I"⟩
abbrev cX5_wanting : ByteArray := prog_7_method_38_code
def yX5_wanting : MethodName := ⟨RX5, "wanting", "(III)I"⟩
abbrev cX5_dearest : ByteArray := prog_7_method_39_code
def yX5_dearest : MethodName := ⟨RX5, "dearest", "(II)I"⟩
abbrev cX5_helpful : ByteArray := prog_7_method_40_code
def yX5_helpful : MethodName := ⟨RX5, "helpful", "(II)I"⟩
abbrev cX5_withOneMore : ByteArray := prog_7_method_41_code
def yX5_withOneMore : MethodName := ⟨RX5, "withOneMore", "(II)I"⟩
abbrev cX5_bounds : ByteArray := prog_7_method_42_code
def yX5_bounds : MethodName := ⟨RX5, "bounds", "()I"⟩
abbrev cX5_count : ByteArray := prog_7_method_43_code
def yX5_count : MethodName := ⟨RX5, "count", "(I)I"⟩
abbrev cX5_undo : ByteArray := prog_7_method_44_code
def yX5_undo : MethodName := ⟨RX5, "undo", "()I"⟩
abbrev cX5_type : ByteArray := prog_7_method_45_code
def yX5_type : MethodName := ⟨RX5, "type", "(I)I"⟩
abbrev cX5_clearText : ByteArray := prog_7_method_46_code
def yX5_clearText : MethodName := ⟨RX5, "clearText", "()I"⟩
abbrev cX5_sign : ByteArray := prog_7_method_47_code
def yX5_sign : MethodName := ⟨RX5, "sign", "()I"⟩
abbrev cX5_readsNumber : ByteArray := prog_7_method_48_code
def yX5_readsNumber : MethodName := ⟨RX5, "readsNumber", "(I)Z"⟩
abbrev cX5_reads : ByteArray := prog_7_method_49_code
def yX5_reads : MethodName := ⟨RX5, "reads", "(I)Z"⟩
abbrev cX5_isRight : ByteArray := prog_7_method_50_code
def yX5_isRight : MethodName := ⟨RX5, "isRight", "(II)Z"⟩
abbrev cX5_does : ByteArray := prog_7_method_51_code
def yX5_does : MethodName := ⟨RX5, "does", "(I)I"⟩
abbrev cX5_doesNext : ByteArray := prog_7_method_52_code
def yX5_doesNext : MethodName := ⟨RX5, "doesNext", "()I"⟩
abbrev cX5_faulty : ByteArray := prog_7_method_53_code
def yX5_faulty : MethodName := ⟨RX5, "faulty", "()I"⟩
abbrev cX5_fault : ByteArray := prog_7_method_54_code
def yX5_fault : MethodName := ⟨RX5, "fault", "(I)I"⟩
abbrev cX5_play : ByteArray := prog_7_method_55_code
def yX5_play : MethodName := ⟨RX5, "play", "()I"⟩
def RJ9 : String := "java/lang/Math"
def TJ9 : u_T := fun k => match k with
  | _ => ("", "", "", false)
def tyJ9 : Nat → FieldType := fun k => match k with
  | _ => .int
abbrev wsJ90 : List Cond := u_ws RJ9 TJ9 0
theorem nmJ9 : ∀ a, a < 0 → ∀ b, b < 0 → a ≠ b → (TJ9 a).2.1 ≠ (TJ9 b).2.1 := by decide +kernel
theorem tyJ9_ok : ∀ k, k < 0 → parseFieldDescriptor (TJ9 k).2.2.1 = some (tyJ9 k) := by decide +kernel
abbrev cJ9_max_7cf53 : ByteArray := prog_8_method_65_code
def yJ9_max_7cf53 : MethodName := ⟨RJ9, "max", "(II)I"⟩
abbrev cJ9_min_7cf53 : ByteArray := prog_8_method_69_code
def yJ9_min_7cf53 : MethodName := ⟨RJ9, "min", "(II)I"⟩
def RJ10 : String := "java/lang/System"
def TJ10 : u_T := fun k => match k with
  | _ => ("", "", "", false)
def tyJ10 : Nat → FieldType := fun k => match k with
  | _ => .int
abbrev wsJ100 : List Cond := u_ws RJ10 TJ10 0
theorem nmJ10 : ∀ a, a < 0 → ∀ b, b < 0 → a ≠ b → (TJ10 a).2.1 ≠ (TJ10 b).2.1 := by decide +kernel
theorem tyJ10_ok : ∀ k, k < 0 → parseFieldDescriptor (TJ10 k).2.2.1 = some (tyJ10 k) := by decide +kernel
def RJ7 : String := "java/util/Arrays"
def TJ7 : u_T := fun k => match k with
  | _ => ("", "", "", false)
def tyJ7 : Nat → FieldType := fun k => match k with
  | _ => .int
abbrev wsJ70 : List Cond := u_ws RJ7 TJ7 0
theorem nmJ7 : ∀ a, a < 0 → ∀ b, b < 0 → a ≠ b → (TJ7 a).2.1 ≠ (TJ7 b).2.1 := by decide +kernel
theorem tyJ7_ok : ∀ k, k < 0 → parseFieldDescriptor (TJ7 k).2.2.1 = some (tyJ7 k) := by decide +kernel
abbrev cJ7_fill_53178 : ByteArray := prog_10_method_103_code
def yJ7_fill_53178 : MethodName := ⟨RJ7, "fill", "([II)V"⟩
def RL : String := "PipeMomentsLaw"
abbrev cL_law : ByteArray := code
def yL_law : MethodName := ⟨RL, "law", "([I)Z"⟩
end
section
def lw_g : List Cond := lw_tbl.filter goodWord
theorem gm {w : Cond} (h : w ∈ lw_tbl) (g : goodWord w = true) : w ∈ lw_g := List.mem_filter.mpr ⟨h, g⟩
theorem gd_all {w : Cond} (h : w ∈ lw_g) : (w.onTables && w.keeps) = true ∨ ∃ ty, w = .arrayClass ty := good_of_word (List.mem_filter.mp h).2
theorem i_X0 : ∀ w ∈ u_ws RX0 TX0 2, w ∈ lw_g := fun w h => gm ((by decide +kernel : ∀ w ∈ u_ws RX0 TX0 2, w ∈ lw_tbl) w h) ((by decide +kernel : ∀ w ∈ u_ws RX0 TX0 2, goodWord w = true) w h)
theorem i_X1 : ∀ w ∈ u_ws RX1 TX1 5, w ∈ lw_g := fun w h => gm ((by decide +kernel : ∀ w ∈ u_ws RX1 TX1 5, w ∈ lw_tbl) w h) ((by decide +kernel : ∀ w ∈ u_ws RX1 TX1 5, goodWord w = true) w h)
theorem i_X2 : ∀ w ∈ u_ws RX2 TX2 9, w ∈ lw_g := fun w h => gm ((by decide +kernel : ∀ w ∈ u_ws RX2 TX2 9, w ∈ lw_tbl) w h) ((by decide +kernel : ∀ w ∈ u_ws RX2 TX2 9, goodWord w = true) w h)
theorem i_X3 : ∀ w ∈ u_ws RX3 TX3 7, w ∈ lw_g := fun w h => gm ((by decide +kernel : ∀ w ∈ u_ws RX3 TX3 7, w ∈ lw_tbl) w h) ((by decide +kernel : ∀ w ∈ u_ws RX3 TX3 7, goodWord w = true) w h)
theorem i_X4 : ∀ w ∈ u_ws RX4 TX4 4, w ∈ lw_g := fun w h => gm ((by decide +kernel : ∀ w ∈ u_ws RX4 TX4 4, w ∈ lw_tbl) w h) ((by decide +kernel : ∀ w ∈ u_ws RX4 TX4 4, goodWord w = true) w h)
theorem i_X5 : ∀ w ∈ u_ws RX5 TX5 23, w ∈ lw_g := fun w h => gm ((by decide +kernel : ∀ w ∈ u_ws RX5 TX5 23, w ∈ lw_tbl) w h) ((by decide +kernel : ∀ w ∈ u_ws RX5 TX5 23, goodWord w = true) w h)
theorem wd_0 : (Jvm.Cond.initialized "PipeMomentsLaw") ∈ lw_g := gm (List.mem_of_getElem? (i := 49) (by decide +kernel)) rfl
theorem wd_1 : (Jvm.Cond.initialized "PipeMoments") ∈ lw_g := gm (List.mem_of_getElem? (i := 50) (by decide +kernel)) rfl
theorem wd_2 : (Jvm.Cond.initialized "PipeMoments$Layout") ∈ lw_g := gm (List.mem_of_getElem? (i := 51) (by decide +kernel)) rfl
theorem wd_3 : (Jvm.Cond.initialized "PipeMoments$History") ∈ lw_g := gm (List.mem_of_getElem? (i := 52) (by decide +kernel)) rfl
theorem wd_4 : (Jvm.Cond.initialized "PipeMoments$Stream") ∈ lw_g := gm (List.mem_of_getElem? (i := 53) (by decide +kernel)) rfl
theorem wd_5 : (Jvm.Cond.initialized "PipeMoments$Settings") ∈ lw_g := gm (List.mem_of_getElem? (i := 54) (by decide +kernel)) rfl
theorem wd_6 : (Jvm.Cond.initialized "PipeMomentsModel") ∈ lw_g := gm (List.mem_of_getElem? (i := 55) (by decide +kernel)) rfl
theorem wd_7 : (Jvm.Cond.initialized "java/lang/System") ∈ lw_g := gm (List.mem_of_getElem? (i := 56) (by decide +kernel)) rfl
theorem wd_8 : (Jvm.Cond.initialized "java/lang/Math") ∈ lw_g := gm (List.mem_of_getElem? (i := 57) (by decide +kernel)) rfl
theorem wd_9 : (Jvm.Cond.initialized "java/util/Arrays") ∈ lw_g := gm (List.mem_of_getElem? (i := 58) (by decide +kernel)) rfl
theorem wd_10 : (Jvm.Cond.classLink "PipeMomentsLaw" (7 : Nat) "PipeMoments") ∈ lw_g := gm (List.mem_of_getElem? (i := 59) (by decide +kernel)) rfl
theorem wd_11 : (Jvm.Cond.instantiable "PipeMoments" (4 : Nat)) ∈ lw_g := gm (List.mem_of_getElem? (i := 60) (by decide +kernel)) rfl
theorem wd_12 : (Jvm.Cond.methodLink "PipeMomentsLaw" (9 : Nat) ({ cls := "PipeMoments", name := "<init>", desc := "()V" } : Jvm.MethodName)) ∈ lw_g := gm (List.mem_of_getElem? (i := 61) (by decide +kernel)) rfl
theorem wd_13 : (Jvm.Cond.instanceMethod ({ cls := "PipeMoments", name := "<init>", desc := "()V" } : Jvm.MethodName)) ∈ lw_g := gm (List.mem_of_getElem? (i := 62) (by decide +kernel)) rfl
theorem wd_14 : (Jvm.Cond.code ({ cls := "PipeMoments", name := "<init>", desc := "()V" } : Jvm.MethodName) prog_1_method_1_code (1 : Nat) (Option.none : Option Jvm.ClassFile.FieldType)) ∈ lw_g := gm (List.mem_of_getElem? (i := 63) (by decide +kernel)) rfl
theorem wd_15 : (Jvm.Cond.methodLink "PipeMoments" (1 : Nat) ({ cls := "java/lang/Object", name := "<init>", desc := "()V" } : Jvm.MethodName)) ∈ lw_g := gm (List.mem_of_getElem? (i := 64) (by decide +kernel)) rfl
theorem wd_16 : (Jvm.Cond.instanceMethod ({ cls := "java/lang/Object", name := "<init>", desc := "()V" } : Jvm.MethodName)) ∈ lw_g := gm (List.mem_of_getElem? (i := 65) (by decide +kernel)) rfl
theorem wd_17 : (Jvm.Cond.code ({ cls := "java/lang/Object", name := "<init>", desc := "()V" } : Jvm.MethodName) object_method_1_code (1 : Nat) (Option.none : Option Jvm.ClassFile.FieldType)) ∈ lw_g := gm (List.mem_of_getElem? (i := 66) (by decide +kernel)) rfl
theorem wd_18 : (Jvm.Cond.classLink "PipeMoments" (7 : Nat) "PipeMoments$Layout") ∈ lw_g := gm (List.mem_of_getElem? (i := 67) (by decide +kernel)) rfl
theorem wd_19 : (Jvm.Cond.instantiable "PipeMoments$Layout" (5 : Nat)) ∈ lw_g := gm (List.mem_of_getElem? (i := 68) (by decide +kernel)) rfl
theorem wd_20 : (Jvm.Cond.methodLink "PipeMoments" (9 : Nat) ({ cls := "PipeMoments$Layout", name := "<init>", desc := "()V" } : Jvm.MethodName)) ∈ lw_g := gm (List.mem_of_getElem? (i := 69) (by decide +kernel)) rfl
theorem wd_21 : (Jvm.Cond.instanceMethod ({ cls := "PipeMoments$Layout", name := "<init>", desc := "()V" } : Jvm.MethodName)) ∈ lw_g := gm (List.mem_of_getElem? (i := 70) (by decide +kernel)) rfl
theorem wd_22 : (Jvm.Cond.code ({ cls := "PipeMoments$Layout", name := "<init>", desc := "()V" } : Jvm.MethodName) prog_3_method_1_code (1 : Nat) (Option.none : Option Jvm.ClassFile.FieldType)) ∈ lw_g := gm (List.mem_of_getElem? (i := 71) (by decide +kernel)) rfl
theorem wd_23 : (Jvm.Cond.methodLink "PipeMoments$Layout" (3 : Nat) ({ cls := "java/lang/Object", name := "<init>", desc := "()V" } : Jvm.MethodName)) ∈ lw_g := gm (List.mem_of_getElem? (i := 72) (by decide +kernel)) rfl
theorem wd_24 : (Jvm.Cond.fieldLink "PipeMoments$Layout" (9 : Nat) "PipeMoments$Layout" "unitsAt" "[I") ∈ lw_g := gm (List.mem_of_getElem? (i := 73) (by decide +kernel)) rfl
theorem wd_25 : (Jvm.Cond.fieldLinkNest "PipeMoments$Stream" (54 : Nat) "PipeMoments$Layout" "unitsAt" "[I" "PipeMoments") ∈ lw_tbl := List.mem_of_getElem? (i := 74) (by decide +kernel)
theorem wd_26 : (Jvm.Cond.fieldLinkNest "PipeMoments" (102 : Nat) "PipeMoments$Layout" "unitsAt" "[I" "PipeMoments") ∈ lw_tbl := List.mem_of_getElem? (i := 75) (by decide +kernel)
theorem wd_27 : (Jvm.Cond.fieldLinkNest "PipeMoments$Settings" (117 : Nat) "PipeMoments$Layout" "unitsAt" "[I" "PipeMoments") ∈ lw_tbl := List.mem_of_getElem? (i := 76) (by decide +kernel)
theorem wd_28 : (Jvm.Cond.fieldLink "PipeMoments$Layout" (15 : Nat) "PipeMoments$Layout" "roomAt" "[I") ∈ lw_g := gm (List.mem_of_getElem? (i := 77) (by decide +kernel)) rfl
theorem wd_29 : (Jvm.Cond.fieldLinkNest "PipeMoments$Stream" (63 : Nat) "PipeMoments$Layout" "roomAt" "[I" "PipeMoments") ∈ lw_tbl := List.mem_of_getElem? (i := 78) (by decide +kernel)
theorem wd_30 : (Jvm.Cond.fieldLinkNest "PipeMoments" (109 : Nat) "PipeMoments$Layout" "roomAt" "[I" "PipeMoments") ∈ lw_tbl := List.mem_of_getElem? (i := 79) (by decide +kernel)
theorem wd_31 : (Jvm.Cond.fieldLink "PipeMoments$Layout" (18 : Nat) "PipeMoments$Layout" "parts" "[I") ∈ lw_g := gm (List.mem_of_getElem? (i := 80) (by decide +kernel)) rfl
theorem wd_32 : (Jvm.Cond.fieldLink "PipeMoments$Layout" (21 : Nat) "PipeMoments$Layout" "placeCount" "I") ∈ lw_g := gm (List.mem_of_getElem? (i := 81) (by decide +kernel)) rfl
theorem wd_33 : (Jvm.Cond.fieldLinkNest "PipeMoments" (160 : Nat) "PipeMoments$Layout" "placeCount" "I" "PipeMoments") ∈ lw_tbl := List.mem_of_getElem? (i := 82) (by decide +kernel)
theorem wd_34 : (Jvm.Cond.fieldLinkNest "PipeMoments$Stream" (103 : Nat) "PipeMoments$Layout" "placeCount" "I" "PipeMoments") ∈ lw_tbl := List.mem_of_getElem? (i := 83) (by decide +kernel)
theorem wd_35 : (Jvm.Cond.fieldLink "PipeMoments$Layout" (25 : Nat) "PipeMoments$Layout" "pipeCount" "I") ∈ lw_g := gm (List.mem_of_getElem? (i := 84) (by decide +kernel)) rfl
theorem wd_36 : (Jvm.Cond.fieldLinkNest "PipeMoments" (72 : Nat) "PipeMoments$Layout" "pipeCount" "I" "PipeMoments") ∈ lw_tbl := List.mem_of_getElem? (i := 85) (by decide +kernel)
theorem wd_37 : (Jvm.Cond.fieldLinkNest "PipeMoments$Stream" (67 : Nat) "PipeMoments$Layout" "pipeCount" "I" "PipeMoments") ∈ lw_tbl := List.mem_of_getElem? (i := 86) (by decide +kernel)
theorem wd_49 : (Jvm.Cond.arrayClass Jvm.ClassFile.FieldType.int) ∈ lw_g := gm (List.mem_of_getElem? (i := 98) (by decide +kernel)) rfl
theorem wd_50 : (Jvm.Cond.classLink "PipeMoments" (16 : Nat) "PipeMoments$History") ∈ lw_g := gm (List.mem_of_getElem? (i := 99) (by decide +kernel)) rfl
theorem wd_51 : (Jvm.Cond.instantiable "PipeMoments$History" (2 : Nat)) ∈ lw_g := gm (List.mem_of_getElem? (i := 100) (by decide +kernel)) rfl
theorem wd_52 : (Jvm.Cond.methodLink "PipeMoments" (18 : Nat) ({ cls := "PipeMoments$History", name := "<init>", desc := "()V" } : Jvm.MethodName)) ∈ lw_g := gm (List.mem_of_getElem? (i := 101) (by decide +kernel)) rfl
theorem wd_53 : (Jvm.Cond.instanceMethod ({ cls := "PipeMoments$History", name := "<init>", desc := "()V" } : Jvm.MethodName)) ∈ lw_g := gm (List.mem_of_getElem? (i := 102) (by decide +kernel)) rfl
theorem wd_54 : (Jvm.Cond.code ({ cls := "PipeMoments$History", name := "<init>", desc := "()V" } : Jvm.MethodName) prog_2_method_1_code (2 : Nat) (Option.none : Option Jvm.ClassFile.FieldType)) ∈ lw_g := gm (List.mem_of_getElem? (i := 103) (by decide +kernel)) rfl
theorem wd_55 : (Jvm.Cond.methodLink "PipeMoments$History" (3 : Nat) ({ cls := "java/lang/Object", name := "<init>", desc := "()V" } : Jvm.MethodName)) ∈ lw_g := gm (List.mem_of_getElem? (i := 104) (by decide +kernel)) rfl
theorem wd_56 : (Jvm.Cond.classLink "PipeMoments$History" (9 : Nat) "PipeMoments$Layout") ∈ lw_g := gm (List.mem_of_getElem? (i := 105) (by decide +kernel)) rfl
theorem wd_57 : (Jvm.Cond.arrayOver (Jvm.ClassFile.FieldType.object "PipeMoments$Layout")) ∈ lw_tbl := List.mem_of_getElem? (i := 106) (by decide +kernel)
theorem wd_58 : (Jvm.Cond.methodLink "PipeMoments$History" (21 : Nat) ({ cls := "PipeMoments$Layout", name := "<init>", desc := "()V" } : Jvm.MethodName)) ∈ lw_g := gm (List.mem_of_getElem? (i := 107) (by decide +kernel)) rfl
theorem wd_59 : (Jvm.Cond.fieldLink "PipeMoments$History" (11 : Nat) "PipeMoments$History" "states" "[LPipeMoments$Layout;") ∈ lw_g := gm (List.mem_of_getElem? (i := 108) (by decide +kernel)) rfl
theorem wd_60 : (Jvm.Cond.fieldLink "PipeMoments$History" (17 : Nat) "PipeMoments$History" "kept" "I") ∈ lw_g := gm (List.mem_of_getElem? (i := 109) (by decide +kernel)) rfl
theorem wd_61 : (Jvm.Cond.fieldLinkNest "PipeMoments" (166 : Nat) "PipeMoments$History" "kept" "I" "PipeMoments") ∈ lw_tbl := List.mem_of_getElem? (i := 110) (by decide +kernel)
theorem wd_67 : (Jvm.Cond.classLink "PipeMoments" (23 : Nat) "PipeMoments$Stream") ∈ lw_g := gm (List.mem_of_getElem? (i := 116) (by decide +kernel)) rfl
theorem wd_68 : (Jvm.Cond.instantiable "PipeMoments$Stream" (7 : Nat)) ∈ lw_g := gm (List.mem_of_getElem? (i := 117) (by decide +kernel)) rfl
theorem wd_69 : (Jvm.Cond.methodLinkNest "PipeMoments" (25 : Nat) ({ cls := "PipeMoments$Stream", name := "<init>", desc := "()V" } : Jvm.MethodName) "PipeMoments") ∈ lw_tbl := List.mem_of_getElem? (i := 118) (by decide +kernel)
theorem wd_70 : (Jvm.Cond.instanceMethod ({ cls := "PipeMoments$Stream", name := "<init>", desc := "()V" } : Jvm.MethodName)) ∈ lw_g := gm (List.mem_of_getElem? (i := 119) (by decide +kernel)) rfl
theorem wd_71 : (Jvm.Cond.code ({ cls := "PipeMoments$Stream", name := "<init>", desc := "()V" } : Jvm.MethodName) prog_5_method_1_code (1 : Nat) (Option.none : Option Jvm.ClassFile.FieldType)) ∈ lw_g := gm (List.mem_of_getElem? (i := 120) (by decide +kernel)) rfl
theorem wd_72 : (Jvm.Cond.methodLink "PipeMoments$Stream" (5 : Nat) ({ cls := "java/lang/Object", name := "<init>", desc := "()V" } : Jvm.MethodName)) ∈ lw_g := gm (List.mem_of_getElem? (i := 121) (by decide +kernel)) rfl
theorem wd_73 : (Jvm.Cond.classLink "PipeMoments$Stream" (11 : Nat) "PipeMoments$Layout") ∈ lw_g := gm (List.mem_of_getElem? (i := 122) (by decide +kernel)) rfl
theorem wd_74 : (Jvm.Cond.methodLink "PipeMoments$Stream" (13 : Nat) ({ cls := "PipeMoments$Layout", name := "<init>", desc := "()V" } : Jvm.MethodName)) ∈ lw_g := gm (List.mem_of_getElem? (i := 123) (by decide +kernel)) rfl
theorem wd_75 : (Jvm.Cond.fieldLink "PipeMoments$Stream" (14 : Nat) "PipeMoments$Stream" "net" "LPipeMoments$Layout;") ∈ lw_g := gm (List.mem_of_getElem? (i := 124) (by decide +kernel)) rfl
theorem wd_76 : (Jvm.Cond.fieldLink "PipeMoments$Stream" (18 : Nat) "PipeMoments$Stream" "left" "[I") ∈ lw_g := gm (List.mem_of_getElem? (i := 125) (by decide +kernel)) rfl
theorem wd_77 : (Jvm.Cond.fieldLink "PipeMoments$Stream" (22 : Nat) "PipeMoments$Stream" "reachedBy" "[I") ∈ lw_g := gm (List.mem_of_getElem? (i := 126) (by decide +kernel)) rfl
theorem wd_78 : (Jvm.Cond.fieldLink "PipeMoments$Stream" (25 : Nat) "PipeMoments$Stream" "reachedFrom" "[I") ∈ lw_g := gm (List.mem_of_getElem? (i := 127) (by decide +kernel)) rfl
theorem wd_79 : (Jvm.Cond.fieldLink "PipeMoments$Stream" (28 : Nat) "PipeMoments$Stream" "queue" "[I") ∈ lw_g := gm (List.mem_of_getElem? (i := 128) (by decide +kernel)) rfl
theorem wd_80 : (Jvm.Cond.fieldLink "PipeMoments$Stream" (31 : Nat) "PipeMoments$Stream" "queued" "I") ∈ lw_g := gm (List.mem_of_getElem? (i := 129) (by decide +kernel)) rfl
theorem wd_81 : (Jvm.Cond.fieldLink "PipeMoments$Stream" (35 : Nat) "PipeMoments$Stream" "arrival" "I") ∈ lw_g := gm (List.mem_of_getElem? (i := 130) (by decide +kernel)) rfl
theorem wd_97 : (Jvm.Cond.classLink "PipeMoments" (30 : Nat) "PipeMoments$Settings") ∈ lw_g := gm (List.mem_of_getElem? (i := 146) (by decide +kernel)) rfl
theorem wd_98 : (Jvm.Cond.instantiable "PipeMoments$Settings" (9 : Nat)) ∈ lw_g := gm (List.mem_of_getElem? (i := 147) (by decide +kernel)) rfl
theorem wd_99 : (Jvm.Cond.methodLinkNest "PipeMoments" (32 : Nat) ({ cls := "PipeMoments$Settings", name := "<init>", desc := "()V" } : Jvm.MethodName) "PipeMoments") ∈ lw_tbl := List.mem_of_getElem? (i := 148) (by decide +kernel)
theorem wd_100 : (Jvm.Cond.instanceMethod ({ cls := "PipeMoments$Settings", name := "<init>", desc := "()V" } : Jvm.MethodName)) ∈ lw_g := gm (List.mem_of_getElem? (i := 149) (by decide +kernel)) rfl
theorem wd_101 : (Jvm.Cond.code ({ cls := "PipeMoments$Settings", name := "<init>", desc := "()V" } : Jvm.MethodName) prog_4_method_1_code (1 : Nat) (Option.none : Option Jvm.ClassFile.FieldType)) ∈ lw_g := gm (List.mem_of_getElem? (i := 150) (by decide +kernel)) rfl
theorem wd_102 : (Jvm.Cond.methodLink "PipeMoments$Settings" (3 : Nat) ({ cls := "java/lang/Object", name := "<init>", desc := "()V" } : Jvm.MethodName)) ∈ lw_g := gm (List.mem_of_getElem? (i := 151) (by decide +kernel)) rfl
theorem wd_103 : (Jvm.Cond.classLink "PipeMoments$Settings" (19 : Nat) "PipeMoments$Layout") ∈ lw_g := gm (List.mem_of_getElem? (i := 152) (by decide +kernel)) rfl
theorem wd_104 : (Jvm.Cond.methodLink "PipeMoments$Settings" (21 : Nat) ({ cls := "PipeMoments$Layout", name := "<init>", desc := "()V" } : Jvm.MethodName)) ∈ lw_g := gm (List.mem_of_getElem? (i := 153) (by decide +kernel)) rfl
theorem wd_105 : (Jvm.Cond.fieldLink "PipeMoments$Settings" (9 : Nat) "PipeMoments$Settings" "signs" "[C") ∈ lw_g := gm (List.mem_of_getElem? (i := 154) (by decide +kernel)) rfl
theorem wd_106 : (Jvm.Cond.fieldLink "PipeMoments$Settings" (15 : Nat) "PipeMoments$Settings" "numbers" "[I") ∈ lw_g := gm (List.mem_of_getElem? (i := 155) (by decide +kernel)) rfl
theorem wd_107 : (Jvm.Cond.fieldLink "PipeMoments$Settings" (22 : Nat) "PipeMoments$Settings" "trial" "LPipeMoments$Layout;") ∈ lw_g := gm (List.mem_of_getElem? (i := 156) (by decide +kernel)) rfl
theorem wd_108 : (Jvm.Cond.fieldLinkNest "PipeMoments" (192 : Nat) "PipeMoments$Settings" "trial" "LPipeMoments$Layout;" "PipeMoments") ∈ lw_tbl := List.mem_of_getElem? (i := 157) (by decide +kernel)
theorem wd_109 : (Jvm.Cond.fieldLink "PipeMoments$Settings" (26 : Nat) "PipeMoments$Settings" "length" "I") ∈ lw_g := gm (List.mem_of_getElem? (i := 158) (by decide +kernel)) rfl
theorem wd_110 : (Jvm.Cond.fieldLinkNest "PipeMoments" (169 : Nat) "PipeMoments$Settings" "length" "I" "PipeMoments") ∈ lw_tbl := List.mem_of_getElem? (i := 159) (by decide +kernel)
theorem wd_111 : (Jvm.Cond.fieldLink "PipeMoments$Settings" (30 : Nat) "PipeMoments$Settings" "next" "I") ∈ lw_g := gm (List.mem_of_getElem? (i := 160) (by decide +kernel)) rfl
theorem wd_112 : (Jvm.Cond.fieldLink "PipeMoments$Settings" (33 : Nat) "PipeMoments$Settings" "start" "I") ∈ lw_g := gm (List.mem_of_getElem? (i := 161) (by decide +kernel)) rfl
theorem wd_113 : (Jvm.Cond.fieldLink "PipeMoments$Settings" (36 : Nat) "PipeMoments$Settings" "reason" "I") ∈ lw_g := gm (List.mem_of_getElem? (i := 162) (by decide +kernel)) rfl
theorem wd_114 : (Jvm.Cond.fieldLinkNest "PipeMoments" (186 : Nat) "PipeMoments$Settings" "reason" "I" "PipeMoments") ∈ lw_tbl := List.mem_of_getElem? (i := 163) (by decide +kernel)
theorem wd_115 : (Jvm.Cond.fieldLink "PipeMoments$Settings" (39 : Nat) "PipeMoments$Settings" "cause" "I") ∈ lw_g := gm (List.mem_of_getElem? (i := 164) (by decide +kernel)) rfl
theorem wd_116 : (Jvm.Cond.fieldLink "PipeMoments$Settings" (42 : Nat) "PipeMoments$Settings" "settled" "I") ∈ lw_g := gm (List.mem_of_getElem? (i := 165) (by decide +kernel)) rfl
theorem wd_117 : (Jvm.Cond.fieldLinkNest "PipeMoments" (198 : Nat) "PipeMoments$Settings" "settled" "I" "PipeMoments") ∈ lw_tbl := List.mem_of_getElem? (i := 166) (by decide +kernel)
theorem wd_137 : (Jvm.Cond.arrayClass Jvm.ClassFile.FieldType.char) ∈ lw_g := gm (List.mem_of_getElem? (i := 186) (by decide +kernel)) rfl
theorem wd_138 : (Jvm.Cond.fieldLink "PipeMoments" (10 : Nat) "PipeMoments" "laid" "LPipeMoments$Layout;") ∈ lw_g := gm (List.mem_of_getElem? (i := 187) (by decide +kernel)) rfl
theorem wd_139 : (Jvm.Cond.fieldLink "PipeMoments" (19 : Nat) "PipeMoments" "history" "LPipeMoments$History;") ∈ lw_g := gm (List.mem_of_getElem? (i := 188) (by decide +kernel)) rfl
theorem wd_140 : (Jvm.Cond.fieldLink "PipeMoments" (26 : Nat) "PipeMoments" "stream" "LPipeMoments$Stream;") ∈ lw_g := gm (List.mem_of_getElem? (i := 189) (by decide +kernel)) rfl
theorem wd_141 : (Jvm.Cond.fieldLink "PipeMoments" (33 : Nat) "PipeMoments" "settings" "LPipeMoments$Settings;") ∈ lw_g := gm (List.mem_of_getElem? (i := 190) (by decide +kernel)) rfl
theorem wd_151 : (Jvm.Cond.methodLink "PipeMomentsLaw" (13 : Nat) ({ cls := "PipeMoments", name := "place", desc := "(II)I" } : Jvm.MethodName)) ∈ lw_g := gm (List.mem_of_getElem? (i := 200) (by decide +kernel)) rfl
theorem wd_152 : (Jvm.Cond.instanceMethod ({ cls := "PipeMoments", name := "place", desc := "(II)I" } : Jvm.MethodName)) ∈ lw_g := gm (List.mem_of_getElem? (i := 201) (by decide +kernel)) rfl
theorem wd_153 : (Jvm.Cond.selects "PipeMoments" ({ cls := "PipeMoments", name := "place", desc := "(II)I" } : Jvm.MethodName) ({ cls := "PipeMoments", name := "place", desc := "(II)I" } : Jvm.MethodName)) ∈ lw_g := gm (List.mem_of_getElem? (i := 202) (by decide +kernel)) rfl
theorem wd_154 : (Jvm.Cond.code ({ cls := "PipeMoments", name := "place", desc := "(II)I" } : Jvm.MethodName) prog_1_method_2_code (3 : Nat) (Option.some Jvm.ClassFile.FieldType.int)) ∈ lw_g := gm (List.mem_of_getElem? (i := 203) (by decide +kernel)) rfl
theorem wd_155 : (Jvm.Cond.methodLink "PipeMoments" (37 : Nat) ({ cls := "PipeMoments$Layout", name := "badOfPlace", desc := "(II)I" } : Jvm.MethodName)) ∈ lw_g := gm (List.mem_of_getElem? (i := 204) (by decide +kernel)) rfl
theorem wd_156 : (Jvm.Cond.instanceMethod ({ cls := "PipeMoments$Layout", name := "badOfPlace", desc := "(II)I" } : Jvm.MethodName)) ∈ lw_g := gm (List.mem_of_getElem? (i := 205) (by decide +kernel)) rfl
theorem wd_157 : (Jvm.Cond.selects "PipeMoments$Layout" ({ cls := "PipeMoments$Layout", name := "badOfPlace", desc := "(II)I" } : Jvm.MethodName) ({ cls := "PipeMoments$Layout", name := "badOfPlace", desc := "(II)I" } : Jvm.MethodName)) ∈ lw_g := gm (List.mem_of_getElem? (i := 206) (by decide +kernel)) rfl
theorem wd_158 : (Jvm.Cond.code ({ cls := "PipeMoments$Layout", name := "badOfPlace", desc := "(II)I" } : Jvm.MethodName) prog_3_method_7_code (3 : Nat) (Option.some Jvm.ClassFile.FieldType.int)) ∈ lw_g := gm (List.mem_of_getElem? (i := 207) (by decide +kernel)) rfl
theorem wd_159 : (Jvm.Cond.methodLinkNest "PipeMoments$Layout" (34 : Nat) ({ cls := "PipeMoments", name := "within", desc := "(III)Z" } : Jvm.MethodName) "PipeMoments") ∈ lw_tbl := List.mem_of_getElem? (i := 208) (by decide +kernel)
theorem wd_160 : (Jvm.Cond.static ({ cls := "PipeMoments", name := "within", desc := "(III)Z" } : Jvm.MethodName)) ∈ lw_g := gm (List.mem_of_getElem? (i := 209) (by decide +kernel)) rfl
theorem wd_161 : (Jvm.Cond.code ({ cls := "PipeMoments", name := "within", desc := "(III)Z" } : Jvm.MethodName) prog_1_method_25_code (3 : Nat) (Option.some Jvm.ClassFile.FieldType.boolean)) ∈ lw_g := gm (List.mem_of_getElem? (i := 210) (by decide +kernel)) rfl
theorem wd_162 : (Jvm.Cond.constant "PipeMoments" (41 : Nat) (-1000001 : Int32)) ∈ lw_g := gm (List.mem_of_getElem? (i := 211) (by decide +kernel)) rfl
theorem wd_163 : (Jvm.Cond.methodLink "PipeMoments" (42 : Nat) ({ cls := "PipeMoments$Layout", name := "placesAreFull", desc := "()Z" } : Jvm.MethodName)) ∈ lw_g := gm (List.mem_of_getElem? (i := 212) (by decide +kernel)) rfl
theorem wd_164 : (Jvm.Cond.instanceMethod ({ cls := "PipeMoments$Layout", name := "placesAreFull", desc := "()Z" } : Jvm.MethodName)) ∈ lw_g := gm (List.mem_of_getElem? (i := 213) (by decide +kernel)) rfl
theorem wd_165 : (Jvm.Cond.selects "PipeMoments$Layout" ({ cls := "PipeMoments$Layout", name := "placesAreFull", desc := "()Z" } : Jvm.MethodName) ({ cls := "PipeMoments$Layout", name := "placesAreFull", desc := "()Z" } : Jvm.MethodName)) ∈ lw_g := gm (List.mem_of_getElem? (i := 214) (by decide +kernel)) rfl
theorem wd_166 : (Jvm.Cond.code ({ cls := "PipeMoments$Layout", name := "placesAreFull", desc := "()Z" } : Jvm.MethodName) prog_3_method_5_code (1 : Nat) (Option.some Jvm.ClassFile.FieldType.boolean)) ∈ lw_g := gm (List.mem_of_getElem? (i := 215) (by decide +kernel)) rfl
theorem wd_167 : (Jvm.Cond.constant "PipeMoments" (46 : Nat) (-1000003 : Int32)) ∈ lw_g := gm (List.mem_of_getElem? (i := 216) (by decide +kernel)) rfl
theorem wd_168 : (Jvm.Cond.methodLink "PipeMoments" (47 : Nat) ({ cls := "PipeMoments$History", name := "keep", desc := "(LPipeMoments$Layout;)V" } : Jvm.MethodName)) ∈ lw_g := gm (List.mem_of_getElem? (i := 217) (by decide +kernel)) rfl
theorem wd_169 : (Jvm.Cond.instanceMethod ({ cls := "PipeMoments$History", name := "keep", desc := "(LPipeMoments$Layout;)V" } : Jvm.MethodName)) ∈ lw_g := gm (List.mem_of_getElem? (i := 218) (by decide +kernel)) rfl
theorem wd_170 : (Jvm.Cond.selects "PipeMoments$History" ({ cls := "PipeMoments$History", name := "keep", desc := "(LPipeMoments$Layout;)V" } : Jvm.MethodName) ({ cls := "PipeMoments$History", name := "keep", desc := "(LPipeMoments$Layout;)V" } : Jvm.MethodName)) ∈ lw_g := gm (List.mem_of_getElem? (i := 219) (by decide +kernel)) rfl
theorem wd_171 : (Jvm.Cond.code ({ cls := "PipeMoments$History", name := "keep", desc := "(LPipeMoments$Layout;)V" } : Jvm.MethodName) prog_2_method_2_code (2 : Nat) (Option.none : Option Jvm.ClassFile.FieldType)) ∈ lw_g := gm (List.mem_of_getElem? (i := 220) (by decide +kernel)) rfl
theorem wd_172 : (Jvm.Cond.methodLink "PipeMoments$History" (22 : Nat) ({ cls := "PipeMoments$History", name := "dropOldest", desc := "()V" } : Jvm.MethodName)) ∈ lw_g := gm (List.mem_of_getElem? (i := 221) (by decide +kernel)) rfl
theorem wd_174 : (Jvm.Cond.instanceMethod ({ cls := "PipeMoments$History", name := "dropOldest", desc := "()V" } : Jvm.MethodName)) ∈ lw_g := gm (List.mem_of_getElem? (i := 223) (by decide +kernel)) rfl
theorem wd_175 : (Jvm.Cond.code ({ cls := "PipeMoments$History", name := "dropOldest", desc := "()V" } : Jvm.MethodName) prog_2_method_4_code (3 : Nat) (Option.none : Option Jvm.ClassFile.FieldType)) ∈ lw_g := gm (List.mem_of_getElem? (i := 224) (by decide +kernel)) rfl
theorem wd_176 : (Jvm.Cond.methodLink "PipeMoments$History" (25 : Nat) ({ cls := "PipeMoments$Layout", name := "copyFrom", desc := "(LPipeMoments$Layout;)V" } : Jvm.MethodName)) ∈ lw_g := gm (List.mem_of_getElem? (i := 225) (by decide +kernel)) rfl
theorem wd_177 : (Jvm.Cond.instanceMethod ({ cls := "PipeMoments$Layout", name := "copyFrom", desc := "(LPipeMoments$Layout;)V" } : Jvm.MethodName)) ∈ lw_g := gm (List.mem_of_getElem? (i := 226) (by decide +kernel)) rfl
theorem wd_178 : (Jvm.Cond.selects "PipeMoments$Layout" ({ cls := "PipeMoments$Layout", name := "copyFrom", desc := "(LPipeMoments$Layout;)V" } : Jvm.MethodName) ({ cls := "PipeMoments$Layout", name := "copyFrom", desc := "(LPipeMoments$Layout;)V" } : Jvm.MethodName)) ∈ lw_g := gm (List.mem_of_getElem? (i := 227) (by decide +kernel)) rfl
theorem wd_179 : (Jvm.Cond.code ({ cls := "PipeMoments$Layout", name := "copyFrom", desc := "(LPipeMoments$Layout;)V" } : Jvm.MethodName) prog_3_method_2_code (2 : Nat) (Option.none : Option Jvm.ClassFile.FieldType)) ∈ lw_g := gm (List.mem_of_getElem? (i := 228) (by decide +kernel)) rfl
theorem wd_180 : (Jvm.Cond.methodLink "PipeMoments$Layout" (28 : Nat) ({ cls := "java/lang/System", name := "arraycopy", desc := "(Ljava/lang/Object;ILjava/lang/Object;II)V" } : Jvm.MethodName)) ∈ lw_g := gm (List.mem_of_getElem? (i := 229) (by decide +kernel)) rfl
theorem wd_181 : (Jvm.Cond.static ({ cls := "java/lang/System", name := "arraycopy", desc := "(Ljava/lang/Object;ILjava/lang/Object;II)V" } : Jvm.MethodName)) ∈ lw_g := gm (List.mem_of_getElem? (i := 230) (by decide +kernel)) rfl
theorem wd_182 : (Jvm.Cond.native ({ cls := "java/lang/System", name := "arraycopy", desc := "(Ljava/lang/Object;ILjava/lang/Object;II)V" } : Jvm.MethodName)) ∈ lw_g := gm (List.mem_of_getElem? (i := 231) (by decide +kernel)) rfl
theorem wd_183 : (Jvm.Cond.methodLink "PipeMoments" (51 : Nat) ({ cls := "PipeMoments$Layout", name := "addPlace", desc := "(II)I" } : Jvm.MethodName)) ∈ lw_g := gm (List.mem_of_getElem? (i := 232) (by decide +kernel)) rfl
theorem wd_184 : (Jvm.Cond.instanceMethod ({ cls := "PipeMoments$Layout", name := "addPlace", desc := "(II)I" } : Jvm.MethodName)) ∈ lw_g := gm (List.mem_of_getElem? (i := 233) (by decide +kernel)) rfl
theorem wd_185 : (Jvm.Cond.selects "PipeMoments$Layout" ({ cls := "PipeMoments$Layout", name := "addPlace", desc := "(II)I" } : Jvm.MethodName) ({ cls := "PipeMoments$Layout", name := "addPlace", desc := "(II)I" } : Jvm.MethodName)) ∈ lw_g := gm (List.mem_of_getElem? (i := 234) (by decide +kernel)) rfl
theorem wd_186 : (Jvm.Cond.code ({ cls := "PipeMoments$Layout", name := "addPlace", desc := "(II)I" } : Jvm.MethodName) prog_3_method_11_code (3 : Nat) (Option.some Jvm.ClassFile.FieldType.int)) ∈ lw_g := gm (List.mem_of_getElem? (i := 235) (by decide +kernel)) rfl
theorem wd_187 : (Jvm.Cond.methodLink "PipeMomentsLaw" (18 : Nat) ({ cls := "PipeMoments", name := "pipe", desc := "(IIII)I" } : Jvm.MethodName)) ∈ lw_g := gm (List.mem_of_getElem? (i := 236) (by decide +kernel)) rfl
theorem wd_188 : (Jvm.Cond.instanceMethod ({ cls := "PipeMoments", name := "pipe", desc := "(IIII)I" } : Jvm.MethodName)) ∈ lw_g := gm (List.mem_of_getElem? (i := 237) (by decide +kernel)) rfl
theorem wd_189 : (Jvm.Cond.selects "PipeMoments" ({ cls := "PipeMoments", name := "pipe", desc := "(IIII)I" } : Jvm.MethodName) ({ cls := "PipeMoments", name := "pipe", desc := "(IIII)I" } : Jvm.MethodName)) ∈ lw_g := gm (List.mem_of_getElem? (i := 238) (by decide +kernel)) rfl
theorem wd_190 : (Jvm.Cond.code ({ cls := "PipeMoments", name := "pipe", desc := "(IIII)I" } : Jvm.MethodName) prog_1_method_3_code (5 : Nat) (Option.some Jvm.ClassFile.FieldType.int)) ∈ lw_g := gm (List.mem_of_getElem? (i := 239) (by decide +kernel)) rfl
theorem wd_191 : (Jvm.Cond.methodLink "PipeMoments" (54 : Nat) ({ cls := "PipeMoments$Layout", name := "badOfPipe", desc := "(IIII)I" } : Jvm.MethodName)) ∈ lw_g := gm (List.mem_of_getElem? (i := 240) (by decide +kernel)) rfl
theorem wd_192 : (Jvm.Cond.instanceMethod ({ cls := "PipeMoments$Layout", name := "badOfPipe", desc := "(IIII)I" } : Jvm.MethodName)) ∈ lw_g := gm (List.mem_of_getElem? (i := 241) (by decide +kernel)) rfl
theorem wd_193 : (Jvm.Cond.selects "PipeMoments$Layout" ({ cls := "PipeMoments$Layout", name := "badOfPipe", desc := "(IIII)I" } : Jvm.MethodName) ({ cls := "PipeMoments$Layout", name := "badOfPipe", desc := "(IIII)I" } : Jvm.MethodName)) ∈ lw_g := gm (List.mem_of_getElem? (i := 242) (by decide +kernel)) rfl
theorem wd_194 : (Jvm.Cond.code ({ cls := "PipeMoments$Layout", name := "badOfPipe", desc := "(IIII)I" } : Jvm.MethodName) prog_3_method_8_code (5 : Nat) (Option.some Jvm.ClassFile.FieldType.int)) ∈ lw_g := gm (List.mem_of_getElem? (i := 243) (by decide +kernel)) rfl
theorem wd_195 : (Jvm.Cond.methodLink "PipeMoments$Layout" (38 : Nat) ({ cls := "PipeMoments$Layout", name := "isPlace", desc := "(I)Z" } : Jvm.MethodName)) ∈ lw_g := gm (List.mem_of_getElem? (i := 244) (by decide +kernel)) rfl
theorem wd_196 : (Jvm.Cond.instanceMethod ({ cls := "PipeMoments$Layout", name := "isPlace", desc := "(I)Z" } : Jvm.MethodName)) ∈ lw_g := gm (List.mem_of_getElem? (i := 245) (by decide +kernel)) rfl
theorem wd_197 : (Jvm.Cond.selects "PipeMoments$Layout" ({ cls := "PipeMoments$Layout", name := "isPlace", desc := "(I)Z" } : Jvm.MethodName) ({ cls := "PipeMoments$Layout", name := "isPlace", desc := "(I)Z" } : Jvm.MethodName)) ∈ lw_g := gm (List.mem_of_getElem? (i := 246) (by decide +kernel)) rfl
theorem wd_198 : (Jvm.Cond.code ({ cls := "PipeMoments$Layout", name := "isPlace", desc := "(I)Z" } : Jvm.MethodName) prog_3_method_3_code (2 : Nat) (Option.some Jvm.ClassFile.FieldType.boolean)) ∈ lw_g := gm (List.mem_of_getElem? (i := 247) (by decide +kernel)) rfl
theorem wd_199 : (Jvm.Cond.methodLink "PipeMoments" (58 : Nat) ({ cls := "PipeMoments$Layout", name := "pipesAreFull", desc := "()Z" } : Jvm.MethodName)) ∈ lw_g := gm (List.mem_of_getElem? (i := 248) (by decide +kernel)) rfl
theorem wd_200 : (Jvm.Cond.instanceMethod ({ cls := "PipeMoments$Layout", name := "pipesAreFull", desc := "()Z" } : Jvm.MethodName)) ∈ lw_g := gm (List.mem_of_getElem? (i := 249) (by decide +kernel)) rfl
theorem wd_201 : (Jvm.Cond.selects "PipeMoments$Layout" ({ cls := "PipeMoments$Layout", name := "pipesAreFull", desc := "()Z" } : Jvm.MethodName) ({ cls := "PipeMoments$Layout", name := "pipesAreFull", desc := "()Z" } : Jvm.MethodName)) ∈ lw_g := gm (List.mem_of_getElem? (i := 250) (by decide +kernel)) rfl
theorem wd_202 : (Jvm.Cond.code ({ cls := "PipeMoments$Layout", name := "pipesAreFull", desc := "()Z" } : Jvm.MethodName) prog_3_method_6_code (1 : Nat) (Option.some Jvm.ClassFile.FieldType.boolean)) ∈ lw_g := gm (List.mem_of_getElem? (i := 251) (by decide +kernel)) rfl
theorem wd_203 : (Jvm.Cond.methodLink "PipeMoments" (61 : Nat) ({ cls := "PipeMoments$Layout", name := "addPipe", desc := "(IIII)I" } : Jvm.MethodName)) ∈ lw_g := gm (List.mem_of_getElem? (i := 252) (by decide +kernel)) rfl
theorem wd_204 : (Jvm.Cond.instanceMethod ({ cls := "PipeMoments$Layout", name := "addPipe", desc := "(IIII)I" } : Jvm.MethodName)) ∈ lw_g := gm (List.mem_of_getElem? (i := 253) (by decide +kernel)) rfl
theorem wd_205 : (Jvm.Cond.selects "PipeMoments$Layout" ({ cls := "PipeMoments$Layout", name := "addPipe", desc := "(IIII)I" } : Jvm.MethodName) ({ cls := "PipeMoments$Layout", name := "addPipe", desc := "(IIII)I" } : Jvm.MethodName)) ∈ lw_g := gm (List.mem_of_getElem? (i := 254) (by decide +kernel)) rfl
theorem wd_206 : (Jvm.Cond.code ({ cls := "PipeMoments$Layout", name := "addPipe", desc := "(IIII)I" } : Jvm.MethodName) prog_3_method_12_code (6 : Nat) (Option.some Jvm.ClassFile.FieldType.int)) ∈ lw_g := gm (List.mem_of_getElem? (i := 255) (by decide +kernel)) rfl
theorem wd_207 : (Jvm.Cond.methodLink "PipeMoments$Layout" (48 : Nat) ({ cls := "PipeMoments$Layout", name := "setPart", desc := "(III)V" } : Jvm.MethodName)) ∈ lw_g := gm (List.mem_of_getElem? (i := 256) (by decide +kernel)) rfl
theorem wd_208 : (Jvm.Cond.instanceMethod ({ cls := "PipeMoments$Layout", name := "setPart", desc := "(III)V" } : Jvm.MethodName)) ∈ lw_g := gm (List.mem_of_getElem? (i := 257) (by decide +kernel)) rfl
theorem wd_209 : (Jvm.Cond.selects "PipeMoments$Layout" ({ cls := "PipeMoments$Layout", name := "setPart", desc := "(III)V" } : Jvm.MethodName) ({ cls := "PipeMoments$Layout", name := "setPart", desc := "(III)V" } : Jvm.MethodName)) ∈ lw_g := gm (List.mem_of_getElem? (i := 258) (by decide +kernel)) rfl
theorem wd_210 : (Jvm.Cond.code ({ cls := "PipeMoments$Layout", name := "setPart", desc := "(III)V" } : Jvm.MethodName) prog_3_method_16_code (4 : Nat) (Option.none : Option Jvm.ClassFile.FieldType)) ∈ lw_g := gm (List.mem_of_getElem? (i := 259) (by decide +kernel)) rfl
theorem wd_211 : (Jvm.Cond.methodLink "PipeMoments$Layout" (52 : Nat) ({ cls := "PipeMoments$Layout", name := "setOpening", desc := "(III)V" } : Jvm.MethodName)) ∈ lw_g := gm (List.mem_of_getElem? (i := 260) (by decide +kernel)) rfl
theorem wd_212 : (Jvm.Cond.instanceMethod ({ cls := "PipeMoments$Layout", name := "setOpening", desc := "(III)V" } : Jvm.MethodName)) ∈ lw_g := gm (List.mem_of_getElem? (i := 261) (by decide +kernel)) rfl
theorem wd_213 : (Jvm.Cond.selects "PipeMoments$Layout" ({ cls := "PipeMoments$Layout", name := "setOpening", desc := "(III)V" } : Jvm.MethodName) ({ cls := "PipeMoments$Layout", name := "setOpening", desc := "(III)V" } : Jvm.MethodName)) ∈ lw_g := gm (List.mem_of_getElem? (i := 262) (by decide +kernel)) rfl
theorem wd_214 : (Jvm.Cond.code ({ cls := "PipeMoments$Layout", name := "setOpening", desc := "(III)V" } : Jvm.MethodName) prog_3_method_14_code (4 : Nat) (Option.none : Option Jvm.ClassFile.FieldType)) ∈ lw_g := gm (List.mem_of_getElem? (i := 263) (by decide +kernel)) rfl
theorem wd_215 : (Jvm.Cond.methodLink "PipeMomentsLaw" (23 : Nat) ({ cls := "PipeMoments", name := "dropPipe", desc := "(I)I" } : Jvm.MethodName)) ∈ lw_g := gm (List.mem_of_getElem? (i := 264) (by decide +kernel)) rfl
theorem wd_216 : (Jvm.Cond.instanceMethod ({ cls := "PipeMoments", name := "dropPipe", desc := "(I)I" } : Jvm.MethodName)) ∈ lw_g := gm (List.mem_of_getElem? (i := 265) (by decide +kernel)) rfl
theorem wd_217 : (Jvm.Cond.selects "PipeMoments" ({ cls := "PipeMoments", name := "dropPipe", desc := "(I)I" } : Jvm.MethodName) ({ cls := "PipeMoments", name := "dropPipe", desc := "(I)I" } : Jvm.MethodName)) ∈ lw_g := gm (List.mem_of_getElem? (i := 266) (by decide +kernel)) rfl
theorem wd_218 : (Jvm.Cond.code ({ cls := "PipeMoments", name := "dropPipe", desc := "(I)I" } : Jvm.MethodName) prog_1_method_4_code (2 : Nat) (Option.some Jvm.ClassFile.FieldType.int)) ∈ lw_g := gm (List.mem_of_getElem? (i := 267) (by decide +kernel)) rfl
theorem wd_219 : (Jvm.Cond.methodLink "PipeMoments" (64 : Nat) ({ cls := "PipeMoments$Layout", name := "isPipe", desc := "(I)Z" } : Jvm.MethodName)) ∈ lw_g := gm (List.mem_of_getElem? (i := 268) (by decide +kernel)) rfl
theorem wd_220 : (Jvm.Cond.instanceMethod ({ cls := "PipeMoments$Layout", name := "isPipe", desc := "(I)Z" } : Jvm.MethodName)) ∈ lw_g := gm (List.mem_of_getElem? (i := 269) (by decide +kernel)) rfl
theorem wd_221 : (Jvm.Cond.selects "PipeMoments$Layout" ({ cls := "PipeMoments$Layout", name := "isPipe", desc := "(I)Z" } : Jvm.MethodName) ({ cls := "PipeMoments$Layout", name := "isPipe", desc := "(I)Z" } : Jvm.MethodName)) ∈ lw_g := gm (List.mem_of_getElem? (i := 270) (by decide +kernel)) rfl
theorem wd_222 : (Jvm.Cond.code ({ cls := "PipeMoments$Layout", name := "isPipe", desc := "(I)Z" } : Jvm.MethodName) prog_3_method_4_code (2 : Nat) (Option.some Jvm.ClassFile.FieldType.boolean)) ∈ lw_g := gm (List.mem_of_getElem? (i := 271) (by decide +kernel)) rfl
theorem wd_223 : (Jvm.Cond.methodLink "PipeMoments" (68 : Nat) ({ cls := "PipeMoments$Layout", name := "removePipe", desc := "(I)V" } : Jvm.MethodName)) ∈ lw_g := gm (List.mem_of_getElem? (i := 272) (by decide +kernel)) rfl
theorem wd_224 : (Jvm.Cond.instanceMethod ({ cls := "PipeMoments$Layout", name := "removePipe", desc := "(I)V" } : Jvm.MethodName)) ∈ lw_g := gm (List.mem_of_getElem? (i := 273) (by decide +kernel)) rfl
theorem wd_225 : (Jvm.Cond.selects "PipeMoments$Layout" ({ cls := "PipeMoments$Layout", name := "removePipe", desc := "(I)V" } : Jvm.MethodName) ({ cls := "PipeMoments$Layout", name := "removePipe", desc := "(I)V" } : Jvm.MethodName)) ∈ lw_g := gm (List.mem_of_getElem? (i := 274) (by decide +kernel)) rfl
theorem wd_226 : (Jvm.Cond.code ({ cls := "PipeMoments$Layout", name := "removePipe", desc := "(I)V" } : Jvm.MethodName) prog_3_method_13_code (3 : Nat) (Option.none : Option Jvm.ClassFile.FieldType)) ∈ lw_g := gm (List.mem_of_getElem? (i := 275) (by decide +kernel)) rfl
theorem wd_227 : (Jvm.Cond.methodLink "PipeMomentsLaw" (28 : Nat) ({ cls := "PipeMoments", name := "open", desc := "(III)I" } : Jvm.MethodName)) ∈ lw_g := gm (List.mem_of_getElem? (i := 276) (by decide +kernel)) rfl
theorem wd_228 : (Jvm.Cond.instanceMethod ({ cls := "PipeMoments", name := "open", desc := "(III)I" } : Jvm.MethodName)) ∈ lw_g := gm (List.mem_of_getElem? (i := 277) (by decide +kernel)) rfl
theorem wd_229 : (Jvm.Cond.selects "PipeMoments" ({ cls := "PipeMoments", name := "open", desc := "(III)I" } : Jvm.MethodName) ({ cls := "PipeMoments", name := "open", desc := "(III)I" } : Jvm.MethodName)) ∈ lw_g := gm (List.mem_of_getElem? (i := 278) (by decide +kernel)) rfl
theorem wd_230 : (Jvm.Cond.code ({ cls := "PipeMoments", name := "open", desc := "(III)I" } : Jvm.MethodName) prog_1_method_5_code (4 : Nat) (Option.some Jvm.ClassFile.FieldType.int)) ∈ lw_g := gm (List.mem_of_getElem? (i := 279) (by decide +kernel)) rfl
theorem wd_231 : (Jvm.Cond.methodLink "PipeMoments" (76 : Nat) ({ cls := "PipeMoments$Layout", name := "badOfOpening", desc := "(III)I" } : Jvm.MethodName)) ∈ lw_g := gm (List.mem_of_getElem? (i := 280) (by decide +kernel)) rfl
theorem wd_232 : (Jvm.Cond.instanceMethod ({ cls := "PipeMoments$Layout", name := "badOfOpening", desc := "(III)I" } : Jvm.MethodName)) ∈ lw_g := gm (List.mem_of_getElem? (i := 281) (by decide +kernel)) rfl
theorem wd_233 : (Jvm.Cond.selects "PipeMoments$Layout" ({ cls := "PipeMoments$Layout", name := "badOfOpening", desc := "(III)I" } : Jvm.MethodName) ({ cls := "PipeMoments$Layout", name := "badOfOpening", desc := "(III)I" } : Jvm.MethodName)) ∈ lw_g := gm (List.mem_of_getElem? (i := 282) (by decide +kernel)) rfl
theorem wd_234 : (Jvm.Cond.code ({ cls := "PipeMoments$Layout", name := "badOfOpening", desc := "(III)I" } : Jvm.MethodName) prog_3_method_9_code (4 : Nat) (Option.some Jvm.ClassFile.FieldType.int)) ∈ lw_g := gm (List.mem_of_getElem? (i := 283) (by decide +kernel)) rfl
theorem wd_235 : (Jvm.Cond.methodLink "PipeMoments$Layout" (42 : Nat) ({ cls := "PipeMoments$Layout", name := "isPipe", desc := "(I)Z" } : Jvm.MethodName)) ∈ lw_g := gm (List.mem_of_getElem? (i := 284) (by decide +kernel)) rfl
theorem wd_236 : (Jvm.Cond.methodLinkNest "PipeMoments$Layout" (45 : Nat) ({ cls := "PipeMoments", name := "isTick", desc := "(I)Z" } : Jvm.MethodName) "PipeMoments") ∈ lw_tbl := List.mem_of_getElem? (i := 285) (by decide +kernel)
theorem wd_237 : (Jvm.Cond.static ({ cls := "PipeMoments", name := "isTick", desc := "(I)Z" } : Jvm.MethodName)) ∈ lw_g := gm (List.mem_of_getElem? (i := 286) (by decide +kernel)) rfl
theorem wd_238 : (Jvm.Cond.code ({ cls := "PipeMoments", name := "isTick", desc := "(I)Z" } : Jvm.MethodName) prog_1_method_26_code (1 : Nat) (Option.some Jvm.ClassFile.FieldType.boolean)) ∈ lw_g := gm (List.mem_of_getElem? (i := 287) (by decide +kernel)) rfl
theorem wd_239 : (Jvm.Cond.methodLink "PipeMoments" (89 : Nat) ({ cls := "PipeMoments", name := "within", desc := "(III)Z" } : Jvm.MethodName)) ∈ lw_g := gm (List.mem_of_getElem? (i := 288) (by decide +kernel)) rfl
theorem wd_240 : (Jvm.Cond.methodLink "PipeMoments" (80 : Nat) ({ cls := "PipeMoments$Layout", name := "setOpening", desc := "(III)V" } : Jvm.MethodName)) ∈ lw_g := gm (List.mem_of_getElem? (i := 289) (by decide +kernel)) rfl
theorem wd_241 : (Jvm.Cond.methodLink "PipeMoments" (84 : Nat) ({ cls := "java/lang/Math", name := "max", desc := "(II)I" } : Jvm.MethodName)) ∈ lw_g := gm (List.mem_of_getElem? (i := 290) (by decide +kernel)) rfl
theorem wd_242 : (Jvm.Cond.static ({ cls := "java/lang/Math", name := "max", desc := "(II)I" } : Jvm.MethodName)) ∈ lw_g := gm (List.mem_of_getElem? (i := 291) (by decide +kernel)) rfl
theorem wd_243 : (Jvm.Cond.code ({ cls := "java/lang/Math", name := "max", desc := "(II)I" } : Jvm.MethodName) prog_8_method_65_code (2 : Nat) (Option.some Jvm.ClassFile.FieldType.int)) ∈ lw_g := gm (List.mem_of_getElem? (i := 292) (by decide +kernel)) rfl
theorem wd_244 : (Jvm.Cond.methodLink "PipeMomentsLaw" (33 : Nat) ({ cls := "PipeMoments", name := "widen", desc := "(II)I" } : Jvm.MethodName)) ∈ lw_g := gm (List.mem_of_getElem? (i := 293) (by decide +kernel)) rfl
theorem wd_245 : (Jvm.Cond.instanceMethod ({ cls := "PipeMoments", name := "widen", desc := "(II)I" } : Jvm.MethodName)) ∈ lw_g := gm (List.mem_of_getElem? (i := 294) (by decide +kernel)) rfl
theorem wd_246 : (Jvm.Cond.selects "PipeMoments" ({ cls := "PipeMoments", name := "widen", desc := "(II)I" } : Jvm.MethodName) ({ cls := "PipeMoments", name := "widen", desc := "(II)I" } : Jvm.MethodName)) ∈ lw_g := gm (List.mem_of_getElem? (i := 295) (by decide +kernel)) rfl
theorem wd_247 : (Jvm.Cond.code ({ cls := "PipeMoments", name := "widen", desc := "(II)I" } : Jvm.MethodName) prog_1_method_6_code (4 : Nat) (Option.some Jvm.ClassFile.FieldType.int)) ∈ lw_g := gm (List.mem_of_getElem? (i := 296) (by decide +kernel)) rfl
theorem wd_248 : (Jvm.Cond.methodLink "PipeMoments" (93 : Nat) ({ cls := "PipeMoments$Layout", name := "partOf", desc := "(II)I" } : Jvm.MethodName)) ∈ lw_g := gm (List.mem_of_getElem? (i := 297) (by decide +kernel)) rfl
theorem wd_249 : (Jvm.Cond.instanceMethod ({ cls := "PipeMoments$Layout", name := "partOf", desc := "(II)I" } : Jvm.MethodName)) ∈ lw_g := gm (List.mem_of_getElem? (i := 298) (by decide +kernel)) rfl
theorem wd_250 : (Jvm.Cond.selects "PipeMoments$Layout" ({ cls := "PipeMoments$Layout", name := "partOf", desc := "(II)I" } : Jvm.MethodName) ({ cls := "PipeMoments$Layout", name := "partOf", desc := "(II)I" } : Jvm.MethodName)) ∈ lw_g := gm (List.mem_of_getElem? (i := 299) (by decide +kernel)) rfl
theorem wd_251 : (Jvm.Cond.code ({ cls := "PipeMoments$Layout", name := "partOf", desc := "(II)I" } : Jvm.MethodName) prog_3_method_15_code (3 : Nat) (Option.some Jvm.ClassFile.FieldType.int)) ∈ lw_g := gm (List.mem_of_getElem? (i := 300) (by decide +kernel)) rfl
theorem wd_252 : (Jvm.Cond.methodLink "PipeMoments" (96 : Nat) ({ cls := "PipeMoments$Layout", name := "setPart", desc := "(III)V" } : Jvm.MethodName)) ∈ lw_g := gm (List.mem_of_getElem? (i := 301) (by decide +kernel)) rfl
theorem wd_253 : (Jvm.Cond.methodLink "PipeMomentsLaw" (37 : Nat) ({ cls := "PipeMoments", name := "units", desc := "(II)I" } : Jvm.MethodName)) ∈ lw_g := gm (List.mem_of_getElem? (i := 302) (by decide +kernel)) rfl
theorem wd_254 : (Jvm.Cond.instanceMethod ({ cls := "PipeMoments", name := "units", desc := "(II)I" } : Jvm.MethodName)) ∈ lw_g := gm (List.mem_of_getElem? (i := 303) (by decide +kernel)) rfl
theorem wd_255 : (Jvm.Cond.selects "PipeMoments" ({ cls := "PipeMoments", name := "units", desc := "(II)I" } : Jvm.MethodName) ({ cls := "PipeMoments", name := "units", desc := "(II)I" } : Jvm.MethodName)) ∈ lw_g := gm (List.mem_of_getElem? (i := 304) (by decide +kernel)) rfl
theorem wd_256 : (Jvm.Cond.code ({ cls := "PipeMoments", name := "units", desc := "(II)I" } : Jvm.MethodName) prog_1_method_7_code (4 : Nat) (Option.some Jvm.ClassFile.FieldType.int)) ∈ lw_g := gm (List.mem_of_getElem? (i := 305) (by decide +kernel)) rfl
theorem wd_257 : (Jvm.Cond.methodLink "PipeMoments" (99 : Nat) ({ cls := "PipeMoments$Layout", name := "badOfUnits", desc := "(II)I" } : Jvm.MethodName)) ∈ lw_g := gm (List.mem_of_getElem? (i := 306) (by decide +kernel)) rfl
theorem wd_258 : (Jvm.Cond.instanceMethod ({ cls := "PipeMoments$Layout", name := "badOfUnits", desc := "(II)I" } : Jvm.MethodName)) ∈ lw_g := gm (List.mem_of_getElem? (i := 307) (by decide +kernel)) rfl
theorem wd_259 : (Jvm.Cond.selects "PipeMoments$Layout" ({ cls := "PipeMoments$Layout", name := "badOfUnits", desc := "(II)I" } : Jvm.MethodName) ({ cls := "PipeMoments$Layout", name := "badOfUnits", desc := "(II)I" } : Jvm.MethodName)) ∈ lw_g := gm (List.mem_of_getElem? (i := 308) (by decide +kernel)) rfl
theorem wd_260 : (Jvm.Cond.code ({ cls := "PipeMoments$Layout", name := "badOfUnits", desc := "(II)I" } : Jvm.MethodName) prog_3_method_10_code (3 : Nat) (Option.some Jvm.ClassFile.FieldType.int)) ∈ lw_g := gm (List.mem_of_getElem? (i := 309) (by decide +kernel)) rfl
theorem wd_261 : (Jvm.Cond.methodLink "PipeMomentsLaw" (41 : Nat) ({ cls := "PipeMoments", name := "room", desc := "(II)I" } : Jvm.MethodName)) ∈ lw_g := gm (List.mem_of_getElem? (i := 310) (by decide +kernel)) rfl
theorem wd_262 : (Jvm.Cond.instanceMethod ({ cls := "PipeMoments", name := "room", desc := "(II)I" } : Jvm.MethodName)) ∈ lw_g := gm (List.mem_of_getElem? (i := 311) (by decide +kernel)) rfl
theorem wd_263 : (Jvm.Cond.selects "PipeMoments" ({ cls := "PipeMoments", name := "room", desc := "(II)I" } : Jvm.MethodName) ({ cls := "PipeMoments", name := "room", desc := "(II)I" } : Jvm.MethodName)) ∈ lw_g := gm (List.mem_of_getElem? (i := 312) (by decide +kernel)) rfl
theorem wd_264 : (Jvm.Cond.code ({ cls := "PipeMoments", name := "room", desc := "(II)I" } : Jvm.MethodName) prog_1_method_8_code (4 : Nat) (Option.some Jvm.ClassFile.FieldType.int)) ∈ lw_g := gm (List.mem_of_getElem? (i := 313) (by decide +kernel)) rfl
theorem wd_265 : (Jvm.Cond.methodLink "PipeMoments" (106 : Nat) ({ cls := "PipeMoments$Layout", name := "isPlace", desc := "(I)Z" } : Jvm.MethodName)) ∈ lw_g := gm (List.mem_of_getElem? (i := 314) (by decide +kernel)) rfl
theorem wd_266 : (Jvm.Cond.methodLink "PipeMomentsLaw" (45 : Nat) ({ cls := "PipeMoments", name := "pipeOf", desc := "(II)I" } : Jvm.MethodName)) ∈ lw_g := gm (List.mem_of_getElem? (i := 315) (by decide +kernel)) rfl
theorem wd_267 : (Jvm.Cond.instanceMethod ({ cls := "PipeMoments", name := "pipeOf", desc := "(II)I" } : Jvm.MethodName)) ∈ lw_g := gm (List.mem_of_getElem? (i := 316) (by decide +kernel)) rfl
theorem wd_268 : (Jvm.Cond.selects "PipeMoments" ({ cls := "PipeMoments", name := "pipeOf", desc := "(II)I" } : Jvm.MethodName) ({ cls := "PipeMoments", name := "pipeOf", desc := "(II)I" } : Jvm.MethodName)) ∈ lw_g := gm (List.mem_of_getElem? (i := 317) (by decide +kernel)) rfl
theorem wd_269 : (Jvm.Cond.code ({ cls := "PipeMoments", name := "pipeOf", desc := "(II)I" } : Jvm.MethodName) prog_1_method_9_code (3 : Nat) (Option.some Jvm.ClassFile.FieldType.int)) ∈ lw_g := gm (List.mem_of_getElem? (i := 318) (by decide +kernel)) rfl
theorem wd_270 : (Jvm.Cond.methodLink "PipeMomentsLaw" (49 : Nat) ({ cls := "PipeMoments", name := "placeOf", desc := "(II)I" } : Jvm.MethodName)) ∈ lw_g := gm (List.mem_of_getElem? (i := 319) (by decide +kernel)) rfl
theorem wd_271 : (Jvm.Cond.instanceMethod ({ cls := "PipeMoments", name := "placeOf", desc := "(II)I" } : Jvm.MethodName)) ∈ lw_g := gm (List.mem_of_getElem? (i := 320) (by decide +kernel)) rfl
theorem wd_272 : (Jvm.Cond.selects "PipeMoments" ({ cls := "PipeMoments", name := "placeOf", desc := "(II)I" } : Jvm.MethodName) ({ cls := "PipeMoments", name := "placeOf", desc := "(II)I" } : Jvm.MethodName)) ∈ lw_g := gm (List.mem_of_getElem? (i := 321) (by decide +kernel)) rfl
theorem wd_273 : (Jvm.Cond.code ({ cls := "PipeMoments", name := "placeOf", desc := "(II)I" } : Jvm.MethodName) prog_1_method_10_code (3 : Nat) (Option.some Jvm.ClassFile.FieldType.int)) ∈ lw_g := gm (List.mem_of_getElem? (i := 322) (by decide +kernel)) rfl
theorem wd_274 : (Jvm.Cond.methodLink "PipeMoments" (112 : Nat) ({ cls := "PipeMoments$Layout", name := "pipesWith", desc := "(II)I" } : Jvm.MethodName)) ∈ lw_g := gm (List.mem_of_getElem? (i := 323) (by decide +kernel)) rfl
theorem wd_275 : (Jvm.Cond.instanceMethod ({ cls := "PipeMoments$Layout", name := "pipesWith", desc := "(II)I" } : Jvm.MethodName)) ∈ lw_g := gm (List.mem_of_getElem? (i := 324) (by decide +kernel)) rfl
theorem wd_276 : (Jvm.Cond.selects "PipeMoments$Layout" ({ cls := "PipeMoments$Layout", name := "pipesWith", desc := "(II)I" } : Jvm.MethodName) ({ cls := "PipeMoments$Layout", name := "pipesWith", desc := "(II)I" } : Jvm.MethodName)) ∈ lw_g := gm (List.mem_of_getElem? (i := 325) (by decide +kernel)) rfl
theorem wd_277 : (Jvm.Cond.code ({ cls := "PipeMoments$Layout", name := "pipesWith", desc := "(II)I" } : Jvm.MethodName) prog_3_method_18_code (5 : Nat) (Option.some Jvm.ClassFile.FieldType.int)) ∈ lw_g := gm (List.mem_of_getElem? (i := 326) (by decide +kernel)) rfl
theorem wd_278 : (Jvm.Cond.methodLink "PipeMoments$Layout" (55 : Nat) ({ cls := "PipeMoments$Layout", name := "partOf", desc := "(II)I" } : Jvm.MethodName)) ∈ lw_g := gm (List.mem_of_getElem? (i := 327) (by decide +kernel)) rfl
theorem wd_279 : (Jvm.Cond.methodLink "PipeMoments" (115 : Nat) ({ cls := "PipeMoments$Stream", name := "leastTickAlone", desc := "(LPipeMoments$Layout;I)I" } : Jvm.MethodName)) ∈ lw_g := gm (List.mem_of_getElem? (i := 328) (by decide +kernel)) rfl
theorem wd_280 : (Jvm.Cond.instanceMethod ({ cls := "PipeMoments$Stream", name := "leastTickAlone", desc := "(LPipeMoments$Layout;I)I" } : Jvm.MethodName)) ∈ lw_g := gm (List.mem_of_getElem? (i := 329) (by decide +kernel)) rfl
theorem wd_281 : (Jvm.Cond.selects "PipeMoments$Stream" ({ cls := "PipeMoments$Stream", name := "leastTickAlone", desc := "(LPipeMoments$Layout;I)I" } : Jvm.MethodName) ({ cls := "PipeMoments$Stream", name := "leastTickAlone", desc := "(LPipeMoments$Layout;I)I" } : Jvm.MethodName)) ∈ lw_g := gm (List.mem_of_getElem? (i := 330) (by decide +kernel)) rfl
theorem wd_282 : (Jvm.Cond.code ({ cls := "PipeMoments$Stream", name := "leastTickAlone", desc := "(LPipeMoments$Layout;I)I" } : Jvm.MethodName) prog_5_method_8_code (3 : Nat) (Option.some Jvm.ClassFile.FieldType.int)) ∈ lw_g := gm (List.mem_of_getElem? (i := 331) (by decide +kernel)) rfl
theorem wd_283 : (Jvm.Cond.methodLink "PipeMoments$Stream" (38 : Nat) ({ cls := "PipeMoments$Layout", name := "copyFrom", desc := "(LPipeMoments$Layout;)V" } : Jvm.MethodName)) ∈ lw_g := gm (List.mem_of_getElem? (i := 332) (by decide +kernel)) rfl
theorem wd_284 : (Jvm.Cond.methodLink "PipeMoments$Stream" (57 : Nat) ({ cls := "java/util/Arrays", name := "fill", desc := "([II)V" } : Jvm.MethodName)) ∈ lw_g := gm (List.mem_of_getElem? (i := 333) (by decide +kernel)) rfl
theorem wd_285 : (Jvm.Cond.static ({ cls := "java/util/Arrays", name := "fill", desc := "([II)V" } : Jvm.MethodName)) ∈ lw_g := gm (List.mem_of_getElem? (i := 334) (by decide +kernel)) rfl
theorem wd_286 : (Jvm.Cond.code ({ cls := "java/util/Arrays", name := "fill", desc := "([II)V" } : Jvm.MethodName) prog_10_method_103_code (4 : Nat) (Option.none : Option Jvm.ClassFile.FieldType)) ∈ lw_g := gm (List.mem_of_getElem? (i := 335) (by decide +kernel)) rfl
theorem wd_287 : (Jvm.Cond.methodLink "PipeMoments$Stream" (73 : Nat) ({ cls := "PipeMoments$Stream", name := "leastTickFor", desc := "(I)I" } : Jvm.MethodName)) ∈ lw_g := gm (List.mem_of_getElem? (i := 336) (by decide +kernel)) rfl
theorem wd_289 : (Jvm.Cond.instanceMethod ({ cls := "PipeMoments$Stream", name := "leastTickFor", desc := "(I)I" } : Jvm.MethodName)) ∈ lw_g := gm (List.mem_of_getElem? (i := 338) (by decide +kernel)) rfl
theorem wd_290 : (Jvm.Cond.code ({ cls := "PipeMoments$Stream", name := "leastTickFor", desc := "(I)I" } : Jvm.MethodName) prog_5_method_14_code (4 : Nat) (Option.some Jvm.ClassFile.FieldType.int)) ∈ lw_g := gm (List.mem_of_getElem? (i := 339) (by decide +kernel)) rfl
theorem wd_291 : (Jvm.Cond.methodLink "PipeMoments$Stream" (92 : Nat) ({ cls := "PipeMoments$Stream", name := "begin", desc := "()V" } : Jvm.MethodName)) ∈ lw_g := gm (List.mem_of_getElem? (i := 340) (by decide +kernel)) rfl
theorem wd_293 : (Jvm.Cond.instanceMethod ({ cls := "PipeMoments$Stream", name := "begin", desc := "()V" } : Jvm.MethodName)) ∈ lw_g := gm (List.mem_of_getElem? (i := 342) (by decide +kernel)) rfl
theorem wd_294 : (Jvm.Cond.code ({ cls := "PipeMoments$Stream", name := "begin", desc := "()V" } : Jvm.MethodName) prog_5_method_19_code (3 : Nat) (Option.none : Option Jvm.ClassFile.FieldType)) ∈ lw_g := gm (List.mem_of_getElem? (i := 343) (by decide +kernel)) rfl
theorem wd_295 : (Jvm.Cond.methodLink "PipeMoments$Stream" (76 : Nat) ({ cls := "PipeMoments$Stream", name := "through", desc := "(II)I" } : Jvm.MethodName)) ∈ lw_g := gm (List.mem_of_getElem? (i := 344) (by decide +kernel)) rfl
theorem wd_296 : (Jvm.Cond.static ({ cls := "PipeMoments$Stream", name := "through", desc := "(II)I" } : Jvm.MethodName)) ∈ lw_g := gm (List.mem_of_getElem? (i := 345) (by decide +kernel)) rfl
theorem wd_297 : (Jvm.Cond.code ({ cls := "PipeMoments$Stream", name := "through", desc := "(II)I" } : Jvm.MethodName) prog_5_method_15_code (2 : Nat) (Option.some Jvm.ClassFile.FieldType.int)) ∈ lw_g := gm (List.mem_of_getElem? (i := 346) (by decide +kernel)) rfl
theorem wd_298 : (Jvm.Cond.methodLink "PipeMoments$Stream" (86 : Nat) ({ cls := "PipeMoments$Layout", name := "boundIn", desc := "(II)I" } : Jvm.MethodName)) ∈ lw_g := gm (List.mem_of_getElem? (i := 347) (by decide +kernel)) rfl
theorem wd_299 : (Jvm.Cond.instanceMethod ({ cls := "PipeMoments$Layout", name := "boundIn", desc := "(II)I" } : Jvm.MethodName)) ∈ lw_g := gm (List.mem_of_getElem? (i := 348) (by decide +kernel)) rfl
theorem wd_300 : (Jvm.Cond.selects "PipeMoments$Layout" ({ cls := "PipeMoments$Layout", name := "boundIn", desc := "(II)I" } : Jvm.MethodName) ({ cls := "PipeMoments$Layout", name := "boundIn", desc := "(II)I" } : Jvm.MethodName)) ∈ lw_g := gm (List.mem_of_getElem? (i := 349) (by decide +kernel)) rfl
theorem wd_301 : (Jvm.Cond.code ({ cls := "PipeMoments$Layout", name := "boundIn", desc := "(II)I" } : Jvm.MethodName) prog_3_method_17_code (3 : Nat) (Option.some Jvm.ClassFile.FieldType.int)) ∈ lw_g := gm (List.mem_of_getElem? (i := 350) (by decide +kernel)) rfl
theorem wd_302 : (Jvm.Cond.methodLink "PipeMoments$Stream" (99 : Nat) ({ cls := "PipeMoments$Stream", name := "bind", desc := "(II)V" } : Jvm.MethodName)) ∈ lw_g := gm (List.mem_of_getElem? (i := 351) (by decide +kernel)) rfl
theorem wd_304 : (Jvm.Cond.instanceMethod ({ cls := "PipeMoments$Stream", name := "bind", desc := "(II)V" } : Jvm.MethodName)) ∈ lw_g := gm (List.mem_of_getElem? (i := 353) (by decide +kernel)) rfl
theorem wd_305 : (Jvm.Cond.code ({ cls := "PipeMoments$Stream", name := "bind", desc := "(II)V" } : Jvm.MethodName) prog_5_method_20_code (3 : Nat) (Option.none : Option Jvm.ClassFile.FieldType)) ∈ lw_g := gm (List.mem_of_getElem? (i := 354) (by decide +kernel)) rfl
theorem wd_306 : (Jvm.Cond.methodLink "PipeMoments$Stream" (79 : Nat) ({ cls := "PipeMoments$Stream", name := "back", desc := "(I)I" } : Jvm.MethodName)) ∈ lw_g := gm (List.mem_of_getElem? (i := 355) (by decide +kernel)) rfl
theorem wd_307 : (Jvm.Cond.static ({ cls := "PipeMoments$Stream", name := "back", desc := "(I)I" } : Jvm.MethodName)) ∈ lw_g := gm (List.mem_of_getElem? (i := 356) (by decide +kernel)) rfl
theorem wd_308 : (Jvm.Cond.code ({ cls := "PipeMoments$Stream", name := "back", desc := "(I)I" } : Jvm.MethodName) prog_5_method_18_code (1 : Nat) (Option.some Jvm.ClassFile.FieldType.int)) ∈ lw_g := gm (List.mem_of_getElem? (i := 357) (by decide +kernel)) rfl
theorem wd_309 : (Jvm.Cond.methodLink "PipeMoments$Stream" (106 : Nat) ({ cls := "PipeMoments$Stream", name := "settingOut", desc := "(I)I" } : Jvm.MethodName)) ∈ lw_g := gm (List.mem_of_getElem? (i := 358) (by decide +kernel)) rfl
theorem wd_310 : (Jvm.Cond.static ({ cls := "PipeMoments$Stream", name := "settingOut", desc := "(I)I" } : Jvm.MethodName)) ∈ lw_g := gm (List.mem_of_getElem? (i := 359) (by decide +kernel)) rfl
theorem wd_311 : (Jvm.Cond.code ({ cls := "PipeMoments$Stream", name := "settingOut", desc := "(I)I" } : Jvm.MethodName) prog_5_method_17_code (1 : Nat) (Option.some Jvm.ClassFile.FieldType.int)) ∈ lw_g := gm (List.mem_of_getElem? (i := 360) (by decide +kernel)) rfl
theorem wd_312 : (Jvm.Cond.methodLink "PipeMoments$Stream" (109 : Nat) ({ cls := "PipeMoments$Stream", name := "waiting", desc := "(I)I" } : Jvm.MethodName)) ∈ lw_g := gm (List.mem_of_getElem? (i := 361) (by decide +kernel)) rfl
theorem wd_313 : (Jvm.Cond.static ({ cls := "PipeMoments$Stream", name := "waiting", desc := "(I)I" } : Jvm.MethodName)) ∈ lw_g := gm (List.mem_of_getElem? (i := 362) (by decide +kernel)) rfl
theorem wd_314 : (Jvm.Cond.code ({ cls := "PipeMoments$Stream", name := "waiting", desc := "(I)I" } : Jvm.MethodName) prog_5_method_16_code (1 : Nat) (Option.some Jvm.ClassFile.FieldType.int)) ∈ lw_g := gm (List.mem_of_getElem? (i := 363) (by decide +kernel)) rfl
theorem wd_315 : (Jvm.Cond.methodLink "PipeMoments$Stream" (95 : Nat) ({ cls := "PipeMoments$Stream", name := "moreBy", desc := "(I)I" } : Jvm.MethodName)) ∈ lw_g := gm (List.mem_of_getElem? (i := 364) (by decide +kernel)) rfl
theorem wd_317 : (Jvm.Cond.instanceMethod ({ cls := "PipeMoments$Stream", name := "moreBy", desc := "(I)I" } : Jvm.MethodName)) ∈ lw_g := gm (List.mem_of_getElem? (i := 366) (by decide +kernel)) rfl
theorem wd_318 : (Jvm.Cond.code ({ cls := "PipeMoments$Stream", name := "moreBy", desc := "(I)I" } : Jvm.MethodName) prog_5_method_21_code (4 : Nat) (Option.some Jvm.ClassFile.FieldType.int)) ∈ lw_g := gm (List.mem_of_getElem? (i := 367) (by decide +kernel)) rfl
theorem wd_319 : (Jvm.Cond.constant "PipeMoments$Stream" (66 : Nat) (1000000 : Int32)) ∈ lw_g := gm (List.mem_of_getElem? (i := 368) (by decide +kernel)) rfl
theorem wd_320 : (Jvm.Cond.methodLink "PipeMoments$Stream" (112 : Nat) ({ cls := "PipeMoments$Stream", name := "search", desc := "(I)V" } : Jvm.MethodName)) ∈ lw_g := gm (List.mem_of_getElem? (i := 369) (by decide +kernel)) rfl
theorem wd_322 : (Jvm.Cond.instanceMethod ({ cls := "PipeMoments$Stream", name := "search", desc := "(I)V" } : Jvm.MethodName)) ∈ lw_g := gm (List.mem_of_getElem? (i := 371) (by decide +kernel)) rfl
theorem wd_323 : (Jvm.Cond.code ({ cls := "PipeMoments$Stream", name := "search", desc := "(I)V" } : Jvm.MethodName) prog_5_method_22_code (3 : Nat) (Option.none : Option Jvm.ClassFile.FieldType)) ∈ lw_g := gm (List.mem_of_getElem? (i := 372) (by decide +kernel)) rfl
theorem wd_324 : (Jvm.Cond.methodLink "PipeMoments$Stream" (120 : Nat) ({ cls := "PipeMoments$Stream", name := "tryWay", desc := "(III)V" } : Jvm.MethodName)) ∈ lw_g := gm (List.mem_of_getElem? (i := 373) (by decide +kernel)) rfl
theorem wd_326 : (Jvm.Cond.instanceMethod ({ cls := "PipeMoments$Stream", name := "tryWay", desc := "(III)V" } : Jvm.MethodName)) ∈ lw_g := gm (List.mem_of_getElem? (i := 375) (by decide +kernel)) rfl
theorem wd_327 : (Jvm.Cond.code ({ cls := "PipeMoments$Stream", name := "tryWay", desc := "(III)V" } : Jvm.MethodName) prog_5_method_24_code (4 : Nat) (Option.none : Option Jvm.ClassFile.FieldType)) ∈ lw_g := gm (List.mem_of_getElem? (i := 376) (by decide +kernel)) rfl
theorem wd_328 : (Jvm.Cond.methodLink "PipeMoments$Stream" (123 : Nat) ({ cls := "PipeMoments$Stream", name := "spread", desc := "(II)V" } : Jvm.MethodName)) ∈ lw_g := gm (List.mem_of_getElem? (i := 377) (by decide +kernel)) rfl
theorem wd_330 : (Jvm.Cond.instanceMethod ({ cls := "PipeMoments$Stream", name := "spread", desc := "(II)V" } : Jvm.MethodName)) ∈ lw_g := gm (List.mem_of_getElem? (i := 379) (by decide +kernel)) rfl
theorem wd_331 : (Jvm.Cond.code ({ cls := "PipeMoments$Stream", name := "spread", desc := "(II)V" } : Jvm.MethodName) prog_5_method_23_code (9 : Nat) (Option.none : Option Jvm.ClassFile.FieldType)) ∈ lw_g := gm (List.mem_of_getElem? (i := 380) (by decide +kernel)) rfl
theorem wd_332 : (Jvm.Cond.methodLink "PipeMoments$Stream" (50 : Nat) ({ cls := "PipeMoments$Layout", name := "partOf", desc := "(II)I" } : Jvm.MethodName)) ∈ lw_g := gm (List.mem_of_getElem? (i := 381) (by decide +kernel)) rfl
theorem wd_333 : (Jvm.Cond.methodLink "PipeMoments$Stream" (116 : Nat) ({ cls := "PipeMoments$Stream", name := "carryToArrival", desc := "()I" } : Jvm.MethodName)) ∈ lw_g := gm (List.mem_of_getElem? (i := 382) (by decide +kernel)) rfl
theorem wd_335 : (Jvm.Cond.instanceMethod ({ cls := "PipeMoments$Stream", name := "carryToArrival", desc := "()I" } : Jvm.MethodName)) ∈ lw_g := gm (List.mem_of_getElem? (i := 384) (by decide +kernel)) rfl
theorem wd_336 : (Jvm.Cond.code ({ cls := "PipeMoments$Stream", name := "carryToArrival", desc := "()I" } : Jvm.MethodName) prog_5_method_25_code (5 : Nat) (Option.some Jvm.ClassFile.FieldType.int)) ∈ lw_g := gm (List.mem_of_getElem? (i := 385) (by decide +kernel)) rfl
theorem wd_337 : (Jvm.Cond.methodLink "PipeMoments$Stream" (126 : Nat) ({ cls := "java/lang/Math", name := "min", desc := "(II)I" } : Jvm.MethodName)) ∈ lw_g := gm (List.mem_of_getElem? (i := 386) (by decide +kernel)) rfl
theorem wd_338 : (Jvm.Cond.static ({ cls := "java/lang/Math", name := "min", desc := "(II)I" } : Jvm.MethodName)) ∈ lw_g := gm (List.mem_of_getElem? (i := 387) (by decide +kernel)) rfl
theorem wd_339 : (Jvm.Cond.code ({ cls := "java/lang/Math", name := "min", desc := "(II)I" } : Jvm.MethodName) prog_8_method_69_code (2 : Nat) (Option.some Jvm.ClassFile.FieldType.int)) ∈ lw_g := gm (List.mem_of_getElem? (i := 388) (by decide +kernel)) rfl
theorem wd_340 : (Jvm.Cond.constant "PipeMoments$Stream" (98 : Nat) (-1000004 : Int32)) ∈ lw_g := gm (List.mem_of_getElem? (i := 389) (by decide +kernel)) rfl
theorem wd_341 : (Jvm.Cond.methodLink "PipeMomentsLaw" (53 : Nat) ({ cls := "PipeMoments", name := "come", desc := "(I)I" } : Jvm.MethodName)) ∈ lw_g := gm (List.mem_of_getElem? (i := 390) (by decide +kernel)) rfl
theorem wd_342 : (Jvm.Cond.instanceMethod ({ cls := "PipeMoments", name := "come", desc := "(I)I" } : Jvm.MethodName)) ∈ lw_g := gm (List.mem_of_getElem? (i := 391) (by decide +kernel)) rfl
theorem wd_343 : (Jvm.Cond.selects "PipeMoments" ({ cls := "PipeMoments", name := "come", desc := "(I)I" } : Jvm.MethodName) ({ cls := "PipeMoments", name := "come", desc := "(I)I" } : Jvm.MethodName)) ∈ lw_g := gm (List.mem_of_getElem? (i := 392) (by decide +kernel)) rfl
theorem wd_344 : (Jvm.Cond.code ({ cls := "PipeMoments", name := "come", desc := "(I)I" } : Jvm.MethodName) prog_1_method_11_code (2 : Nat) (Option.some Jvm.ClassFile.FieldType.int)) ∈ lw_g := gm (List.mem_of_getElem? (i := 393) (by decide +kernel)) rfl
theorem wd_345 : (Jvm.Cond.methodLink "PipeMoments" (119 : Nat) ({ cls := "PipeMoments", name := "isTick", desc := "(I)Z" } : Jvm.MethodName)) ∈ lw_g := gm (List.mem_of_getElem? (i := 394) (by decide +kernel)) rfl
theorem wd_346 : (Jvm.Cond.methodLink "PipeMoments" (122 : Nat) ({ cls := "PipeMoments$Stream", name := "most", desc := "(LPipeMoments$Layout;I)I" } : Jvm.MethodName)) ∈ lw_g := gm (List.mem_of_getElem? (i := 395) (by decide +kernel)) rfl
theorem wd_347 : (Jvm.Cond.instanceMethod ({ cls := "PipeMoments$Stream", name := "most", desc := "(LPipeMoments$Layout;I)I" } : Jvm.MethodName)) ∈ lw_g := gm (List.mem_of_getElem? (i := 396) (by decide +kernel)) rfl
theorem wd_348 : (Jvm.Cond.selects "PipeMoments$Stream" ({ cls := "PipeMoments$Stream", name := "most", desc := "(LPipeMoments$Layout;I)I" } : Jvm.MethodName) ({ cls := "PipeMoments$Stream", name := "most", desc := "(LPipeMoments$Layout;I)I" } : Jvm.MethodName)) ∈ lw_g := gm (List.mem_of_getElem? (i := 397) (by decide +kernel)) rfl
theorem wd_349 : (Jvm.Cond.code ({ cls := "PipeMoments$Stream", name := "most", desc := "(LPipeMoments$Layout;I)I" } : Jvm.MethodName) prog_5_method_2_code (3 : Nat) (Option.some Jvm.ClassFile.FieldType.int)) ∈ lw_g := gm (List.mem_of_getElem? (i := 398) (by decide +kernel)) rfl
theorem wd_350 : (Jvm.Cond.methodLink "PipeMoments$Stream" (42 : Nat) ({ cls := "PipeMoments$Stream", name := "mostBy", desc := "(I)I" } : Jvm.MethodName)) ∈ lw_g := gm (List.mem_of_getElem? (i := 399) (by decide +kernel)) rfl
theorem wd_352 : (Jvm.Cond.instanceMethod ({ cls := "PipeMoments$Stream", name := "mostBy", desc := "(I)I" } : Jvm.MethodName)) ∈ lw_g := gm (List.mem_of_getElem? (i := 401) (by decide +kernel)) rfl
theorem wd_353 : (Jvm.Cond.code ({ cls := "PipeMoments$Stream", name := "mostBy", desc := "(I)I" } : Jvm.MethodName) prog_5_method_13_code (2 : Nat) (Option.some Jvm.ClassFile.FieldType.int)) ∈ lw_g := gm (List.mem_of_getElem? (i := 402) (by decide +kernel)) rfl
theorem wd_354 : (Jvm.Cond.methodLink "PipeMomentsLaw" (57 : Nat) ({ cls := "PipeMoments", name := "earliest", desc := "(I)I" } : Jvm.MethodName)) ∈ lw_g := gm (List.mem_of_getElem? (i := 403) (by decide +kernel)) rfl
theorem wd_355 : (Jvm.Cond.instanceMethod ({ cls := "PipeMoments", name := "earliest", desc := "(I)I" } : Jvm.MethodName)) ∈ lw_g := gm (List.mem_of_getElem? (i := 404) (by decide +kernel)) rfl
theorem wd_356 : (Jvm.Cond.selects "PipeMoments" ({ cls := "PipeMoments", name := "earliest", desc := "(I)I" } : Jvm.MethodName) ({ cls := "PipeMoments", name := "earliest", desc := "(I)I" } : Jvm.MethodName)) ∈ lw_g := gm (List.mem_of_getElem? (i := 405) (by decide +kernel)) rfl
theorem wd_357 : (Jvm.Cond.code ({ cls := "PipeMoments", name := "earliest", desc := "(I)I" } : Jvm.MethodName) prog_1_method_12_code (2 : Nat) (Option.some Jvm.ClassFile.FieldType.int)) ∈ lw_g := gm (List.mem_of_getElem? (i := 406) (by decide +kernel)) rfl
theorem wd_358 : (Jvm.Cond.methodLink "PipeMoments" (125 : Nat) ({ cls := "PipeMoments$Layout", name := "allUnits", desc := "()I" } : Jvm.MethodName)) ∈ lw_g := gm (List.mem_of_getElem? (i := 407) (by decide +kernel)) rfl
theorem wd_359 : (Jvm.Cond.instanceMethod ({ cls := "PipeMoments$Layout", name := "allUnits", desc := "()I" } : Jvm.MethodName)) ∈ lw_g := gm (List.mem_of_getElem? (i := 408) (by decide +kernel)) rfl
theorem wd_360 : (Jvm.Cond.selects "PipeMoments$Layout" ({ cls := "PipeMoments$Layout", name := "allUnits", desc := "()I" } : Jvm.MethodName) ({ cls := "PipeMoments$Layout", name := "allUnits", desc := "()I" } : Jvm.MethodName)) ∈ lw_g := gm (List.mem_of_getElem? (i := 409) (by decide +kernel)) rfl
theorem wd_361 : (Jvm.Cond.code ({ cls := "PipeMoments$Layout", name := "allUnits", desc := "()I" } : Jvm.MethodName) prog_3_method_19_code (3 : Nat) (Option.some Jvm.ClassFile.FieldType.int)) ∈ lw_g := gm (List.mem_of_getElem? (i := 410) (by decide +kernel)) rfl
theorem wd_362 : (Jvm.Cond.methodLink "PipeMoments" (129 : Nat) ({ cls := "PipeMoments$Stream", name := "leastTick", desc := "(LPipeMoments$Layout;I)I" } : Jvm.MethodName)) ∈ lw_g := gm (List.mem_of_getElem? (i := 411) (by decide +kernel)) rfl
theorem wd_363 : (Jvm.Cond.instanceMethod ({ cls := "PipeMoments$Stream", name := "leastTick", desc := "(LPipeMoments$Layout;I)I" } : Jvm.MethodName)) ∈ lw_g := gm (List.mem_of_getElem? (i := 412) (by decide +kernel)) rfl
theorem wd_364 : (Jvm.Cond.selects "PipeMoments$Stream" ({ cls := "PipeMoments$Stream", name := "leastTick", desc := "(LPipeMoments$Layout;I)I" } : Jvm.MethodName) ({ cls := "PipeMoments$Stream", name := "leastTick", desc := "(LPipeMoments$Layout;I)I" } : Jvm.MethodName)) ∈ lw_g := gm (List.mem_of_getElem? (i := 413) (by decide +kernel)) rfl
theorem wd_365 : (Jvm.Cond.code ({ cls := "PipeMoments$Stream", name := "leastTick", desc := "(LPipeMoments$Layout;I)I" } : Jvm.MethodName) prog_5_method_7_code (3 : Nat) (Option.some Jvm.ClassFile.FieldType.int)) ∈ lw_g := gm (List.mem_of_getElem? (i := 414) (by decide +kernel)) rfl
theorem wd_366 : (Jvm.Cond.methodLink "PipeMomentsLaw" (61 : Nat) ({ cls := "PipeMoments", name := "repeated", desc := "(II)I" } : Jvm.MethodName)) ∈ lw_g := gm (List.mem_of_getElem? (i := 415) (by decide +kernel)) rfl
theorem wd_367 : (Jvm.Cond.instanceMethod ({ cls := "PipeMoments", name := "repeated", desc := "(II)I" } : Jvm.MethodName)) ∈ lw_g := gm (List.mem_of_getElem? (i := 416) (by decide +kernel)) rfl
theorem wd_368 : (Jvm.Cond.selects "PipeMoments" ({ cls := "PipeMoments", name := "repeated", desc := "(II)I" } : Jvm.MethodName) ({ cls := "PipeMoments", name := "repeated", desc := "(II)I" } : Jvm.MethodName)) ∈ lw_g := gm (List.mem_of_getElem? (i := 417) (by decide +kernel)) rfl
theorem wd_369 : (Jvm.Cond.code ({ cls := "PipeMoments", name := "repeated", desc := "(II)I" } : Jvm.MethodName) prog_1_method_13_code (3 : Nat) (Option.some Jvm.ClassFile.FieldType.int)) ∈ lw_g := gm (List.mem_of_getElem? (i := 418) (by decide +kernel)) rfl
theorem wd_370 : (Jvm.Cond.methodLink "PipeMoments" (132 : Nat) ({ cls := "PipeMoments$Stream", name := "mostRepeated", desc := "(LPipeMoments$Layout;II)I" } : Jvm.MethodName)) ∈ lw_g := gm (List.mem_of_getElem? (i := 419) (by decide +kernel)) rfl
theorem wd_371 : (Jvm.Cond.instanceMethod ({ cls := "PipeMoments$Stream", name := "mostRepeated", desc := "(LPipeMoments$Layout;II)I" } : Jvm.MethodName)) ∈ lw_g := gm (List.mem_of_getElem? (i := 420) (by decide +kernel)) rfl
theorem wd_372 : (Jvm.Cond.selects "PipeMoments$Stream" ({ cls := "PipeMoments$Stream", name := "mostRepeated", desc := "(LPipeMoments$Layout;II)I" } : Jvm.MethodName) ({ cls := "PipeMoments$Stream", name := "mostRepeated", desc := "(LPipeMoments$Layout;II)I" } : Jvm.MethodName)) ∈ lw_g := gm (List.mem_of_getElem? (i := 421) (by decide +kernel)) rfl
theorem wd_373 : (Jvm.Cond.code ({ cls := "PipeMoments$Stream", name := "mostRepeated", desc := "(LPipeMoments$Layout;II)I" } : Jvm.MethodName) prog_5_method_6_code (5 : Nat) (Option.some Jvm.ClassFile.FieldType.int)) ∈ lw_g := gm (List.mem_of_getElem? (i := 422) (by decide +kernel)) rfl
theorem wd_374 : (Jvm.Cond.methodLink "PipeMoments$Stream" (70 : Nat) ({ cls := "PipeMoments$Layout", name := "setOpening", desc := "(III)V" } : Jvm.MethodName)) ∈ lw_g := gm (List.mem_of_getElem? (i := 423) (by decide +kernel)) rfl
theorem wd_375 : (Jvm.Cond.methodLink "PipeMomentsLaw" (65 : Nat) ({ cls := "PipeMoments", name := "narrow", desc := "(I)I" } : Jvm.MethodName)) ∈ lw_g := gm (List.mem_of_getElem? (i := 424) (by decide +kernel)) rfl
theorem wd_376 : (Jvm.Cond.instanceMethod ({ cls := "PipeMoments", name := "narrow", desc := "(I)I" } : Jvm.MethodName)) ∈ lw_g := gm (List.mem_of_getElem? (i := 425) (by decide +kernel)) rfl
theorem wd_377 : (Jvm.Cond.selects "PipeMoments" ({ cls := "PipeMoments", name := "narrow", desc := "(I)I" } : Jvm.MethodName) ({ cls := "PipeMoments", name := "narrow", desc := "(I)I" } : Jvm.MethodName)) ∈ lw_g := gm (List.mem_of_getElem? (i := 426) (by decide +kernel)) rfl
theorem wd_378 : (Jvm.Cond.code ({ cls := "PipeMoments", name := "narrow", desc := "(I)I" } : Jvm.MethodName) prog_1_method_14_code (2 : Nat) (Option.some Jvm.ClassFile.FieldType.int)) ∈ lw_g := gm (List.mem_of_getElem? (i := 427) (by decide +kernel)) rfl
theorem wd_379 : (Jvm.Cond.methodLink "PipeMoments" (136 : Nat) ({ cls := "PipeMoments$Stream", name := "narrowPipes", desc := "(I)I" } : Jvm.MethodName)) ∈ lw_g := gm (List.mem_of_getElem? (i := 428) (by decide +kernel)) rfl
theorem wd_380 : (Jvm.Cond.instanceMethod ({ cls := "PipeMoments$Stream", name := "narrowPipes", desc := "(I)I" } : Jvm.MethodName)) ∈ lw_g := gm (List.mem_of_getElem? (i := 429) (by decide +kernel)) rfl
theorem wd_381 : (Jvm.Cond.selects "PipeMoments$Stream" ({ cls := "PipeMoments$Stream", name := "narrowPipes", desc := "(I)I" } : Jvm.MethodName) ({ cls := "PipeMoments$Stream", name := "narrowPipes", desc := "(I)I" } : Jvm.MethodName)) ∈ lw_g := gm (List.mem_of_getElem? (i := 430) (by decide +kernel)) rfl
theorem wd_382 : (Jvm.Cond.code ({ cls := "PipeMoments$Stream", name := "narrowPipes", desc := "(I)I" } : Jvm.MethodName) prog_5_method_11_code (4 : Nat) (Option.some Jvm.ClassFile.FieldType.int)) ∈ lw_g := gm (List.mem_of_getElem? (i := 431) (by decide +kernel)) rfl
theorem wd_383 : (Jvm.Cond.methodLink "PipeMoments$Stream" (82 : Nat) ({ cls := "PipeMoments$Stream", name := "isNarrow", desc := "(II)Z" } : Jvm.MethodName)) ∈ lw_g := gm (List.mem_of_getElem? (i := 432) (by decide +kernel)) rfl
theorem wd_385 : (Jvm.Cond.instanceMethod ({ cls := "PipeMoments$Stream", name := "isNarrow", desc := "(II)Z" } : Jvm.MethodName)) ∈ lw_g := gm (List.mem_of_getElem? (i := 434) (by decide +kernel)) rfl
theorem wd_386 : (Jvm.Cond.code ({ cls := "PipeMoments$Stream", name := "isNarrow", desc := "(II)Z" } : Jvm.MethodName) prog_5_method_12_code (8 : Nat) (Option.some Jvm.ClassFile.FieldType.boolean)) ∈ lw_g := gm (List.mem_of_getElem? (i := 435) (by decide +kernel)) rfl
theorem wd_387 : (Jvm.Cond.methodLink "PipeMoments$Stream" (89 : Nat) ({ cls := "PipeMoments$Stream", name := "isWanting", desc := "(II)Z" } : Jvm.MethodName)) ∈ lw_g := gm (List.mem_of_getElem? (i := 436) (by decide +kernel)) rfl
theorem wd_388 : (Jvm.Cond.instanceMethod ({ cls := "PipeMoments$Stream", name := "isWanting", desc := "(II)Z" } : Jvm.MethodName)) ∈ lw_g := gm (List.mem_of_getElem? (i := 437) (by decide +kernel)) rfl
theorem wd_389 : (Jvm.Cond.selects "PipeMoments$Stream" ({ cls := "PipeMoments$Stream", name := "isWanting", desc := "(II)Z" } : Jvm.MethodName) ({ cls := "PipeMoments$Stream", name := "isWanting", desc := "(II)Z" } : Jvm.MethodName)) ∈ lw_g := gm (List.mem_of_getElem? (i := 438) (by decide +kernel)) rfl
theorem wd_390 : (Jvm.Cond.code ({ cls := "PipeMoments$Stream", name := "isWanting", desc := "(II)Z" } : Jvm.MethodName) prog_5_method_10_code (3 : Nat) (Option.some Jvm.ClassFile.FieldType.boolean)) ∈ lw_g := gm (List.mem_of_getElem? (i := 439) (by decide +kernel)) rfl
theorem wd_391 : (Jvm.Cond.methodLink "PipeMomentsLaw" (69 : Nat) ({ cls := "PipeMoments", name := "wanting", desc := "(III)I" } : Jvm.MethodName)) ∈ lw_g := gm (List.mem_of_getElem? (i := 440) (by decide +kernel)) rfl
theorem wd_392 : (Jvm.Cond.instanceMethod ({ cls := "PipeMoments", name := "wanting", desc := "(III)I" } : Jvm.MethodName)) ∈ lw_g := gm (List.mem_of_getElem? (i := 441) (by decide +kernel)) rfl
theorem wd_393 : (Jvm.Cond.selects "PipeMoments" ({ cls := "PipeMoments", name := "wanting", desc := "(III)I" } : Jvm.MethodName) ({ cls := "PipeMoments", name := "wanting", desc := "(III)I" } : Jvm.MethodName)) ∈ lw_g := gm (List.mem_of_getElem? (i := 442) (by decide +kernel)) rfl
theorem wd_394 : (Jvm.Cond.code ({ cls := "PipeMoments", name := "wanting", desc := "(III)I" } : Jvm.MethodName) prog_1_method_15_code (4 : Nat) (Option.some Jvm.ClassFile.FieldType.int)) ∈ lw_g := gm (List.mem_of_getElem? (i := 443) (by decide +kernel)) rfl
theorem wd_395 : (Jvm.Cond.methodLink "PipeMoments" (140 : Nat) ({ cls := "PipeMoments$Stream", name := "isWanting", desc := "(II)Z" } : Jvm.MethodName)) ∈ lw_g := gm (List.mem_of_getElem? (i := 444) (by decide +kernel)) rfl
theorem wd_396 : (Jvm.Cond.methodLink "PipeMomentsLaw" (73 : Nat) ({ cls := "PipeMoments", name := "dearest", desc := "(II)I" } : Jvm.MethodName)) ∈ lw_g := gm (List.mem_of_getElem? (i := 445) (by decide +kernel)) rfl
theorem wd_397 : (Jvm.Cond.instanceMethod ({ cls := "PipeMoments", name := "dearest", desc := "(II)I" } : Jvm.MethodName)) ∈ lw_g := gm (List.mem_of_getElem? (i := 446) (by decide +kernel)) rfl
theorem wd_398 : (Jvm.Cond.selects "PipeMoments" ({ cls := "PipeMoments", name := "dearest", desc := "(II)I" } : Jvm.MethodName) ({ cls := "PipeMoments", name := "dearest", desc := "(II)I" } : Jvm.MethodName)) ∈ lw_g := gm (List.mem_of_getElem? (i := 447) (by decide +kernel)) rfl
theorem wd_399 : (Jvm.Cond.code ({ cls := "PipeMoments", name := "dearest", desc := "(II)I" } : Jvm.MethodName) prog_1_method_16_code (8 : Nat) (Option.some Jvm.ClassFile.FieldType.int)) ∈ lw_g := gm (List.mem_of_getElem? (i := 448) (by decide +kernel)) rfl
theorem wd_400 : (Jvm.Cond.constant "PipeMoments" (144 : Nat) (-1000004 : Int32)) ∈ lw_g := gm (List.mem_of_getElem? (i := 449) (by decide +kernel)) rfl
theorem wd_401 : (Jvm.Cond.methodLink "PipeMoments" (145 : Nat) ({ cls := "PipeMoments$Stream", name := "usedPipes", desc := "()I" } : Jvm.MethodName)) ∈ lw_g := gm (List.mem_of_getElem? (i := 450) (by decide +kernel)) rfl
theorem wd_402 : (Jvm.Cond.instanceMethod ({ cls := "PipeMoments$Stream", name := "usedPipes", desc := "()I" } : Jvm.MethodName)) ∈ lw_g := gm (List.mem_of_getElem? (i := 451) (by decide +kernel)) rfl
theorem wd_403 : (Jvm.Cond.selects "PipeMoments$Stream" ({ cls := "PipeMoments$Stream", name := "usedPipes", desc := "()I" } : Jvm.MethodName) ({ cls := "PipeMoments$Stream", name := "usedPipes", desc := "()I" } : Jvm.MethodName)) ∈ lw_g := gm (List.mem_of_getElem? (i := 452) (by decide +kernel)) rfl
theorem wd_404 : (Jvm.Cond.code ({ cls := "PipeMoments$Stream", name := "usedPipes", desc := "()I" } : Jvm.MethodName) prog_5_method_9_code (4 : Nat) (Option.some Jvm.ClassFile.FieldType.int)) ∈ lw_g := gm (List.mem_of_getElem? (i := 453) (by decide +kernel)) rfl
theorem wd_405 : (Jvm.Cond.methodLink "PipeMoments" (148 : Nat) ({ cls := "PipeMoments", name := "has", desc := "(II)Z" } : Jvm.MethodName)) ∈ lw_g := gm (List.mem_of_getElem? (i := 454) (by decide +kernel)) rfl
theorem wd_406 : (Jvm.Cond.static ({ cls := "PipeMoments", name := "has", desc := "(II)Z" } : Jvm.MethodName)) ∈ lw_g := gm (List.mem_of_getElem? (i := 455) (by decide +kernel)) rfl
theorem wd_407 : (Jvm.Cond.code ({ cls := "PipeMoments", name := "has", desc := "(II)Z" } : Jvm.MethodName) prog_1_method_27_code (2 : Nat) (Option.some Jvm.ClassFile.FieldType.boolean)) ∈ lw_g := gm (List.mem_of_getElem? (i := 456) (by decide +kernel)) rfl
theorem wd_408 : (Jvm.Cond.methodLink "PipeMoments" (151 : Nat) ({ cls := "PipeMoments$Stream", name := "mostWithout", desc := "(LPipeMoments$Layout;II)I" } : Jvm.MethodName)) ∈ lw_g := gm (List.mem_of_getElem? (i := 457) (by decide +kernel)) rfl
theorem wd_409 : (Jvm.Cond.instanceMethod ({ cls := "PipeMoments$Stream", name := "mostWithout", desc := "(LPipeMoments$Layout;II)I" } : Jvm.MethodName)) ∈ lw_g := gm (List.mem_of_getElem? (i := 458) (by decide +kernel)) rfl
theorem wd_410 : (Jvm.Cond.selects "PipeMoments$Stream" ({ cls := "PipeMoments$Stream", name := "mostWithout", desc := "(LPipeMoments$Layout;II)I" } : Jvm.MethodName) ({ cls := "PipeMoments$Stream", name := "mostWithout", desc := "(LPipeMoments$Layout;II)I" } : Jvm.MethodName)) ∈ lw_g := gm (List.mem_of_getElem? (i := 459) (by decide +kernel)) rfl
theorem wd_411 : (Jvm.Cond.code ({ cls := "PipeMoments$Stream", name := "mostWithout", desc := "(LPipeMoments$Layout;II)I" } : Jvm.MethodName) prog_5_method_3_code (4 : Nat) (Option.some Jvm.ClassFile.FieldType.int)) ∈ lw_g := gm (List.mem_of_getElem? (i := 460) (by decide +kernel)) rfl
theorem wd_412 : (Jvm.Cond.methodLink "PipeMoments$Stream" (46 : Nat) ({ cls := "PipeMoments$Layout", name := "setPart", desc := "(III)V" } : Jvm.MethodName)) ∈ lw_g := gm (List.mem_of_getElem? (i := 461) (by decide +kernel)) rfl
theorem wd_413 : (Jvm.Cond.methodLink "PipeMomentsLaw" (77 : Nat) ({ cls := "PipeMoments", name := "helpful", desc := "(II)I" } : Jvm.MethodName)) ∈ lw_g := gm (List.mem_of_getElem? (i := 462) (by decide +kernel)) rfl
theorem wd_414 : (Jvm.Cond.instanceMethod ({ cls := "PipeMoments", name := "helpful", desc := "(II)I" } : Jvm.MethodName)) ∈ lw_g := gm (List.mem_of_getElem? (i := 463) (by decide +kernel)) rfl
theorem wd_415 : (Jvm.Cond.selects "PipeMoments" ({ cls := "PipeMoments", name := "helpful", desc := "(II)I" } : Jvm.MethodName) ({ cls := "PipeMoments", name := "helpful", desc := "(II)I" } : Jvm.MethodName)) ∈ lw_g := gm (List.mem_of_getElem? (i := 464) (by decide +kernel)) rfl
theorem wd_416 : (Jvm.Cond.code ({ cls := "PipeMoments", name := "helpful", desc := "(II)I" } : Jvm.MethodName) prog_1_method_17_code (9 : Nat) (Option.some Jvm.ClassFile.FieldType.int)) ∈ lw_g := gm (List.mem_of_getElem? (i := 465) (by decide +kernel)) rfl
theorem wd_417 : (Jvm.Cond.methodLink "PipeMoments" (154 : Nat) ({ cls := "PipeMoments$Stream", name := "mostWider", desc := "(LPipeMoments$Layout;II)I" } : Jvm.MethodName)) ∈ lw_g := gm (List.mem_of_getElem? (i := 466) (by decide +kernel)) rfl
theorem wd_418 : (Jvm.Cond.instanceMethod ({ cls := "PipeMoments$Stream", name := "mostWider", desc := "(LPipeMoments$Layout;II)I" } : Jvm.MethodName)) ∈ lw_g := gm (List.mem_of_getElem? (i := 467) (by decide +kernel)) rfl
theorem wd_419 : (Jvm.Cond.selects "PipeMoments$Stream" ({ cls := "PipeMoments$Stream", name := "mostWider", desc := "(LPipeMoments$Layout;II)I" } : Jvm.MethodName) ({ cls := "PipeMoments$Stream", name := "mostWider", desc := "(LPipeMoments$Layout;II)I" } : Jvm.MethodName)) ∈ lw_g := gm (List.mem_of_getElem? (i := 468) (by decide +kernel)) rfl
theorem wd_420 : (Jvm.Cond.code ({ cls := "PipeMoments$Stream", name := "mostWider", desc := "(LPipeMoments$Layout;II)I" } : Jvm.MethodName) prog_5_method_4_code (4 : Nat) (Option.some Jvm.ClassFile.FieldType.int)) ∈ lw_g := gm (List.mem_of_getElem? (i := 469) (by decide +kernel)) rfl
theorem wd_421 : (Jvm.Cond.methodLink "PipeMomentsLaw" (81 : Nat) ({ cls := "PipeMoments", name := "withOneMore", desc := "(II)I" } : Jvm.MethodName)) ∈ lw_g := gm (List.mem_of_getElem? (i := 470) (by decide +kernel)) rfl
theorem wd_422 : (Jvm.Cond.instanceMethod ({ cls := "PipeMoments", name := "withOneMore", desc := "(II)I" } : Jvm.MethodName)) ∈ lw_g := gm (List.mem_of_getElem? (i := 471) (by decide +kernel)) rfl
theorem wd_423 : (Jvm.Cond.selects "PipeMoments" ({ cls := "PipeMoments", name := "withOneMore", desc := "(II)I" } : Jvm.MethodName) ({ cls := "PipeMoments", name := "withOneMore", desc := "(II)I" } : Jvm.MethodName)) ∈ lw_g := gm (List.mem_of_getElem? (i := 472) (by decide +kernel)) rfl
theorem wd_424 : (Jvm.Cond.code ({ cls := "PipeMoments", name := "withOneMore", desc := "(II)I" } : Jvm.MethodName) prog_1_method_18_code (3 : Nat) (Option.some Jvm.ClassFile.FieldType.int)) ∈ lw_g := gm (List.mem_of_getElem? (i := 473) (by decide +kernel)) rfl
theorem wd_425 : (Jvm.Cond.methodLink "PipeMoments" (157 : Nat) ({ cls := "PipeMoments$Stream", name := "mostWithUnit", desc := "(LPipeMoments$Layout;II)I" } : Jvm.MethodName)) ∈ lw_g := gm (List.mem_of_getElem? (i := 474) (by decide +kernel)) rfl
theorem wd_426 : (Jvm.Cond.instanceMethod ({ cls := "PipeMoments$Stream", name := "mostWithUnit", desc := "(LPipeMoments$Layout;II)I" } : Jvm.MethodName)) ∈ lw_g := gm (List.mem_of_getElem? (i := 475) (by decide +kernel)) rfl
theorem wd_427 : (Jvm.Cond.selects "PipeMoments$Stream" ({ cls := "PipeMoments$Stream", name := "mostWithUnit", desc := "(LPipeMoments$Layout;II)I" } : Jvm.MethodName) ({ cls := "PipeMoments$Stream", name := "mostWithUnit", desc := "(LPipeMoments$Layout;II)I" } : Jvm.MethodName)) ∈ lw_g := gm (List.mem_of_getElem? (i := 476) (by decide +kernel)) rfl
theorem wd_428 : (Jvm.Cond.code ({ cls := "PipeMoments$Stream", name := "mostWithUnit", desc := "(LPipeMoments$Layout;II)I" } : Jvm.MethodName) prog_5_method_5_code (4 : Nat) (Option.some Jvm.ClassFile.FieldType.int)) ∈ lw_g := gm (List.mem_of_getElem? (i := 477) (by decide +kernel)) rfl
theorem wd_429 : (Jvm.Cond.methodLink "PipeMomentsLaw" (85 : Nat) ({ cls := "PipeMoments", name := "count", desc := "(I)I" } : Jvm.MethodName)) ∈ lw_g := gm (List.mem_of_getElem? (i := 478) (by decide +kernel)) rfl
theorem wd_430 : (Jvm.Cond.instanceMethod ({ cls := "PipeMoments", name := "count", desc := "(I)I" } : Jvm.MethodName)) ∈ lw_g := gm (List.mem_of_getElem? (i := 479) (by decide +kernel)) rfl
theorem wd_431 : (Jvm.Cond.selects "PipeMoments" ({ cls := "PipeMoments", name := "count", desc := "(I)I" } : Jvm.MethodName) ({ cls := "PipeMoments", name := "count", desc := "(I)I" } : Jvm.MethodName)) ∈ lw_g := gm (List.mem_of_getElem? (i := 480) (by decide +kernel)) rfl
theorem wd_432 : (Jvm.Cond.code ({ cls := "PipeMoments", name := "count", desc := "(I)I" } : Jvm.MethodName) prog_1_method_19_code (2 : Nat) (Option.some Jvm.ClassFile.FieldType.int)) ∈ lw_g := gm (List.mem_of_getElem? (i := 481) (by decide +kernel)) rfl
theorem wd_433 : (Jvm.Cond.methodLink "PipeMoments" (163 : Nat) ({ cls := "PipeMoments$Layout", name := "allBounds", desc := "()I" } : Jvm.MethodName)) ∈ lw_g := gm (List.mem_of_getElem? (i := 482) (by decide +kernel)) rfl
theorem wd_434 : (Jvm.Cond.instanceMethod ({ cls := "PipeMoments$Layout", name := "allBounds", desc := "()I" } : Jvm.MethodName)) ∈ lw_g := gm (List.mem_of_getElem? (i := 483) (by decide +kernel)) rfl
theorem wd_435 : (Jvm.Cond.selects "PipeMoments$Layout" ({ cls := "PipeMoments$Layout", name := "allBounds", desc := "()I" } : Jvm.MethodName) ({ cls := "PipeMoments$Layout", name := "allBounds", desc := "()I" } : Jvm.MethodName)) ∈ lw_g := gm (List.mem_of_getElem? (i := 484) (by decide +kernel)) rfl
theorem wd_436 : (Jvm.Cond.code ({ cls := "PipeMoments$Layout", name := "allBounds", desc := "()I" } : Jvm.MethodName) prog_3_method_20_code (3 : Nat) (Option.some Jvm.ClassFile.FieldType.int)) ∈ lw_g := gm (List.mem_of_getElem? (i := 485) (by decide +kernel)) rfl
theorem wd_437 : (Jvm.Cond.methodLink "PipeMomentsLaw" (89 : Nat) ({ cls := "PipeMoments", name := "undo", desc := "()I" } : Jvm.MethodName)) ∈ lw_g := gm (List.mem_of_getElem? (i := 486) (by decide +kernel)) rfl
theorem wd_438 : (Jvm.Cond.instanceMethod ({ cls := "PipeMoments", name := "undo", desc := "()I" } : Jvm.MethodName)) ∈ lw_g := gm (List.mem_of_getElem? (i := 487) (by decide +kernel)) rfl
theorem wd_439 : (Jvm.Cond.selects "PipeMoments" ({ cls := "PipeMoments", name := "undo", desc := "()I" } : Jvm.MethodName) ({ cls := "PipeMoments", name := "undo", desc := "()I" } : Jvm.MethodName)) ∈ lw_g := gm (List.mem_of_getElem? (i := 488) (by decide +kernel)) rfl
theorem wd_440 : (Jvm.Cond.code ({ cls := "PipeMoments", name := "undo", desc := "()I" } : Jvm.MethodName) prog_1_method_20_code (1 : Nat) (Option.some Jvm.ClassFile.FieldType.int)) ∈ lw_g := gm (List.mem_of_getElem? (i := 489) (by decide +kernel)) rfl
theorem wd_441 : (Jvm.Cond.constant "PipeMoments" (172 : Nat) (-1000002 : Int32)) ∈ lw_g := gm (List.mem_of_getElem? (i := 490) (by decide +kernel)) rfl
theorem wd_442 : (Jvm.Cond.methodLink "PipeMoments" (173 : Nat) ({ cls := "PipeMoments$History", name := "restore", desc := "(LPipeMoments$Layout;)V" } : Jvm.MethodName)) ∈ lw_g := gm (List.mem_of_getElem? (i := 491) (by decide +kernel)) rfl
theorem wd_443 : (Jvm.Cond.instanceMethod ({ cls := "PipeMoments$History", name := "restore", desc := "(LPipeMoments$Layout;)V" } : Jvm.MethodName)) ∈ lw_g := gm (List.mem_of_getElem? (i := 492) (by decide +kernel)) rfl
theorem wd_444 : (Jvm.Cond.selects "PipeMoments$History" ({ cls := "PipeMoments$History", name := "restore", desc := "(LPipeMoments$Layout;)V" } : Jvm.MethodName) ({ cls := "PipeMoments$History", name := "restore", desc := "(LPipeMoments$Layout;)V" } : Jvm.MethodName)) ∈ lw_g := gm (List.mem_of_getElem? (i := 493) (by decide +kernel)) rfl
theorem wd_445 : (Jvm.Cond.code ({ cls := "PipeMoments$History", name := "restore", desc := "(LPipeMoments$Layout;)V" } : Jvm.MethodName) prog_2_method_3_code (2 : Nat) (Option.none : Option Jvm.ClassFile.FieldType)) ∈ lw_g := gm (List.mem_of_getElem? (i := 494) (by decide +kernel)) rfl
theorem wd_446 : (Jvm.Cond.methodLink "PipeMomentsLaw" (94 : Nat) ({ cls := "PipeMoments", name := "type", desc := "(I)I" } : Jvm.MethodName)) ∈ lw_g := gm (List.mem_of_getElem? (i := 495) (by decide +kernel)) rfl
theorem wd_447 : (Jvm.Cond.instanceMethod ({ cls := "PipeMoments", name := "type", desc := "(I)I" } : Jvm.MethodName)) ∈ lw_g := gm (List.mem_of_getElem? (i := 496) (by decide +kernel)) rfl
theorem wd_448 : (Jvm.Cond.selects "PipeMoments" ({ cls := "PipeMoments", name := "type", desc := "(I)I" } : Jvm.MethodName) ({ cls := "PipeMoments", name := "type", desc := "(I)I" } : Jvm.MethodName)) ∈ lw_g := gm (List.mem_of_getElem? (i := 497) (by decide +kernel)) rfl
theorem wd_449 : (Jvm.Cond.code ({ cls := "PipeMoments", name := "type", desc := "(I)I" } : Jvm.MethodName) prog_1_method_21_code (2 : Nat) (Option.some Jvm.ClassFile.FieldType.int)) ∈ lw_g := gm (List.mem_of_getElem? (i := 498) (by decide +kernel)) rfl
theorem wd_450 : (Jvm.Cond.methodLink "PipeMoments" (176 : Nat) ({ cls := "PipeMoments$Settings", name := "append", desc := "(C)I" } : Jvm.MethodName)) ∈ lw_g := gm (List.mem_of_getElem? (i := 499) (by decide +kernel)) rfl
theorem wd_451 : (Jvm.Cond.instanceMethod ({ cls := "PipeMoments$Settings", name := "append", desc := "(C)I" } : Jvm.MethodName)) ∈ lw_g := gm (List.mem_of_getElem? (i := 500) (by decide +kernel)) rfl
theorem wd_452 : (Jvm.Cond.selects "PipeMoments$Settings" ({ cls := "PipeMoments$Settings", name := "append", desc := "(C)I" } : Jvm.MethodName) ({ cls := "PipeMoments$Settings", name := "append", desc := "(C)I" } : Jvm.MethodName)) ∈ lw_g := gm (List.mem_of_getElem? (i := 501) (by decide +kernel)) rfl
theorem wd_453 : (Jvm.Cond.code ({ cls := "PipeMoments$Settings", name := "append", desc := "(C)I" } : Jvm.MethodName) prog_4_method_2_code (2 : Nat) (Option.some Jvm.ClassFile.FieldType.int)) ∈ lw_g := gm (List.mem_of_getElem? (i := 502) (by decide +kernel)) rfl
theorem wd_454 : (Jvm.Cond.constant "PipeMoments$Settings" (45 : Nat) (-1000003 : Int32)) ∈ lw_g := gm (List.mem_of_getElem? (i := 503) (by decide +kernel)) rfl
theorem wd_455 : (Jvm.Cond.methodLink "PipeMomentsLaw" (98 : Nat) ({ cls := "PipeMoments", name := "clearText", desc := "()I" } : Jvm.MethodName)) ∈ lw_g := gm (List.mem_of_getElem? (i := 504) (by decide +kernel)) rfl
theorem wd_456 : (Jvm.Cond.instanceMethod ({ cls := "PipeMoments", name := "clearText", desc := "()I" } : Jvm.MethodName)) ∈ lw_g := gm (List.mem_of_getElem? (i := 505) (by decide +kernel)) rfl
theorem wd_457 : (Jvm.Cond.selects "PipeMoments" ({ cls := "PipeMoments", name := "clearText", desc := "()I" } : Jvm.MethodName) ({ cls := "PipeMoments", name := "clearText", desc := "()I" } : Jvm.MethodName)) ∈ lw_g := gm (List.mem_of_getElem? (i := 506) (by decide +kernel)) rfl
theorem wd_458 : (Jvm.Cond.code ({ cls := "PipeMoments", name := "clearText", desc := "()I" } : Jvm.MethodName) prog_1_method_22_code (1 : Nat) (Option.some Jvm.ClassFile.FieldType.int)) ∈ lw_g := gm (List.mem_of_getElem? (i := 507) (by decide +kernel)) rfl
theorem wd_459 : (Jvm.Cond.methodLink "PipeMoments" (180 : Nat) ({ cls := "PipeMoments$Settings", name := "empty", desc := "()I" } : Jvm.MethodName)) ∈ lw_g := gm (List.mem_of_getElem? (i := 508) (by decide +kernel)) rfl
theorem wd_460 : (Jvm.Cond.instanceMethod ({ cls := "PipeMoments$Settings", name := "empty", desc := "()I" } : Jvm.MethodName)) ∈ lw_g := gm (List.mem_of_getElem? (i := 509) (by decide +kernel)) rfl
theorem wd_461 : (Jvm.Cond.selects "PipeMoments$Settings" ({ cls := "PipeMoments$Settings", name := "empty", desc := "()I" } : Jvm.MethodName) ({ cls := "PipeMoments$Settings", name := "empty", desc := "()I" } : Jvm.MethodName)) ∈ lw_g := gm (List.mem_of_getElem? (i := 510) (by decide +kernel)) rfl
theorem wd_462 : (Jvm.Cond.code ({ cls := "PipeMoments$Settings", name := "empty", desc := "()I" } : Jvm.MethodName) prog_4_method_3_code (2 : Nat) (Option.some Jvm.ClassFile.FieldType.int)) ∈ lw_g := gm (List.mem_of_getElem? (i := 511) (by decide +kernel)) rfl
theorem wd_463 : (Jvm.Cond.methodLink "PipeMomentsLaw" (102 : Nat) ({ cls := "PipeMoments", name := "fault", desc := "(I)I" } : Jvm.MethodName)) ∈ lw_g := gm (List.mem_of_getElem? (i := 512) (by decide +kernel)) rfl
theorem wd_464 : (Jvm.Cond.instanceMethod ({ cls := "PipeMoments", name := "fault", desc := "(I)I" } : Jvm.MethodName)) ∈ lw_g := gm (List.mem_of_getElem? (i := 513) (by decide +kernel)) rfl
theorem wd_465 : (Jvm.Cond.selects "PipeMoments" ({ cls := "PipeMoments", name := "fault", desc := "(I)I" } : Jvm.MethodName) ({ cls := "PipeMoments", name := "fault", desc := "(I)I" } : Jvm.MethodName)) ∈ lw_g := gm (List.mem_of_getElem? (i := 514) (by decide +kernel)) rfl
theorem wd_466 : (Jvm.Cond.code ({ cls := "PipeMoments", name := "fault", desc := "(I)I" } : Jvm.MethodName) prog_1_method_23_code (2 : Nat) (Option.some Jvm.ClassFile.FieldType.int)) ∈ lw_g := gm (List.mem_of_getElem? (i := 515) (by decide +kernel)) rfl
theorem wd_467 : (Jvm.Cond.methodLink "PipeMoments" (183 : Nat) ({ cls := "PipeMoments$Settings", name := "read", desc := "(LPipeMoments$Layout;)V" } : Jvm.MethodName)) ∈ lw_g := gm (List.mem_of_getElem? (i := 516) (by decide +kernel)) rfl
theorem wd_468 : (Jvm.Cond.instanceMethod ({ cls := "PipeMoments$Settings", name := "read", desc := "(LPipeMoments$Layout;)V" } : Jvm.MethodName)) ∈ lw_g := gm (List.mem_of_getElem? (i := 517) (by decide +kernel)) rfl
theorem wd_469 : (Jvm.Cond.selects "PipeMoments$Settings" ({ cls := "PipeMoments$Settings", name := "read", desc := "(LPipeMoments$Layout;)V" } : Jvm.MethodName) ({ cls := "PipeMoments$Settings", name := "read", desc := "(LPipeMoments$Layout;)V" } : Jvm.MethodName)) ∈ lw_g := gm (List.mem_of_getElem? (i := 518) (by decide +kernel)) rfl
theorem wd_470 : (Jvm.Cond.code ({ cls := "PipeMoments$Settings", name := "read", desc := "(LPipeMoments$Layout;)V" } : Jvm.MethodName) prog_4_method_5_code (3 : Nat) (Option.none : Option Jvm.ClassFile.FieldType)) ∈ lw_g := gm (List.mem_of_getElem? (i := 519) (by decide +kernel)) rfl
theorem wd_471 : (Jvm.Cond.methodLink "PipeMoments$Settings" (46 : Nat) ({ cls := "PipeMoments$Layout", name := "copyFrom", desc := "(LPipeMoments$Layout;)V" } : Jvm.MethodName)) ∈ lw_g := gm (List.mem_of_getElem? (i := 520) (by decide +kernel)) rfl
theorem wd_472 : (Jvm.Cond.methodLink "PipeMoments$Settings" (50 : Nat) ({ cls := "PipeMoments$Settings", name := "readSetting", desc := "()V" } : Jvm.MethodName)) ∈ lw_g := gm (List.mem_of_getElem? (i := 521) (by decide +kernel)) rfl
theorem wd_474 : (Jvm.Cond.instanceMethod ({ cls := "PipeMoments$Settings", name := "readSetting", desc := "()V" } : Jvm.MethodName)) ∈ lw_g := gm (List.mem_of_getElem? (i := 523) (by decide +kernel)) rfl
theorem wd_475 : (Jvm.Cond.code ({ cls := "PipeMoments$Settings", name := "readSetting", desc := "()V" } : Jvm.MethodName) prog_4_method_6_code (3 : Nat) (Option.none : Option Jvm.ClassFile.FieldType)) ∈ lw_g := gm (List.mem_of_getElem? (i := 524) (by decide +kernel)) rfl
theorem wd_476 : (Jvm.Cond.methodLink "PipeMoments$Settings" (53 : Nat) ({ cls := "PipeMoments$Settings", name := "readForm", desc := "(C)Z" } : Jvm.MethodName)) ∈ lw_g := gm (List.mem_of_getElem? (i := 525) (by decide +kernel)) rfl
theorem wd_478 : (Jvm.Cond.instanceMethod ({ cls := "PipeMoments$Settings", name := "readForm", desc := "(C)Z" } : Jvm.MethodName)) ∈ lw_g := gm (List.mem_of_getElem? (i := 527) (by decide +kernel)) rfl
theorem wd_479 : (Jvm.Cond.code ({ cls := "PipeMoments$Settings", name := "readForm", desc := "(C)Z" } : Jvm.MethodName) prog_4_method_7_code (4 : Nat) (Option.some Jvm.ClassFile.FieldType.boolean)) ∈ lw_g := gm (List.mem_of_getElem? (i := 528) (by decide +kernel)) rfl
theorem wd_480 : (Jvm.Cond.methodLink "PipeMoments$Settings" (68 : Nat) ({ cls := "PipeMoments$Settings", name := "numbersOf", desc := "(C)I" } : Jvm.MethodName)) ∈ lw_g := gm (List.mem_of_getElem? (i := 529) (by decide +kernel)) rfl
theorem wd_481 : (Jvm.Cond.static ({ cls := "PipeMoments$Settings", name := "numbersOf", desc := "(C)I" } : Jvm.MethodName)) ∈ lw_g := gm (List.mem_of_getElem? (i := 530) (by decide +kernel)) rfl
theorem wd_482 : (Jvm.Cond.code ({ cls := "PipeMoments$Settings", name := "numbersOf", desc := "(C)I" } : Jvm.MethodName) prog_4_method_8_code (1 : Nat) (Option.some Jvm.ClassFile.FieldType.int)) ∈ lw_g := gm (List.mem_of_getElem? (i := 531) (by decide +kernel)) rfl
theorem wd_483 : (Jvm.Cond.methodLink "PipeMoments$Settings" (71 : Nat) ({ cls := "PipeMoments$Settings", name := "readNumber", desc := "(I)Z" } : Jvm.MethodName)) ∈ lw_g := gm (List.mem_of_getElem? (i := 532) (by decide +kernel)) rfl
theorem wd_485 : (Jvm.Cond.instanceMethod ({ cls := "PipeMoments$Settings", name := "readNumber", desc := "(I)Z" } : Jvm.MethodName)) ∈ lw_g := gm (List.mem_of_getElem? (i := 534) (by decide +kernel)) rfl
theorem wd_486 : (Jvm.Cond.code ({ cls := "PipeMoments$Settings", name := "readNumber", desc := "(I)Z" } : Jvm.MethodName) prog_4_method_9_code (2 : Nat) (Option.some Jvm.ClassFile.FieldType.boolean)) ∈ lw_g := gm (List.mem_of_getElem? (i := 535) (by decide +kernel)) rfl
theorem wd_487 : (Jvm.Cond.methodLink "PipeMoments$Settings" (78 : Nat) ({ cls := "PipeMoments$Settings", name := "isDigitNext", desc := "()Z" } : Jvm.MethodName)) ∈ lw_g := gm (List.mem_of_getElem? (i := 536) (by decide +kernel)) rfl
theorem wd_489 : (Jvm.Cond.instanceMethod ({ cls := "PipeMoments$Settings", name := "isDigitNext", desc := "()Z" } : Jvm.MethodName)) ∈ lw_g := gm (List.mem_of_getElem? (i := 538) (by decide +kernel)) rfl
theorem wd_490 : (Jvm.Cond.code ({ cls := "PipeMoments$Settings", name := "isDigitNext", desc := "()Z" } : Jvm.MethodName) prog_4_method_10_code (1 : Nat) (Option.some Jvm.ClassFile.FieldType.boolean)) ∈ lw_g := gm (List.mem_of_getElem? (i := 539) (by decide +kernel)) rfl
theorem wd_491 : (Jvm.Cond.methodLinkNest "PipeMoments$Settings" (82 : Nat) ({ cls := "PipeMoments", name := "within", desc := "(III)Z" } : Jvm.MethodName) "PipeMoments") ∈ lw_tbl := List.mem_of_getElem? (i := 540) (by decide +kernel)
theorem wd_492 : (Jvm.Cond.methodLink "PipeMoments$Settings" (75 : Nat) ({ cls := "PipeMoments$Settings", name := "readSign", desc := "(C)Z" } : Jvm.MethodName)) ∈ lw_g := gm (List.mem_of_getElem? (i := 541) (by decide +kernel)) rfl
theorem wd_494 : (Jvm.Cond.instanceMethod ({ cls := "PipeMoments$Settings", name := "readSign", desc := "(C)Z" } : Jvm.MethodName)) ∈ lw_g := gm (List.mem_of_getElem? (i := 543) (by decide +kernel)) rfl
theorem wd_495 : (Jvm.Cond.code ({ cls := "PipeMoments$Settings", name := "readSign", desc := "(C)Z" } : Jvm.MethodName) prog_4_method_11_code (2 : Nat) (Option.some Jvm.ClassFile.FieldType.boolean)) ∈ lw_g := gm (List.mem_of_getElem? (i := 544) (by decide +kernel)) rfl
theorem wd_496 : (Jvm.Cond.methodLink "PipeMoments$Settings" (57 : Nat) ({ cls := "PipeMoments$Settings", name := "badNumber", desc := "(C)I" } : Jvm.MethodName)) ∈ lw_g := gm (List.mem_of_getElem? (i := 545) (by decide +kernel)) rfl
theorem wd_498 : (Jvm.Cond.instanceMethod ({ cls := "PipeMoments$Settings", name := "badNumber", desc := "(C)I" } : Jvm.MethodName)) ∈ lw_g := gm (List.mem_of_getElem? (i := 547) (by decide +kernel)) rfl
theorem wd_499 : (Jvm.Cond.code ({ cls := "PipeMoments$Settings", name := "badNumber", desc := "(C)I" } : Jvm.MethodName) prog_4_method_12_code (2 : Nat) (Option.some Jvm.ClassFile.FieldType.int)) ∈ lw_g := gm (List.mem_of_getElem? (i := 548) (by decide +kernel)) rfl
theorem wd_500 : (Jvm.Cond.methodLink "PipeMoments$Settings" (86 : Nat) ({ cls := "PipeMoments$Layout", name := "badOfPlace", desc := "(II)I" } : Jvm.MethodName)) ∈ lw_g := gm (List.mem_of_getElem? (i := 549) (by decide +kernel)) rfl
theorem wd_501 : (Jvm.Cond.methodLink "PipeMoments$Settings" (90 : Nat) ({ cls := "PipeMoments$Layout", name := "badOfPipe", desc := "(IIII)I" } : Jvm.MethodName)) ∈ lw_g := gm (List.mem_of_getElem? (i := 550) (by decide +kernel)) rfl
theorem wd_502 : (Jvm.Cond.methodLink "PipeMoments$Settings" (94 : Nat) ({ cls := "PipeMoments$Layout", name := "badOfOpening", desc := "(III)I" } : Jvm.MethodName)) ∈ lw_g := gm (List.mem_of_getElem? (i := 551) (by decide +kernel)) rfl
theorem wd_503 : (Jvm.Cond.methodLink "PipeMoments$Settings" (98 : Nat) ({ cls := "PipeMoments$Layout", name := "badOfUnits", desc := "(II)I" } : Jvm.MethodName)) ∈ lw_g := gm (List.mem_of_getElem? (i := 552) (by decide +kernel)) rfl
theorem wd_504 : (Jvm.Cond.methodLink "PipeMoments$Settings" (61 : Nat) ({ cls := "PipeMoments$Settings", name := "isBeyondLimit", desc := "(C)Z" } : Jvm.MethodName)) ∈ lw_g := gm (List.mem_of_getElem? (i := 553) (by decide +kernel)) rfl
theorem wd_506 : (Jvm.Cond.instanceMethod ({ cls := "PipeMoments$Settings", name := "isBeyondLimit", desc := "(C)Z" } : Jvm.MethodName)) ∈ lw_g := gm (List.mem_of_getElem? (i := 555) (by decide +kernel)) rfl
theorem wd_507 : (Jvm.Cond.code ({ cls := "PipeMoments$Settings", name := "isBeyondLimit", desc := "(C)Z" } : Jvm.MethodName) prog_4_method_13_code (2 : Nat) (Option.some Jvm.ClassFile.FieldType.boolean)) ∈ lw_g := gm (List.mem_of_getElem? (i := 556) (by decide +kernel)) rfl
theorem wd_508 : (Jvm.Cond.methodLink "PipeMoments$Settings" (101 : Nat) ({ cls := "PipeMoments$Layout", name := "placesAreFull", desc := "()Z" } : Jvm.MethodName)) ∈ lw_g := gm (List.mem_of_getElem? (i := 557) (by decide +kernel)) rfl
theorem wd_509 : (Jvm.Cond.methodLink "PipeMoments$Settings" (104 : Nat) ({ cls := "PipeMoments$Layout", name := "pipesAreFull", desc := "()Z" } : Jvm.MethodName)) ∈ lw_g := gm (List.mem_of_getElem? (i := 558) (by decide +kernel)) rfl
theorem wd_510 : (Jvm.Cond.methodLink "PipeMoments$Settings" (64 : Nat) ({ cls := "PipeMoments$Settings", name := "settle", desc := "(C)V" } : Jvm.MethodName)) ∈ lw_g := gm (List.mem_of_getElem? (i := 559) (by decide +kernel)) rfl
theorem wd_512 : (Jvm.Cond.instanceMethod ({ cls := "PipeMoments$Settings", name := "settle", desc := "(C)V" } : Jvm.MethodName)) ∈ lw_g := gm (List.mem_of_getElem? (i := 561) (by decide +kernel)) rfl
theorem wd_513 : (Jvm.Cond.code ({ cls := "PipeMoments$Settings", name := "settle", desc := "(C)V" } : Jvm.MethodName) prog_4_method_14_code (2 : Nat) (Option.none : Option Jvm.ClassFile.FieldType)) ∈ lw_g := gm (List.mem_of_getElem? (i := 562) (by decide +kernel)) rfl
theorem wd_514 : (Jvm.Cond.methodLink "PipeMoments$Settings" (107 : Nat) ({ cls := "PipeMoments$Layout", name := "addPlace", desc := "(II)I" } : Jvm.MethodName)) ∈ lw_g := gm (List.mem_of_getElem? (i := 563) (by decide +kernel)) rfl
theorem wd_515 : (Jvm.Cond.methodLink "PipeMoments$Settings" (110 : Nat) ({ cls := "PipeMoments$Layout", name := "addPipe", desc := "(IIII)I" } : Jvm.MethodName)) ∈ lw_g := gm (List.mem_of_getElem? (i := 564) (by decide +kernel)) rfl
theorem wd_516 : (Jvm.Cond.methodLink "PipeMoments$Settings" (113 : Nat) ({ cls := "PipeMoments$Layout", name := "setOpening", desc := "(III)V" } : Jvm.MethodName)) ∈ lw_g := gm (List.mem_of_getElem? (i := 565) (by decide +kernel)) rfl
theorem wd_517 : (Jvm.Cond.methodLink "PipeMoments" (189 : Nat) ({ cls := "PipeMoments$Settings", name := "faultPart", desc := "(I)I" } : Jvm.MethodName)) ∈ lw_g := gm (List.mem_of_getElem? (i := 566) (by decide +kernel)) rfl
theorem wd_518 : (Jvm.Cond.instanceMethod ({ cls := "PipeMoments$Settings", name := "faultPart", desc := "(I)I" } : Jvm.MethodName)) ∈ lw_g := gm (List.mem_of_getElem? (i := 567) (by decide +kernel)) rfl
theorem wd_519 : (Jvm.Cond.selects "PipeMoments$Settings" ({ cls := "PipeMoments$Settings", name := "faultPart", desc := "(I)I" } : Jvm.MethodName) ({ cls := "PipeMoments$Settings", name := "faultPart", desc := "(I)I" } : Jvm.MethodName)) ∈ lw_g := gm (List.mem_of_getElem? (i := 568) (by decide +kernel)) rfl
theorem wd_520 : (Jvm.Cond.code ({ cls := "PipeMoments$Settings", name := "faultPart", desc := "(I)I" } : Jvm.MethodName) prog_4_method_4_code (2 : Nat) (Option.some Jvm.ClassFile.FieldType.int)) ∈ lw_g := gm (List.mem_of_getElem? (i := 569) (by decide +kernel)) rfl
theorem wd_521 : (Jvm.Cond.methodLink "PipeMomentsLaw" (106 : Nat) ({ cls := "PipeMoments", name := "play", desc := "()I" } : Jvm.MethodName)) ∈ lw_g := gm (List.mem_of_getElem? (i := 570) (by decide +kernel)) rfl
theorem wd_522 : (Jvm.Cond.instanceMethod ({ cls := "PipeMoments", name := "play", desc := "()I" } : Jvm.MethodName)) ∈ lw_g := gm (List.mem_of_getElem? (i := 571) (by decide +kernel)) rfl
theorem wd_523 : (Jvm.Cond.selects "PipeMoments" ({ cls := "PipeMoments", name := "play", desc := "()I" } : Jvm.MethodName) ({ cls := "PipeMoments", name := "play", desc := "()I" } : Jvm.MethodName)) ∈ lw_g := gm (List.mem_of_getElem? (i := 572) (by decide +kernel)) rfl
theorem wd_524 : (Jvm.Cond.code ({ cls := "PipeMoments", name := "play", desc := "()I" } : Jvm.MethodName) prog_1_method_24_code (1 : Nat) (Option.some Jvm.ClassFile.FieldType.int)) ∈ lw_g := gm (List.mem_of_getElem? (i := 573) (by decide +kernel)) rfl
theorem wd_525 : (Jvm.Cond.methodLink "PipeMoments" (195 : Nat) ({ cls := "PipeMoments$Layout", name := "copyFrom", desc := "(LPipeMoments$Layout;)V" } : Jvm.MethodName)) ∈ lw_g := gm (List.mem_of_getElem? (i := 574) (by decide +kernel)) rfl
theorem wd_526 : (Jvm.Cond.classLink "PipeMomentsLaw" (10 : Nat) "PipeMomentsModel") ∈ lw_g := gm (List.mem_of_getElem? (i := 575) (by decide +kernel)) rfl
theorem wd_527 : (Jvm.Cond.instantiable "PipeMomentsModel" (23 : Nat)) ∈ lw_g := gm (List.mem_of_getElem? (i := 576) (by decide +kernel)) rfl
theorem wd_528 : (Jvm.Cond.methodLink "PipeMomentsLaw" (12 : Nat) ({ cls := "PipeMomentsModel", name := "<init>", desc := "()V" } : Jvm.MethodName)) ∈ lw_g := gm (List.mem_of_getElem? (i := 577) (by decide +kernel)) rfl
theorem wd_529 : (Jvm.Cond.instanceMethod ({ cls := "PipeMomentsModel", name := "<init>", desc := "()V" } : Jvm.MethodName)) ∈ lw_g := gm (List.mem_of_getElem? (i := 578) (by decide +kernel)) rfl
theorem wd_530 : (Jvm.Cond.code ({ cls := "PipeMomentsModel", name := "<init>", desc := "()V" } : Jvm.MethodName) prog_7_method_1_code (1 : Nat) (Option.none : Option Jvm.ClassFile.FieldType)) ∈ lw_g := gm (List.mem_of_getElem? (i := 579) (by decide +kernel)) rfl
theorem wd_531 : (Jvm.Cond.methodLink "PipeMomentsModel" (1 : Nat) ({ cls := "java/lang/Object", name := "<init>", desc := "()V" } : Jvm.MethodName)) ∈ lw_g := gm (List.mem_of_getElem? (i := 580) (by decide +kernel)) rfl
theorem wd_532 : (Jvm.Cond.methodLink "PipeMomentsModel" (47 : Nat) ({ cls := "PipeMomentsModel", name := "asIs", desc := "()V" } : Jvm.MethodName)) ∈ lw_g := gm (List.mem_of_getElem? (i := 581) (by decide +kernel)) rfl
theorem wd_534 : (Jvm.Cond.instanceMethod ({ cls := "PipeMomentsModel", name := "asIs", desc := "()V" } : Jvm.MethodName)) ∈ lw_g := gm (List.mem_of_getElem? (i := 583) (by decide +kernel)) rfl
theorem wd_535 : (Jvm.Cond.code ({ cls := "PipeMomentsModel", name := "asIs", desc := "()V" } : Jvm.MethodName) prog_7_method_3_code (1 : Nat) (Option.none : Option Jvm.ClassFile.FieldType)) ∈ lw_g := gm (List.mem_of_getElem? (i := 584) (by decide +kernel)) rfl
theorem wd_536 : (Jvm.Cond.fieldLink "PipeMomentsModel" (7 : Nat) "PipeMomentsModel" "s" "[I") ∈ lw_g := gm (List.mem_of_getElem? (i := 585) (by decide +kernel)) rfl
theorem wd_537 : (Jvm.Cond.fieldLink "PipeMomentsModel" (13 : Nat) "PipeMomentsModel" "was" "[I") ∈ lw_g := gm (List.mem_of_getElem? (i := 586) (by decide +kernel)) rfl
theorem wd_538 : (Jvm.Cond.fieldLink "PipeMomentsModel" (16 : Nat) "PipeMomentsModel" "begun" "[I") ∈ lw_g := gm (List.mem_of_getElem? (i := 587) (by decide +kernel)) rfl
theorem wd_539 : (Jvm.Cond.fieldLink "PipeMomentsModel" (19 : Nat) "PipeMomentsModel" "aside" "[I") ∈ lw_g := gm (List.mem_of_getElem? (i := 588) (by decide +kernel)) rfl
theorem wd_540 : (Jvm.Cond.fieldLink "PipeMomentsModel" (68 : Nat) "PipeMomentsModel" "states" "I") ∈ lw_g := gm (List.mem_of_getElem? (i := 589) (by decide +kernel)) rfl
theorem wd_541 : (Jvm.Cond.fieldLink "PipeMomentsModel" (22 : Nat) "PipeMomentsModel" "text" "[C") ∈ lw_g := gm (List.mem_of_getElem? (i := 590) (by decide +kernel)) rfl
theorem wd_542 : (Jvm.Cond.fieldLink "PipeMomentsModel" (156 : Nat) "PipeMomentsModel" "typed" "I") ∈ lw_g := gm (List.mem_of_getElem? (i := 591) (by decide +kernel)) rfl
theorem wd_543 : (Jvm.Cond.fieldLink "PipeMomentsModel" (160 : Nat) "PipeMomentsModel" "at" "I") ∈ lw_g := gm (List.mem_of_getElem? (i := 592) (by decide +kernel)) rfl
theorem wd_544 : (Jvm.Cond.fieldLink "PipeMomentsModel" (184 : Nat) "PipeMomentsModel" "reason" "I") ∈ lw_g := gm (List.mem_of_getElem? (i := 593) (by decide +kernel)) rfl
theorem wd_545 : (Jvm.Cond.fieldLink "PipeMomentsModel" (172 : Nat) "PipeMomentsModel" "cause" "I") ∈ lw_g := gm (List.mem_of_getElem? (i := 594) (by decide +kernel)) rfl
theorem wd_546 : (Jvm.Cond.fieldLink "PipeMomentsModel" (26 : Nat) "PipeMomentsModel" "number" "[I") ∈ lw_g := gm (List.mem_of_getElem? (i := 595) (by decide +kernel)) rfl
theorem wd_547 : (Jvm.Cond.fieldLink "PipeMomentsModel" (29 : Nat) "PipeMomentsModel" "out" "[I") ∈ lw_g := gm (List.mem_of_getElem? (i := 596) (by decide +kernel)) rfl
theorem wd_548 : (Jvm.Cond.fieldLink "PipeMomentsModel" (32 : Nat) "PipeMomentsModel" "wait" "[I") ∈ lw_g := gm (List.mem_of_getElem? (i := 597) (by decide +kernel)) rfl
theorem wd_549 : (Jvm.Cond.fieldLink "PipeMomentsModel" (35 : Nat) "PipeMomentsModel" "enter" "[I") ∈ lw_g := gm (List.mem_of_getElem? (i := 598) (by decide +kernel)) rfl
theorem wd_550 : (Jvm.Cond.fieldLink "PipeMomentsModel" (38 : Nat) "PipeMomentsModel" "back" "[I") ∈ lw_g := gm (List.mem_of_getElem? (i := 599) (by decide +kernel)) rfl
theorem wd_551 : (Jvm.Cond.fieldLink "PipeMomentsModel" (41 : Nat) "PipeMomentsModel" "by" "[I") ∈ lw_g := gm (List.mem_of_getElem? (i := 600) (by decide +kernel)) rfl
theorem wd_552 : (Jvm.Cond.fieldLink "PipeMomentsModel" (44 : Nat) "PipeMomentsModel" "row" "[I") ∈ lw_g := gm (List.mem_of_getElem? (i := 601) (by decide +kernel)) rfl
theorem wd_553 : (Jvm.Cond.fieldLink "PipeMomentsModel" (112 : Nat) "PipeMomentsModel" "end" "I") ∈ lw_g := gm (List.mem_of_getElem? (i := 602) (by decide +kernel)) rfl
theorem wd_554 : (Jvm.Cond.fieldLink "PipeMomentsModel" (115 : Nat) "PipeMomentsModel" "many" "I") ∈ lw_g := gm (List.mem_of_getElem? (i := 603) (by decide +kernel)) rfl
theorem wd_555 : (Jvm.Cond.fieldLink "PipeMomentsModel" (50 : Nat) "PipeMomentsModel" "without" "I") ∈ lw_g := gm (List.mem_of_getElem? (i := 604) (by decide +kernel)) rfl
theorem wd_556 : (Jvm.Cond.fieldLink "PipeMomentsModel" (54 : Nat) "PipeMomentsModel" "wider" "I") ∈ lw_g := gm (List.mem_of_getElem? (i := 605) (by decide +kernel)) rfl
theorem wd_557 : (Jvm.Cond.fieldLink "PipeMomentsModel" (57 : Nat) "PipeMomentsModel" "more" "I") ∈ lw_g := gm (List.mem_of_getElem? (i := 606) (by decide +kernel)) rfl
theorem wd_558 : (Jvm.Cond.fieldLink "PipeMomentsModel" (60 : Nat) "PipeMomentsModel" "endless" "I") ∈ lw_g := gm (List.mem_of_getElem? (i := 607) (by decide +kernel)) rfl
theorem wd_606 : (Jvm.Cond.methodLink "PipeMomentsLaw" (17 : Nat) ({ cls := "PipeMomentsModel", name := "place", desc := "(II)I" } : Jvm.MethodName)) ∈ lw_g := gm (List.mem_of_getElem? (i := 655) (by decide +kernel)) rfl
theorem wd_607 : (Jvm.Cond.instanceMethod ({ cls := "PipeMomentsModel", name := "place", desc := "(II)I" } : Jvm.MethodName)) ∈ lw_g := gm (List.mem_of_getElem? (i := 656) (by decide +kernel)) rfl
theorem wd_608 : (Jvm.Cond.selects "PipeMomentsModel" ({ cls := "PipeMomentsModel", name := "place", desc := "(II)I" } : Jvm.MethodName) ({ cls := "PipeMomentsModel", name := "place", desc := "(II)I" } : Jvm.MethodName)) ∈ lw_g := gm (List.mem_of_getElem? (i := 657) (by decide +kernel)) rfl
theorem wd_609 : (Jvm.Cond.code ({ cls := "PipeMomentsModel", name := "place", desc := "(II)I" } : Jvm.MethodName) prog_7_method_10_code (3 : Nat) (Option.some Jvm.ClassFile.FieldType.int)) ∈ lw_g := gm (List.mem_of_getElem? (i := 658) (by decide +kernel)) rfl
theorem wd_610 : (Jvm.Cond.methodLink "PipeMomentsModel" (63 : Nat) ({ cls := "PipeMomentsModel", name := "in", desc := "(III)Z" } : Jvm.MethodName)) ∈ lw_g := gm (List.mem_of_getElem? (i := 659) (by decide +kernel)) rfl
theorem wd_611 : (Jvm.Cond.static ({ cls := "PipeMomentsModel", name := "in", desc := "(III)Z" } : Jvm.MethodName)) ∈ lw_g := gm (List.mem_of_getElem? (i := 660) (by decide +kernel)) rfl
theorem wd_612 : (Jvm.Cond.code ({ cls := "PipeMomentsModel", name := "in", desc := "(III)Z" } : Jvm.MethodName) prog_7_method_2_code (3 : Nat) (Option.some Jvm.ClassFile.FieldType.boolean)) ∈ lw_g := gm (List.mem_of_getElem? (i := 661) (by decide +kernel)) rfl
theorem wd_613 : (Jvm.Cond.constant "PipeMomentsModel" (67 : Nat) (-1000001 : Int32)) ∈ lw_g := gm (List.mem_of_getElem? (i := 662) (by decide +kernel)) rfl
theorem wd_614 : (Jvm.Cond.methodLink "PipeMomentsModel" (72 : Nat) ({ cls := "PipeMomentsModel", name := "keeps", desc := "()V" } : Jvm.MethodName)) ∈ lw_g := gm (List.mem_of_getElem? (i := 663) (by decide +kernel)) rfl
theorem wd_616 : (Jvm.Cond.instanceMethod ({ cls := "PipeMomentsModel", name := "keeps", desc := "()V" } : Jvm.MethodName)) ∈ lw_g := gm (List.mem_of_getElem? (i := 665) (by decide +kernel)) rfl
theorem wd_617 : (Jvm.Cond.code ({ cls := "PipeMomentsModel", name := "keeps", desc := "()V" } : Jvm.MethodName) prog_7_method_7_code (2 : Nat) (Option.none : Option Jvm.ClassFile.FieldType)) ∈ lw_g := gm (List.mem_of_getElem? (i := 666) (by decide +kernel)) rfl
theorem wd_618 : (Jvm.Cond.methodLink "PipeMomentsModel" (75 : Nat) ({ cls := "PipeMomentsModel", name := "adds", desc := "(II)I" } : Jvm.MethodName)) ∈ lw_g := gm (List.mem_of_getElem? (i := 667) (by decide +kernel)) rfl
theorem wd_620 : (Jvm.Cond.instanceMethod ({ cls := "PipeMomentsModel", name := "adds", desc := "(II)I" } : Jvm.MethodName)) ∈ lw_g := gm (List.mem_of_getElem? (i := 669) (by decide +kernel)) rfl
theorem wd_621 : (Jvm.Cond.code ({ cls := "PipeMomentsModel", name := "adds", desc := "(II)I" } : Jvm.MethodName) prog_7_method_9_code (3 : Nat) (Option.some Jvm.ClassFile.FieldType.int)) ∈ lw_g := gm (List.mem_of_getElem? (i := 670) (by decide +kernel)) rfl
theorem wd_622 : (Jvm.Cond.constant "PipeMomentsModel" (71 : Nat) (-1000003 : Int32)) ∈ lw_g := gm (List.mem_of_getElem? (i := 671) (by decide +kernel)) rfl
theorem wd_623 : (Jvm.Cond.methodLink "PipeMomentsModel" (79 : Nat) ({ cls := "PipeMomentsModel", name := "acted", desc := "(I)I" } : Jvm.MethodName)) ∈ lw_g := gm (List.mem_of_getElem? (i := 672) (by decide +kernel)) rfl
theorem wd_625 : (Jvm.Cond.instanceMethod ({ cls := "PipeMomentsModel", name := "acted", desc := "(I)I" } : Jvm.MethodName)) ∈ lw_g := gm (List.mem_of_getElem? (i := 674) (by decide +kernel)) rfl
theorem wd_626 : (Jvm.Cond.code ({ cls := "PipeMomentsModel", name := "acted", desc := "(I)I" } : Jvm.MethodName) prog_7_method_8_code (3 : Nat) (Option.some Jvm.ClassFile.FieldType.int)) ∈ lw_g := gm (List.mem_of_getElem? (i := 675) (by decide +kernel)) rfl
theorem wd_627 : (Jvm.Cond.methodLink "PipeMomentsLaw" (22 : Nat) ({ cls := "PipeMomentsModel", name := "pipe", desc := "(IIII)I" } : Jvm.MethodName)) ∈ lw_g := gm (List.mem_of_getElem? (i := 676) (by decide +kernel)) rfl
theorem wd_628 : (Jvm.Cond.instanceMethod ({ cls := "PipeMomentsModel", name := "pipe", desc := "(IIII)I" } : Jvm.MethodName)) ∈ lw_g := gm (List.mem_of_getElem? (i := 677) (by decide +kernel)) rfl
theorem wd_629 : (Jvm.Cond.selects "PipeMomentsModel" ({ cls := "PipeMomentsModel", name := "pipe", desc := "(IIII)I" } : Jvm.MethodName) ({ cls := "PipeMomentsModel", name := "pipe", desc := "(IIII)I" } : Jvm.MethodName)) ∈ lw_g := gm (List.mem_of_getElem? (i := 678) (by decide +kernel)) rfl
theorem wd_630 : (Jvm.Cond.code ({ cls := "PipeMomentsModel", name := "pipe", desc := "(IIII)I" } : Jvm.MethodName) prog_7_method_12_code (5 : Nat) (Option.some Jvm.ClassFile.FieldType.int)) ∈ lw_g := gm (List.mem_of_getElem? (i := 679) (by decide +kernel)) rfl
theorem wd_631 : (Jvm.Cond.methodLink "PipeMomentsModel" (83 : Nat) ({ cls := "PipeMomentsModel", name := "isPlace", desc := "(I)Z" } : Jvm.MethodName)) ∈ lw_g := gm (List.mem_of_getElem? (i := 680) (by decide +kernel)) rfl
theorem wd_633 : (Jvm.Cond.instanceMethod ({ cls := "PipeMomentsModel", name := "isPlace", desc := "(I)Z" } : Jvm.MethodName)) ∈ lw_g := gm (List.mem_of_getElem? (i := 682) (by decide +kernel)) rfl
theorem wd_634 : (Jvm.Cond.code ({ cls := "PipeMomentsModel", name := "isPlace", desc := "(I)Z" } : Jvm.MethodName) prog_7_method_4_code (2 : Nat) (Option.some Jvm.ClassFile.FieldType.boolean)) ∈ lw_g := gm (List.mem_of_getElem? (i := 683) (by decide +kernel)) rfl
theorem wd_635 : (Jvm.Cond.methodLink "PipeMomentsModel" (87 : Nat) ({ cls := "PipeMomentsModel", name := "lays", desc := "(IIII)I" } : Jvm.MethodName)) ∈ lw_g := gm (List.mem_of_getElem? (i := 684) (by decide +kernel)) rfl
theorem wd_637 : (Jvm.Cond.instanceMethod ({ cls := "PipeMomentsModel", name := "lays", desc := "(IIII)I" } : Jvm.MethodName)) ∈ lw_g := gm (List.mem_of_getElem? (i := 686) (by decide +kernel)) rfl
theorem wd_638 : (Jvm.Cond.code ({ cls := "PipeMomentsModel", name := "lays", desc := "(IIII)I" } : Jvm.MethodName) prog_7_method_11_code (6 : Nat) (Option.some Jvm.ClassFile.FieldType.int)) ∈ lw_g := gm (List.mem_of_getElem? (i := 687) (by decide +kernel)) rfl
theorem wd_639 : (Jvm.Cond.methodLink "PipeMomentsLaw" (27 : Nat) ({ cls := "PipeMomentsModel", name := "dropPipe", desc := "(I)I" } : Jvm.MethodName)) ∈ lw_g := gm (List.mem_of_getElem? (i := 688) (by decide +kernel)) rfl
theorem wd_640 : (Jvm.Cond.instanceMethod ({ cls := "PipeMomentsModel", name := "dropPipe", desc := "(I)I" } : Jvm.MethodName)) ∈ lw_g := gm (List.mem_of_getElem? (i := 689) (by decide +kernel)) rfl
theorem wd_641 : (Jvm.Cond.selects "PipeMomentsModel" ({ cls := "PipeMomentsModel", name := "dropPipe", desc := "(I)I" } : Jvm.MethodName) ({ cls := "PipeMomentsModel", name := "dropPipe", desc := "(I)I" } : Jvm.MethodName)) ∈ lw_g := gm (List.mem_of_getElem? (i := 690) (by decide +kernel)) rfl
theorem wd_642 : (Jvm.Cond.code ({ cls := "PipeMomentsModel", name := "dropPipe", desc := "(I)I" } : Jvm.MethodName) prog_7_method_13_code (3 : Nat) (Option.some Jvm.ClassFile.FieldType.int)) ∈ lw_g := gm (List.mem_of_getElem? (i := 691) (by decide +kernel)) rfl
theorem wd_643 : (Jvm.Cond.methodLink "PipeMomentsModel" (91 : Nat) ({ cls := "PipeMomentsModel", name := "isPipe", desc := "(I)Z" } : Jvm.MethodName)) ∈ lw_g := gm (List.mem_of_getElem? (i := 692) (by decide +kernel)) rfl
theorem wd_645 : (Jvm.Cond.instanceMethod ({ cls := "PipeMomentsModel", name := "isPipe", desc := "(I)Z" } : Jvm.MethodName)) ∈ lw_g := gm (List.mem_of_getElem? (i := 694) (by decide +kernel)) rfl
theorem wd_646 : (Jvm.Cond.code ({ cls := "PipeMomentsModel", name := "isPipe", desc := "(I)Z" } : Jvm.MethodName) prog_7_method_5_code (2 : Nat) (Option.some Jvm.ClassFile.FieldType.boolean)) ∈ lw_g := gm (List.mem_of_getElem? (i := 695) (by decide +kernel)) rfl
theorem wd_647 : (Jvm.Cond.methodLink "PipeMomentsLaw" (32 : Nat) ({ cls := "PipeMomentsModel", name := "open", desc := "(III)I" } : Jvm.MethodName)) ∈ lw_g := gm (List.mem_of_getElem? (i := 696) (by decide +kernel)) rfl
theorem wd_648 : (Jvm.Cond.instanceMethod ({ cls := "PipeMomentsModel", name := "open", desc := "(III)I" } : Jvm.MethodName)) ∈ lw_g := gm (List.mem_of_getElem? (i := 697) (by decide +kernel)) rfl
theorem wd_649 : (Jvm.Cond.selects "PipeMomentsModel" ({ cls := "PipeMomentsModel", name := "open", desc := "(III)I" } : Jvm.MethodName) ({ cls := "PipeMomentsModel", name := "open", desc := "(III)I" } : Jvm.MethodName)) ∈ lw_g := gm (List.mem_of_getElem? (i := 698) (by decide +kernel)) rfl
theorem wd_650 : (Jvm.Cond.code ({ cls := "PipeMomentsModel", name := "open", desc := "(III)I" } : Jvm.MethodName) prog_7_method_15_code (4 : Nat) (Option.some Jvm.ClassFile.FieldType.int)) ∈ lw_g := gm (List.mem_of_getElem? (i := 699) (by decide +kernel)) rfl
theorem wd_651 : (Jvm.Cond.methodLink "PipeMomentsModel" (94 : Nat) ({ cls := "PipeMomentsModel", name := "opens", desc := "(III)I" } : Jvm.MethodName)) ∈ lw_g := gm (List.mem_of_getElem? (i := 700) (by decide +kernel)) rfl
theorem wd_653 : (Jvm.Cond.instanceMethod ({ cls := "PipeMomentsModel", name := "opens", desc := "(III)I" } : Jvm.MethodName)) ∈ lw_g := gm (List.mem_of_getElem? (i := 702) (by decide +kernel)) rfl
theorem wd_654 : (Jvm.Cond.code ({ cls := "PipeMomentsModel", name := "opens", desc := "(III)I" } : Jvm.MethodName) prog_7_method_14_code (4 : Nat) (Option.some Jvm.ClassFile.FieldType.int)) ∈ lw_g := gm (List.mem_of_getElem? (i := 703) (by decide +kernel)) rfl
theorem wd_655 : (Jvm.Cond.methodLink "PipeMomentsLaw" (36 : Nat) ({ cls := "PipeMomentsModel", name := "widen", desc := "(II)I" } : Jvm.MethodName)) ∈ lw_g := gm (List.mem_of_getElem? (i := 704) (by decide +kernel)) rfl
theorem wd_656 : (Jvm.Cond.instanceMethod ({ cls := "PipeMomentsModel", name := "widen", desc := "(II)I" } : Jvm.MethodName)) ∈ lw_g := gm (List.mem_of_getElem? (i := 705) (by decide +kernel)) rfl
theorem wd_657 : (Jvm.Cond.selects "PipeMomentsModel" ({ cls := "PipeMomentsModel", name := "widen", desc := "(II)I" } : Jvm.MethodName) ({ cls := "PipeMomentsModel", name := "widen", desc := "(II)I" } : Jvm.MethodName)) ∈ lw_g := gm (List.mem_of_getElem? (i := 706) (by decide +kernel)) rfl
theorem wd_658 : (Jvm.Cond.code ({ cls := "PipeMomentsModel", name := "widen", desc := "(II)I" } : Jvm.MethodName) prog_7_method_17_code (3 : Nat) (Option.some Jvm.ClassFile.FieldType.int)) ∈ lw_g := gm (List.mem_of_getElem? (i := 707) (by decide +kernel)) rfl
theorem wd_659 : (Jvm.Cond.methodLink "PipeMomentsModel" (98 : Nat) ({ cls := "PipeMomentsModel", name := "becomes", desc := "(II)I" } : Jvm.MethodName)) ∈ lw_g := gm (List.mem_of_getElem? (i := 708) (by decide +kernel)) rfl
theorem wd_661 : (Jvm.Cond.instanceMethod ({ cls := "PipeMomentsModel", name := "becomes", desc := "(II)I" } : Jvm.MethodName)) ∈ lw_g := gm (List.mem_of_getElem? (i := 710) (by decide +kernel)) rfl
theorem wd_662 : (Jvm.Cond.code ({ cls := "PipeMomentsModel", name := "becomes", desc := "(II)I" } : Jvm.MethodName) prog_7_method_16_code (4 : Nat) (Option.some Jvm.ClassFile.FieldType.int)) ∈ lw_g := gm (List.mem_of_getElem? (i := 711) (by decide +kernel)) rfl
theorem wd_663 : (Jvm.Cond.methodLink "PipeMomentsLaw" (40 : Nat) ({ cls := "PipeMomentsModel", name := "units", desc := "(II)I" } : Jvm.MethodName)) ∈ lw_g := gm (List.mem_of_getElem? (i := 712) (by decide +kernel)) rfl
theorem wd_664 : (Jvm.Cond.instanceMethod ({ cls := "PipeMomentsModel", name := "units", desc := "(II)I" } : Jvm.MethodName)) ∈ lw_g := gm (List.mem_of_getElem? (i := 713) (by decide +kernel)) rfl
theorem wd_665 : (Jvm.Cond.selects "PipeMomentsModel" ({ cls := "PipeMomentsModel", name := "units", desc := "(II)I" } : Jvm.MethodName) ({ cls := "PipeMomentsModel", name := "units", desc := "(II)I" } : Jvm.MethodName)) ∈ lw_g := gm (List.mem_of_getElem? (i := 714) (by decide +kernel)) rfl
theorem wd_666 : (Jvm.Cond.code ({ cls := "PipeMomentsModel", name := "units", desc := "(II)I" } : Jvm.MethodName) prog_7_method_18_code (3 : Nat) (Option.some Jvm.ClassFile.FieldType.int)) ∈ lw_g := gm (List.mem_of_getElem? (i := 715) (by decide +kernel)) rfl
theorem wd_667 : (Jvm.Cond.methodLink "PipeMomentsLaw" (44 : Nat) ({ cls := "PipeMomentsModel", name := "room", desc := "(II)I" } : Jvm.MethodName)) ∈ lw_g := gm (List.mem_of_getElem? (i := 716) (by decide +kernel)) rfl
theorem wd_668 : (Jvm.Cond.instanceMethod ({ cls := "PipeMomentsModel", name := "room", desc := "(II)I" } : Jvm.MethodName)) ∈ lw_g := gm (List.mem_of_getElem? (i := 717) (by decide +kernel)) rfl
theorem wd_669 : (Jvm.Cond.selects "PipeMomentsModel" ({ cls := "PipeMomentsModel", name := "room", desc := "(II)I" } : Jvm.MethodName) ({ cls := "PipeMomentsModel", name := "room", desc := "(II)I" } : Jvm.MethodName)) ∈ lw_g := gm (List.mem_of_getElem? (i := 718) (by decide +kernel)) rfl
theorem wd_670 : (Jvm.Cond.code ({ cls := "PipeMomentsModel", name := "room", desc := "(II)I" } : Jvm.MethodName) prog_7_method_19_code (3 : Nat) (Option.some Jvm.ClassFile.FieldType.int)) ∈ lw_g := gm (List.mem_of_getElem? (i := 719) (by decide +kernel)) rfl
theorem wd_671 : (Jvm.Cond.methodLink "PipeMomentsLaw" (48 : Nat) ({ cls := "PipeMomentsModel", name := "pipeOf", desc := "(II)I" } : Jvm.MethodName)) ∈ lw_g := gm (List.mem_of_getElem? (i := 720) (by decide +kernel)) rfl
theorem wd_672 : (Jvm.Cond.instanceMethod ({ cls := "PipeMomentsModel", name := "pipeOf", desc := "(II)I" } : Jvm.MethodName)) ∈ lw_g := gm (List.mem_of_getElem? (i := 721) (by decide +kernel)) rfl
theorem wd_673 : (Jvm.Cond.selects "PipeMomentsModel" ({ cls := "PipeMomentsModel", name := "pipeOf", desc := "(II)I" } : Jvm.MethodName) ({ cls := "PipeMomentsModel", name := "pipeOf", desc := "(II)I" } : Jvm.MethodName)) ∈ lw_g := gm (List.mem_of_getElem? (i := 722) (by decide +kernel)) rfl
theorem wd_674 : (Jvm.Cond.code ({ cls := "PipeMomentsModel", name := "pipeOf", desc := "(II)I" } : Jvm.MethodName) prog_7_method_20_code (3 : Nat) (Option.some Jvm.ClassFile.FieldType.int)) ∈ lw_g := gm (List.mem_of_getElem? (i := 723) (by decide +kernel)) rfl
theorem wd_675 : (Jvm.Cond.methodLink "PipeMomentsModel" (101 : Nat) ({ cls := "PipeMomentsModel", name := "pi", desc := "(II)I" } : Jvm.MethodName)) ∈ lw_g := gm (List.mem_of_getElem? (i := 724) (by decide +kernel)) rfl
theorem wd_677 : (Jvm.Cond.instanceMethod ({ cls := "PipeMomentsModel", name := "pi", desc := "(II)I" } : Jvm.MethodName)) ∈ lw_g := gm (List.mem_of_getElem? (i := 726) (by decide +kernel)) rfl
theorem wd_678 : (Jvm.Cond.code ({ cls := "PipeMomentsModel", name := "pi", desc := "(II)I" } : Jvm.MethodName) prog_7_method_6_code (3 : Nat) (Option.some Jvm.ClassFile.FieldType.int)) ∈ lw_g := gm (List.mem_of_getElem? (i := 727) (by decide +kernel)) rfl
theorem wd_679 : (Jvm.Cond.methodLink "PipeMomentsLaw" (52 : Nat) ({ cls := "PipeMomentsModel", name := "placeOf", desc := "(II)I" } : Jvm.MethodName)) ∈ lw_g := gm (List.mem_of_getElem? (i := 728) (by decide +kernel)) rfl
theorem wd_680 : (Jvm.Cond.instanceMethod ({ cls := "PipeMomentsModel", name := "placeOf", desc := "(II)I" } : Jvm.MethodName)) ∈ lw_g := gm (List.mem_of_getElem? (i := 729) (by decide +kernel)) rfl
theorem wd_681 : (Jvm.Cond.selects "PipeMomentsModel" ({ cls := "PipeMomentsModel", name := "placeOf", desc := "(II)I" } : Jvm.MethodName) ({ cls := "PipeMomentsModel", name := "placeOf", desc := "(II)I" } : Jvm.MethodName)) ∈ lw_g := gm (List.mem_of_getElem? (i := 730) (by decide +kernel)) rfl
theorem wd_682 : (Jvm.Cond.code ({ cls := "PipeMomentsModel", name := "placeOf", desc := "(II)I" } : Jvm.MethodName) prog_7_method_23_code (3 : Nat) (Option.some Jvm.ClassFile.FieldType.int)) ∈ lw_g := gm (List.mem_of_getElem? (i := 731) (by decide +kernel)) rfl
theorem wd_683 : (Jvm.Cond.methodLink "PipeMomentsModel" (105 : Nat) ({ cls := "PipeMomentsModel", name := "pipesOf", desc := "(II)I" } : Jvm.MethodName)) ∈ lw_g := gm (List.mem_of_getElem? (i := 732) (by decide +kernel)) rfl
theorem wd_685 : (Jvm.Cond.instanceMethod ({ cls := "PipeMomentsModel", name := "pipesOf", desc := "(II)I" } : Jvm.MethodName)) ∈ lw_g := gm (List.mem_of_getElem? (i := 734) (by decide +kernel)) rfl
theorem wd_686 : (Jvm.Cond.code ({ cls := "PipeMomentsModel", name := "pipesOf", desc := "(II)I" } : Jvm.MethodName) prog_7_method_21_code (5 : Nat) (Option.some Jvm.ClassFile.FieldType.int)) ∈ lw_g := gm (List.mem_of_getElem? (i := 735) (by decide +kernel)) rfl
theorem wd_687 : (Jvm.Cond.methodLink "PipeMomentsModel" (108 : Nat) ({ cls := "PipeMomentsModel", name := "alone", desc := "(I)I" } : Jvm.MethodName)) ∈ lw_g := gm (List.mem_of_getElem? (i := 736) (by decide +kernel)) rfl
theorem wd_689 : (Jvm.Cond.instanceMethod ({ cls := "PipeMomentsModel", name := "alone", desc := "(I)I" } : Jvm.MethodName)) ∈ lw_g := gm (List.mem_of_getElem? (i := 738) (by decide +kernel)) rfl
theorem wd_690 : (Jvm.Cond.code ({ cls := "PipeMomentsModel", name := "alone", desc := "(I)I" } : Jvm.MethodName) prog_7_method_22_code (6 : Nat) (Option.some Jvm.ClassFile.FieldType.int)) ∈ lw_g := gm (List.mem_of_getElem? (i := 739) (by decide +kernel)) rfl
theorem wd_691 : (Jvm.Cond.constant "PipeMomentsModel" (104 : Nat) (-1000004 : Int32)) ∈ lw_g := gm (List.mem_of_getElem? (i := 740) (by decide +kernel)) rfl
theorem wd_692 : (Jvm.Cond.methodLink "PipeMomentsLaw" (56 : Nat) ({ cls := "PipeMomentsModel", name := "come", desc := "(I)I" } : Jvm.MethodName)) ∈ lw_g := gm (List.mem_of_getElem? (i := 741) (by decide +kernel)) rfl
theorem wd_693 : (Jvm.Cond.instanceMethod ({ cls := "PipeMomentsModel", name := "come", desc := "(I)I" } : Jvm.MethodName)) ∈ lw_g := gm (List.mem_of_getElem? (i := 742) (by decide +kernel)) rfl
theorem wd_694 : (Jvm.Cond.selects "PipeMomentsModel" ({ cls := "PipeMomentsModel", name := "come", desc := "(I)I" } : Jvm.MethodName) ({ cls := "PipeMomentsModel", name := "come", desc := "(I)I" } : Jvm.MethodName)) ∈ lw_g := gm (List.mem_of_getElem? (i := 743) (by decide +kernel)) rfl
theorem wd_695 : (Jvm.Cond.code ({ cls := "PipeMomentsModel", name := "come", desc := "(I)I" } : Jvm.MethodName) prog_7_method_32_code (2 : Nat) (Option.some Jvm.ClassFile.FieldType.int)) ∈ lw_g := gm (List.mem_of_getElem? (i := 744) (by decide +kernel)) rfl
theorem wd_696 : (Jvm.Cond.methodLink "PipeMomentsModel" (143 : Nat) ({ cls := "PipeMomentsModel", name := "comes", desc := "(I)I" } : Jvm.MethodName)) ∈ lw_g := gm (List.mem_of_getElem? (i := 745) (by decide +kernel)) rfl
theorem wd_698 : (Jvm.Cond.instanceMethod ({ cls := "PipeMomentsModel", name := "comes", desc := "(I)I" } : Jvm.MethodName)) ∈ lw_g := gm (List.mem_of_getElem? (i := 747) (by decide +kernel)) rfl
theorem wd_699 : (Jvm.Cond.code ({ cls := "PipeMomentsModel", name := "comes", desc := "(I)I" } : Jvm.MethodName) prog_7_method_31_code (3 : Nat) (Option.some Jvm.ClassFile.FieldType.int)) ∈ lw_g := gm (List.mem_of_getElem? (i := 748) (by decide +kernel)) rfl
theorem wd_700 : (Jvm.Cond.methodLink "PipeMomentsModel" (136 : Nat) ({ cls := "PipeMomentsModel", name := "finds", desc := "()Z" } : Jvm.MethodName)) ∈ lw_g := gm (List.mem_of_getElem? (i := 749) (by decide +kernel)) rfl
theorem wd_702 : (Jvm.Cond.instanceMethod ({ cls := "PipeMomentsModel", name := "finds", desc := "()Z" } : Jvm.MethodName)) ∈ lw_g := gm (List.mem_of_getElem? (i := 751) (by decide +kernel)) rfl
theorem wd_703 : (Jvm.Cond.code ({ cls := "PipeMomentsModel", name := "finds", desc := "()Z" } : Jvm.MethodName) prog_7_method_29_code (2 : Nat) (Option.some Jvm.ClassFile.FieldType.boolean)) ∈ lw_g := gm (List.mem_of_getElem? (i := 752) (by decide +kernel)) rfl
theorem wd_704 : (Jvm.Cond.methodLink "PipeMomentsModel" (129 : Nat) ({ cls := "PipeMomentsModel", name := "unitsOf", desc := "(I)I" } : Jvm.MethodName)) ∈ lw_g := gm (List.mem_of_getElem? (i := 753) (by decide +kernel)) rfl
theorem wd_706 : (Jvm.Cond.instanceMethod ({ cls := "PipeMomentsModel", name := "unitsOf", desc := "(I)I" } : Jvm.MethodName)) ∈ lw_g := gm (List.mem_of_getElem? (i := 755) (by decide +kernel)) rfl
theorem wd_707 : (Jvm.Cond.code ({ cls := "PipeMomentsModel", name := "unitsOf", desc := "(I)I" } : Jvm.MethodName) prog_7_method_24_code (2 : Nat) (Option.some Jvm.ClassFile.FieldType.int)) ∈ lw_g := gm (List.mem_of_getElem? (i := 756) (by decide +kernel)) rfl
theorem wd_708 : (Jvm.Cond.constant "PipeMomentsModel" (111 : Nat) (1000000 : Int32)) ∈ lw_g := gm (List.mem_of_getElem? (i := 757) (by decide +kernel)) rfl
theorem wd_709 : (Jvm.Cond.methodLink "PipeMomentsModel" (121 : Nat) ({ cls := "PipeMomentsModel", name := "reaches", desc := "(III)V" } : Jvm.MethodName)) ∈ lw_g := gm (List.mem_of_getElem? (i := 758) (by decide +kernel)) rfl
theorem wd_711 : (Jvm.Cond.instanceMethod ({ cls := "PipeMomentsModel", name := "reaches", desc := "(III)V" } : Jvm.MethodName)) ∈ lw_g := gm (List.mem_of_getElem? (i := 760) (by decide +kernel)) rfl
theorem wd_712 : (Jvm.Cond.code ({ cls := "PipeMomentsModel", name := "reaches", desc := "(III)V" } : Jvm.MethodName) prog_7_method_27_code (4 : Nat) (Option.none : Option Jvm.ClassFile.FieldType)) ∈ lw_g := gm (List.mem_of_getElem? (i := 761) (by decide +kernel)) rfl
theorem wd_713 : (Jvm.Cond.methodLink "PipeMomentsModel" (132 : Nat) ({ cls := "PipeMomentsModel", name := "looks", desc := "(I)V" } : Jvm.MethodName)) ∈ lw_g := gm (List.mem_of_getElem? (i := 762) (by decide +kernel)) rfl
theorem wd_715 : (Jvm.Cond.instanceMethod ({ cls := "PipeMomentsModel", name := "looks", desc := "(I)V" } : Jvm.MethodName)) ∈ lw_g := gm (List.mem_of_getElem? (i := 764) (by decide +kernel)) rfl
theorem wd_716 : (Jvm.Cond.code ({ cls := "PipeMomentsModel", name := "looks", desc := "(I)V" } : Jvm.MethodName) prog_7_method_28_code (7 : Nat) (Option.none : Option Jvm.ClassFile.FieldType)) ∈ lw_g := gm (List.mem_of_getElem? (i := 765) (by decide +kernel)) rfl
theorem wd_717 : (Jvm.Cond.methodLink "PipeMomentsModel" (118 : Nat) ({ cls := "PipeMomentsModel", name := "roomOf", desc := "(I)I" } : Jvm.MethodName)) ∈ lw_g := gm (List.mem_of_getElem? (i := 766) (by decide +kernel)) rfl
theorem wd_719 : (Jvm.Cond.instanceMethod ({ cls := "PipeMomentsModel", name := "roomOf", desc := "(I)I" } : Jvm.MethodName)) ∈ lw_g := gm (List.mem_of_getElem? (i := 768) (by decide +kernel)) rfl
theorem wd_720 : (Jvm.Cond.code ({ cls := "PipeMomentsModel", name := "roomOf", desc := "(I)I" } : Jvm.MethodName) prog_7_method_25_code (2 : Nat) (Option.some Jvm.ClassFile.FieldType.int)) ∈ lw_g := gm (List.mem_of_getElem? (i := 769) (by decide +kernel)) rfl
theorem wd_721 : (Jvm.Cond.methodLink "PipeMomentsModel" (125 : Nat) ({ cls := "PipeMomentsModel", name := "isOpen", desc := "(II)Z" } : Jvm.MethodName)) ∈ lw_g := gm (List.mem_of_getElem? (i := 770) (by decide +kernel)) rfl
theorem wd_723 : (Jvm.Cond.instanceMethod ({ cls := "PipeMomentsModel", name := "isOpen", desc := "(II)Z" } : Jvm.MethodName)) ∈ lw_g := gm (List.mem_of_getElem? (i := 772) (by decide +kernel)) rfl
theorem wd_724 : (Jvm.Cond.code ({ cls := "PipeMomentsModel", name := "isOpen", desc := "(II)Z" } : Jvm.MethodName) prog_7_method_26_code (4 : Nat) (Option.some Jvm.ClassFile.FieldType.boolean)) ∈ lw_g := gm (List.mem_of_getElem? (i := 773) (by decide +kernel)) rfl
theorem wd_725 : (Jvm.Cond.methodLink "PipeMomentsModel" (140 : Nat) ({ cls := "PipeMomentsModel", name := "goes", desc := "()V" } : Jvm.MethodName)) ∈ lw_g := gm (List.mem_of_getElem? (i := 774) (by decide +kernel)) rfl
theorem wd_727 : (Jvm.Cond.instanceMethod ({ cls := "PipeMomentsModel", name := "goes", desc := "()V" } : Jvm.MethodName)) ∈ lw_g := gm (List.mem_of_getElem? (i := 776) (by decide +kernel)) rfl
theorem wd_728 : (Jvm.Cond.code ({ cls := "PipeMomentsModel", name := "goes", desc := "()V" } : Jvm.MethodName) prog_7_method_30_code (4 : Nat) (Option.none : Option Jvm.ClassFile.FieldType)) ∈ lw_g := gm (List.mem_of_getElem? (i := 777) (by decide +kernel)) rfl
theorem wd_729 : (Jvm.Cond.methodLink "PipeMomentsLaw" (60 : Nat) ({ cls := "PipeMomentsModel", name := "earliest", desc := "(I)I" } : Jvm.MethodName)) ∈ lw_g := gm (List.mem_of_getElem? (i := 778) (by decide +kernel)) rfl
theorem wd_730 : (Jvm.Cond.instanceMethod ({ cls := "PipeMomentsModel", name := "earliest", desc := "(I)I" } : Jvm.MethodName)) ∈ lw_g := gm (List.mem_of_getElem? (i := 779) (by decide +kernel)) rfl
theorem wd_731 : (Jvm.Cond.selects "PipeMomentsModel" ({ cls := "PipeMomentsModel", name := "earliest", desc := "(I)I" } : Jvm.MethodName) ({ cls := "PipeMomentsModel", name := "earliest", desc := "(I)I" } : Jvm.MethodName)) ∈ lw_g := gm (List.mem_of_getElem? (i := 780) (by decide +kernel)) rfl
theorem wd_732 : (Jvm.Cond.code ({ cls := "PipeMomentsModel", name := "earliest", desc := "(I)I" } : Jvm.MethodName) prog_7_method_34_code (4 : Nat) (Option.some Jvm.ClassFile.FieldType.int)) ∈ lw_g := gm (List.mem_of_getElem? (i := 781) (by decide +kernel)) rfl
theorem wd_733 : (Jvm.Cond.methodLink "PipeMomentsModel" (146 : Nat) ({ cls := "PipeMomentsModel", name := "all", desc := "()I" } : Jvm.MethodName)) ∈ lw_g := gm (List.mem_of_getElem? (i := 782) (by decide +kernel)) rfl
theorem wd_735 : (Jvm.Cond.instanceMethod ({ cls := "PipeMomentsModel", name := "all", desc := "()I" } : Jvm.MethodName)) ∈ lw_g := gm (List.mem_of_getElem? (i := 784) (by decide +kernel)) rfl
theorem wd_736 : (Jvm.Cond.code ({ cls := "PipeMomentsModel", name := "all", desc := "()I" } : Jvm.MethodName) prog_7_method_33_code (3 : Nat) (Option.some Jvm.ClassFile.FieldType.int)) ∈ lw_g := gm (List.mem_of_getElem? (i := 785) (by decide +kernel)) rfl
theorem wd_737 : (Jvm.Cond.methodLink "PipeMomentsLaw" (64 : Nat) ({ cls := "PipeMomentsModel", name := "repeated", desc := "(II)I" } : Jvm.MethodName)) ∈ lw_g := gm (List.mem_of_getElem? (i := 786) (by decide +kernel)) rfl
theorem wd_738 : (Jvm.Cond.instanceMethod ({ cls := "PipeMomentsModel", name := "repeated", desc := "(II)I" } : Jvm.MethodName)) ∈ lw_g := gm (List.mem_of_getElem? (i := 787) (by decide +kernel)) rfl
theorem wd_739 : (Jvm.Cond.selects "PipeMomentsModel" ({ cls := "PipeMomentsModel", name := "repeated", desc := "(II)I" } : Jvm.MethodName) ({ cls := "PipeMomentsModel", name := "repeated", desc := "(II)I" } : Jvm.MethodName)) ∈ lw_g := gm (List.mem_of_getElem? (i := 788) (by decide +kernel)) rfl
theorem wd_740 : (Jvm.Cond.code ({ cls := "PipeMomentsModel", name := "repeated", desc := "(II)I" } : Jvm.MethodName) prog_7_method_35_code (4 : Nat) (Option.some Jvm.ClassFile.FieldType.int)) ∈ lw_g := gm (List.mem_of_getElem? (i := 789) (by decide +kernel)) rfl
theorem wd_741 : (Jvm.Cond.methodLink "PipeMomentsLaw" (68 : Nat) ({ cls := "PipeMomentsModel", name := "narrow", desc := "(I)I" } : Jvm.MethodName)) ∈ lw_g := gm (List.mem_of_getElem? (i := 790) (by decide +kernel)) rfl
theorem wd_742 : (Jvm.Cond.instanceMethod ({ cls := "PipeMomentsModel", name := "narrow", desc := "(I)I" } : Jvm.MethodName)) ∈ lw_g := gm (List.mem_of_getElem? (i := 791) (by decide +kernel)) rfl
theorem wd_743 : (Jvm.Cond.selects "PipeMomentsModel" ({ cls := "PipeMomentsModel", name := "narrow", desc := "(I)I" } : Jvm.MethodName) ({ cls := "PipeMomentsModel", name := "narrow", desc := "(I)I" } : Jvm.MethodName)) ∈ lw_g := gm (List.mem_of_getElem? (i := 792) (by decide +kernel)) rfl
theorem wd_744 : (Jvm.Cond.code ({ cls := "PipeMomentsModel", name := "narrow", desc := "(I)I" } : Jvm.MethodName) prog_7_method_37_code (4 : Nat) (Option.some Jvm.ClassFile.FieldType.int)) ∈ lw_g := gm (List.mem_of_getElem? (i := 793) (by decide +kernel)) rfl
theorem wd_745 : (Jvm.Cond.methodLink "PipeMomentsModel" (150 : Nat) ({ cls := "PipeMomentsModel", name := "isNarrow", desc := "(I)Z" } : Jvm.MethodName)) ∈ lw_g := gm (List.mem_of_getElem? (i := 794) (by decide +kernel)) rfl
theorem wd_747 : (Jvm.Cond.instanceMethod ({ cls := "PipeMomentsModel", name := "isNarrow", desc := "(I)Z" } : Jvm.MethodName)) ∈ lw_g := gm (List.mem_of_getElem? (i := 796) (by decide +kernel)) rfl
theorem wd_748 : (Jvm.Cond.code ({ cls := "PipeMomentsModel", name := "isNarrow", desc := "(I)Z" } : Jvm.MethodName) prog_7_method_36_code (5 : Nat) (Option.some Jvm.ClassFile.FieldType.boolean)) ∈ lw_g := gm (List.mem_of_getElem? (i := 797) (by decide +kernel)) rfl
theorem wd_749 : (Jvm.Cond.methodLink "PipeMomentsLaw" (72 : Nat) ({ cls := "PipeMomentsModel", name := "wanting", desc := "(III)I" } : Jvm.MethodName)) ∈ lw_g := gm (List.mem_of_getElem? (i := 798) (by decide +kernel)) rfl
theorem wd_750 : (Jvm.Cond.instanceMethod ({ cls := "PipeMomentsModel", name := "wanting", desc := "(III)I" } : Jvm.MethodName)) ∈ lw_g := gm (List.mem_of_getElem? (i := 799) (by decide +kernel)) rfl
theorem wd_751 : (Jvm.Cond.selects "PipeMomentsModel" ({ cls := "PipeMomentsModel", name := "wanting", desc := "(III)I" } : Jvm.MethodName) ({ cls := "PipeMomentsModel", name := "wanting", desc := "(III)I" } : Jvm.MethodName)) ∈ lw_g := gm (List.mem_of_getElem? (i := 800) (by decide +kernel)) rfl
theorem wd_752 : (Jvm.Cond.code ({ cls := "PipeMomentsModel", name := "wanting", desc := "(III)I" } : Jvm.MethodName) prog_7_method_38_code (4 : Nat) (Option.some Jvm.ClassFile.FieldType.int)) ∈ lw_g := gm (List.mem_of_getElem? (i := 801) (by decide +kernel)) rfl
theorem wd_753 : (Jvm.Cond.methodLink "PipeMomentsLaw" (76 : Nat) ({ cls := "PipeMomentsModel", name := "dearest", desc := "(II)I" } : Jvm.MethodName)) ∈ lw_g := gm (List.mem_of_getElem? (i := 802) (by decide +kernel)) rfl
theorem wd_754 : (Jvm.Cond.instanceMethod ({ cls := "PipeMomentsModel", name := "dearest", desc := "(II)I" } : Jvm.MethodName)) ∈ lw_g := gm (List.mem_of_getElem? (i := 803) (by decide +kernel)) rfl
theorem wd_755 : (Jvm.Cond.selects "PipeMomentsModel" ({ cls := "PipeMomentsModel", name := "dearest", desc := "(II)I" } : Jvm.MethodName) ({ cls := "PipeMomentsModel", name := "dearest", desc := "(II)I" } : Jvm.MethodName)) ∈ lw_g := gm (List.mem_of_getElem? (i := 804) (by decide +kernel)) rfl
theorem wd_756 : (Jvm.Cond.code ({ cls := "PipeMomentsModel", name := "dearest", desc := "(II)I" } : Jvm.MethodName) prog_7_method_39_code (8 : Nat) (Option.some Jvm.ClassFile.FieldType.int)) ∈ lw_g := gm (List.mem_of_getElem? (i := 805) (by decide +kernel)) rfl
theorem wd_757 : (Jvm.Cond.methodLink "PipeMomentsLaw" (80 : Nat) ({ cls := "PipeMomentsModel", name := "helpful", desc := "(II)I" } : Jvm.MethodName)) ∈ lw_g := gm (List.mem_of_getElem? (i := 806) (by decide +kernel)) rfl
theorem wd_758 : (Jvm.Cond.instanceMethod ({ cls := "PipeMomentsModel", name := "helpful", desc := "(II)I" } : Jvm.MethodName)) ∈ lw_g := gm (List.mem_of_getElem? (i := 807) (by decide +kernel)) rfl
theorem wd_759 : (Jvm.Cond.selects "PipeMomentsModel" ({ cls := "PipeMomentsModel", name := "helpful", desc := "(II)I" } : Jvm.MethodName) ({ cls := "PipeMomentsModel", name := "helpful", desc := "(II)I" } : Jvm.MethodName)) ∈ lw_g := gm (List.mem_of_getElem? (i := 808) (by decide +kernel)) rfl
theorem wd_760 : (Jvm.Cond.code ({ cls := "PipeMomentsModel", name := "helpful", desc := "(II)I" } : Jvm.MethodName) prog_7_method_40_code (8 : Nat) (Option.some Jvm.ClassFile.FieldType.int)) ∈ lw_g := gm (List.mem_of_getElem? (i := 809) (by decide +kernel)) rfl
theorem wd_761 : (Jvm.Cond.methodLink "PipeMomentsLaw" (84 : Nat) ({ cls := "PipeMomentsModel", name := "withOneMore", desc := "(II)I" } : Jvm.MethodName)) ∈ lw_g := gm (List.mem_of_getElem? (i := 810) (by decide +kernel)) rfl
theorem wd_762 : (Jvm.Cond.instanceMethod ({ cls := "PipeMomentsModel", name := "withOneMore", desc := "(II)I" } : Jvm.MethodName)) ∈ lw_g := gm (List.mem_of_getElem? (i := 811) (by decide +kernel)) rfl
theorem wd_763 : (Jvm.Cond.selects "PipeMomentsModel" ({ cls := "PipeMomentsModel", name := "withOneMore", desc := "(II)I" } : Jvm.MethodName) ({ cls := "PipeMomentsModel", name := "withOneMore", desc := "(II)I" } : Jvm.MethodName)) ∈ lw_g := gm (List.mem_of_getElem? (i := 812) (by decide +kernel)) rfl
theorem wd_764 : (Jvm.Cond.code ({ cls := "PipeMomentsModel", name := "withOneMore", desc := "(II)I" } : Jvm.MethodName) prog_7_method_41_code (4 : Nat) (Option.some Jvm.ClassFile.FieldType.int)) ∈ lw_g := gm (List.mem_of_getElem? (i := 813) (by decide +kernel)) rfl
theorem wd_765 : (Jvm.Cond.methodLink "PipeMomentsLaw" (88 : Nat) ({ cls := "PipeMomentsModel", name := "count", desc := "(I)I" } : Jvm.MethodName)) ∈ lw_g := gm (List.mem_of_getElem? (i := 814) (by decide +kernel)) rfl
theorem wd_766 : (Jvm.Cond.instanceMethod ({ cls := "PipeMomentsModel", name := "count", desc := "(I)I" } : Jvm.MethodName)) ∈ lw_g := gm (List.mem_of_getElem? (i := 815) (by decide +kernel)) rfl
theorem wd_767 : (Jvm.Cond.selects "PipeMomentsModel" ({ cls := "PipeMomentsModel", name := "count", desc := "(I)I" } : Jvm.MethodName) ({ cls := "PipeMomentsModel", name := "count", desc := "(I)I" } : Jvm.MethodName)) ∈ lw_g := gm (List.mem_of_getElem? (i := 816) (by decide +kernel)) rfl
theorem wd_768 : (Jvm.Cond.code ({ cls := "PipeMomentsModel", name := "count", desc := "(I)I" } : Jvm.MethodName) prog_7_method_43_code (2 : Nat) (Option.some Jvm.ClassFile.FieldType.int)) ∈ lw_g := gm (List.mem_of_getElem? (i := 817) (by decide +kernel)) rfl
theorem wd_769 : (Jvm.Cond.methodLink "PipeMomentsModel" (153 : Nat) ({ cls := "PipeMomentsModel", name := "bounds", desc := "()I" } : Jvm.MethodName)) ∈ lw_g := gm (List.mem_of_getElem? (i := 818) (by decide +kernel)) rfl
theorem wd_771 : (Jvm.Cond.instanceMethod ({ cls := "PipeMomentsModel", name := "bounds", desc := "()I" } : Jvm.MethodName)) ∈ lw_g := gm (List.mem_of_getElem? (i := 820) (by decide +kernel)) rfl
theorem wd_772 : (Jvm.Cond.code ({ cls := "PipeMomentsModel", name := "bounds", desc := "()I" } : Jvm.MethodName) prog_7_method_42_code (3 : Nat) (Option.some Jvm.ClassFile.FieldType.int)) ∈ lw_g := gm (List.mem_of_getElem? (i := 821) (by decide +kernel)) rfl
theorem wd_773 : (Jvm.Cond.methodLink "PipeMomentsLaw" (93 : Nat) ({ cls := "PipeMomentsModel", name := "undo", desc := "()I" } : Jvm.MethodName)) ∈ lw_g := gm (List.mem_of_getElem? (i := 822) (by decide +kernel)) rfl
theorem wd_774 : (Jvm.Cond.instanceMethod ({ cls := "PipeMomentsModel", name := "undo", desc := "()I" } : Jvm.MethodName)) ∈ lw_g := gm (List.mem_of_getElem? (i := 823) (by decide +kernel)) rfl
theorem wd_775 : (Jvm.Cond.selects "PipeMomentsModel" ({ cls := "PipeMomentsModel", name := "undo", desc := "()I" } : Jvm.MethodName) ({ cls := "PipeMomentsModel", name := "undo", desc := "()I" } : Jvm.MethodName)) ∈ lw_g := gm (List.mem_of_getElem? (i := 824) (by decide +kernel)) rfl
theorem wd_776 : (Jvm.Cond.code ({ cls := "PipeMomentsModel", name := "undo", desc := "()I" } : Jvm.MethodName) prog_7_method_44_code (2 : Nat) (Option.some Jvm.ClassFile.FieldType.int)) ∈ lw_g := gm (List.mem_of_getElem? (i := 825) (by decide +kernel)) rfl
theorem wd_777 : (Jvm.Cond.constant "PipeMomentsModel" (159 : Nat) (-1000002 : Int32)) ∈ lw_g := gm (List.mem_of_getElem? (i := 826) (by decide +kernel)) rfl
theorem wd_778 : (Jvm.Cond.methodLink "PipeMomentsLaw" (97 : Nat) ({ cls := "PipeMomentsModel", name := "type", desc := "(I)I" } : Jvm.MethodName)) ∈ lw_g := gm (List.mem_of_getElem? (i := 827) (by decide +kernel)) rfl
theorem wd_779 : (Jvm.Cond.instanceMethod ({ cls := "PipeMomentsModel", name := "type", desc := "(I)I" } : Jvm.MethodName)) ∈ lw_g := gm (List.mem_of_getElem? (i := 828) (by decide +kernel)) rfl
theorem wd_780 : (Jvm.Cond.selects "PipeMomentsModel" ({ cls := "PipeMomentsModel", name := "type", desc := "(I)I" } : Jvm.MethodName) ({ cls := "PipeMomentsModel", name := "type", desc := "(I)I" } : Jvm.MethodName)) ∈ lw_g := gm (List.mem_of_getElem? (i := 829) (by decide +kernel)) rfl
theorem wd_781 : (Jvm.Cond.code ({ cls := "PipeMomentsModel", name := "type", desc := "(I)I" } : Jvm.MethodName) prog_7_method_45_code (2 : Nat) (Option.some Jvm.ClassFile.FieldType.int)) ∈ lw_g := gm (List.mem_of_getElem? (i := 830) (by decide +kernel)) rfl
theorem wd_782 : (Jvm.Cond.methodLink "PipeMomentsLaw" (101 : Nat) ({ cls := "PipeMomentsModel", name := "clearText", desc := "()I" } : Jvm.MethodName)) ∈ lw_g := gm (List.mem_of_getElem? (i := 831) (by decide +kernel)) rfl
theorem wd_783 : (Jvm.Cond.instanceMethod ({ cls := "PipeMomentsModel", name := "clearText", desc := "()I" } : Jvm.MethodName)) ∈ lw_g := gm (List.mem_of_getElem? (i := 832) (by decide +kernel)) rfl
theorem wd_784 : (Jvm.Cond.selects "PipeMomentsModel" ({ cls := "PipeMomentsModel", name := "clearText", desc := "()I" } : Jvm.MethodName) ({ cls := "PipeMomentsModel", name := "clearText", desc := "()I" } : Jvm.MethodName)) ∈ lw_g := gm (List.mem_of_getElem? (i := 833) (by decide +kernel)) rfl
theorem wd_785 : (Jvm.Cond.code ({ cls := "PipeMomentsModel", name := "clearText", desc := "()I" } : Jvm.MethodName) prog_7_method_46_code (2 : Nat) (Option.some Jvm.ClassFile.FieldType.int)) ∈ lw_g := gm (List.mem_of_getElem? (i := 834) (by decide +kernel)) rfl
theorem wd_786 : (Jvm.Cond.methodLink "PipeMomentsLaw" (105 : Nat) ({ cls := "PipeMomentsModel", name := "fault", desc := "(I)I" } : Jvm.MethodName)) ∈ lw_g := gm (List.mem_of_getElem? (i := 835) (by decide +kernel)) rfl
theorem wd_787 : (Jvm.Cond.instanceMethod ({ cls := "PipeMomentsModel", name := "fault", desc := "(I)I" } : Jvm.MethodName)) ∈ lw_g := gm (List.mem_of_getElem? (i := 836) (by decide +kernel)) rfl
theorem wd_788 : (Jvm.Cond.selects "PipeMomentsModel" ({ cls := "PipeMomentsModel", name := "fault", desc := "(I)I" } : Jvm.MethodName) ({ cls := "PipeMomentsModel", name := "fault", desc := "(I)I" } : Jvm.MethodName)) ∈ lw_g := gm (List.mem_of_getElem? (i := 837) (by decide +kernel)) rfl
theorem wd_789 : (Jvm.Cond.code ({ cls := "PipeMomentsModel", name := "fault", desc := "(I)I" } : Jvm.MethodName) prog_7_method_54_code (3 : Nat) (Option.some Jvm.ClassFile.FieldType.int)) ∈ lw_g := gm (List.mem_of_getElem? (i := 838) (by decide +kernel)) rfl
theorem wd_790 : (Jvm.Cond.methodLink "PipeMomentsModel" (187 : Nat) ({ cls := "PipeMomentsModel", name := "faulty", desc := "()I" } : Jvm.MethodName)) ∈ lw_g := gm (List.mem_of_getElem? (i := 839) (by decide +kernel)) rfl
theorem wd_792 : (Jvm.Cond.instanceMethod ({ cls := "PipeMomentsModel", name := "faulty", desc := "()I" } : Jvm.MethodName)) ∈ lw_g := gm (List.mem_of_getElem? (i := 841) (by decide +kernel)) rfl
theorem wd_793 : (Jvm.Cond.code ({ cls := "PipeMomentsModel", name := "faulty", desc := "()I" } : Jvm.MethodName) prog_7_method_53_code (3 : Nat) (Option.some Jvm.ClassFile.FieldType.int)) ∈ lw_g := gm (List.mem_of_getElem? (i := 842) (by decide +kernel)) rfl
theorem wd_794 : (Jvm.Cond.methodLink "PipeMomentsModel" (181 : Nat) ({ cls := "PipeMomentsModel", name := "doesNext", desc := "()I" } : Jvm.MethodName)) ∈ lw_g := gm (List.mem_of_getElem? (i := 843) (by decide +kernel)) rfl
theorem wd_796 : (Jvm.Cond.instanceMethod ({ cls := "PipeMomentsModel", name := "doesNext", desc := "()I" } : Jvm.MethodName)) ∈ lw_g := gm (List.mem_of_getElem? (i := 845) (by decide +kernel)) rfl
theorem wd_797 : (Jvm.Cond.code ({ cls := "PipeMomentsModel", name := "doesNext", desc := "()I" } : Jvm.MethodName) prog_7_method_52_code (5 : Nat) (Option.some Jvm.ClassFile.FieldType.int)) ∈ lw_g := gm (List.mem_of_getElem? (i := 846) (by decide +kernel)) rfl
theorem wd_798 : (Jvm.Cond.methodLink "PipeMomentsModel" (163 : Nat) ({ cls := "PipeMomentsModel", name := "sign", desc := "()I" } : Jvm.MethodName)) ∈ lw_g := gm (List.mem_of_getElem? (i := 847) (by decide +kernel)) rfl
theorem wd_800 : (Jvm.Cond.instanceMethod ({ cls := "PipeMomentsModel", name := "sign", desc := "()I" } : Jvm.MethodName)) ∈ lw_g := gm (List.mem_of_getElem? (i := 849) (by decide +kernel)) rfl
theorem wd_801 : (Jvm.Cond.code ({ cls := "PipeMomentsModel", name := "sign", desc := "()I" } : Jvm.MethodName) prog_7_method_47_code (1 : Nat) (Option.some Jvm.ClassFile.FieldType.int)) ∈ lw_g := gm (List.mem_of_getElem? (i := 850) (by decide +kernel)) rfl
theorem wd_802 : (Jvm.Cond.methodLink "PipeMomentsModel" (169 : Nat) ({ cls := "PipeMomentsModel", name := "reads", desc := "(I)Z" } : Jvm.MethodName)) ∈ lw_g := gm (List.mem_of_getElem? (i := 851) (by decide +kernel)) rfl
theorem wd_804 : (Jvm.Cond.instanceMethod ({ cls := "PipeMomentsModel", name := "reads", desc := "(I)Z" } : Jvm.MethodName)) ∈ lw_g := gm (List.mem_of_getElem? (i := 853) (by decide +kernel)) rfl
theorem wd_805 : (Jvm.Cond.code ({ cls := "PipeMomentsModel", name := "reads", desc := "(I)Z" } : Jvm.MethodName) prog_7_method_49_code (3 : Nat) (Option.some Jvm.ClassFile.FieldType.boolean)) ∈ lw_g := gm (List.mem_of_getElem? (i := 854) (by decide +kernel)) rfl
theorem wd_806 : (Jvm.Cond.methodLink "PipeMomentsModel" (166 : Nat) ({ cls := "PipeMomentsModel", name := "readsNumber", desc := "(I)Z" } : Jvm.MethodName)) ∈ lw_g := gm (List.mem_of_getElem? (i := 855) (by decide +kernel)) rfl
theorem wd_808 : (Jvm.Cond.instanceMethod ({ cls := "PipeMomentsModel", name := "readsNumber", desc := "(I)Z" } : Jvm.MethodName)) ∈ lw_g := gm (List.mem_of_getElem? (i := 857) (by decide +kernel)) rfl
theorem wd_809 : (Jvm.Cond.code ({ cls := "PipeMomentsModel", name := "readsNumber", desc := "(I)Z" } : Jvm.MethodName) prog_7_method_48_code (3 : Nat) (Option.some Jvm.ClassFile.FieldType.boolean)) ∈ lw_g := gm (List.mem_of_getElem? (i := 858) (by decide +kernel)) rfl
theorem wd_810 : (Jvm.Cond.methodLink "PipeMomentsModel" (175 : Nat) ({ cls := "PipeMomentsModel", name := "isRight", desc := "(II)Z" } : Jvm.MethodName)) ∈ lw_g := gm (List.mem_of_getElem? (i := 859) (by decide +kernel)) rfl
theorem wd_812 : (Jvm.Cond.instanceMethod ({ cls := "PipeMomentsModel", name := "isRight", desc := "(II)Z" } : Jvm.MethodName)) ∈ lw_g := gm (List.mem_of_getElem? (i := 861) (by decide +kernel)) rfl
theorem wd_813 : (Jvm.Cond.code ({ cls := "PipeMomentsModel", name := "isRight", desc := "(II)Z" } : Jvm.MethodName) prog_7_method_50_code (4 : Nat) (Option.some Jvm.ClassFile.FieldType.boolean)) ∈ lw_g := gm (List.mem_of_getElem? (i := 862) (by decide +kernel)) rfl
theorem wd_814 : (Jvm.Cond.methodLink "PipeMomentsModel" (178 : Nat) ({ cls := "PipeMomentsModel", name := "does", desc := "(I)I" } : Jvm.MethodName)) ∈ lw_g := gm (List.mem_of_getElem? (i := 863) (by decide +kernel)) rfl
theorem wd_816 : (Jvm.Cond.instanceMethod ({ cls := "PipeMomentsModel", name := "does", desc := "(I)I" } : Jvm.MethodName)) ∈ lw_g := gm (List.mem_of_getElem? (i := 865) (by decide +kernel)) rfl
theorem wd_817 : (Jvm.Cond.code ({ cls := "PipeMomentsModel", name := "does", desc := "(I)I" } : Jvm.MethodName) prog_7_method_51_code (2 : Nat) (Option.some Jvm.ClassFile.FieldType.int)) ∈ lw_g := gm (List.mem_of_getElem? (i := 866) (by decide +kernel)) rfl
theorem wd_818 : (Jvm.Cond.methodLink "PipeMomentsLaw" (109 : Nat) ({ cls := "PipeMomentsModel", name := "play", desc := "()I" } : Jvm.MethodName)) ∈ lw_g := gm (List.mem_of_getElem? (i := 867) (by decide +kernel)) rfl
theorem wd_819 : (Jvm.Cond.instanceMethod ({ cls := "PipeMomentsModel", name := "play", desc := "()I" } : Jvm.MethodName)) ∈ lw_g := gm (List.mem_of_getElem? (i := 868) (by decide +kernel)) rfl
theorem wd_820 : (Jvm.Cond.selects "PipeMomentsModel" ({ cls := "PipeMomentsModel", name := "play", desc := "()I" } : Jvm.MethodName) ({ cls := "PipeMomentsModel", name := "play", desc := "()I" } : Jvm.MethodName)) ∈ lw_g := gm (List.mem_of_getElem? (i := 869) (by decide +kernel)) rfl
theorem wd_821 : (Jvm.Cond.code ({ cls := "PipeMomentsModel", name := "play", desc := "()I" } : Jvm.MethodName) prog_7_method_55_code (2 : Nat) (Option.some Jvm.ClassFile.FieldType.int)) ∈ lw_g := gm (List.mem_of_getElem? (i := 870) (by decide +kernel)) rfl
theorem ws_0 : Cond.selects "PipeMoments$History" ⟨"PipeMoments$History", "dropOldest", "()V"⟩ ⟨"PipeMoments$History", "dropOldest", "()V"⟩ ∈ lw_g := gm (List.mem_of_getElem? (i := 0) (by decide +kernel)) rfl
theorem ws_1 : Cond.selects "PipeMoments$Stream" ⟨"PipeMoments$Stream", "leastTickFor", "(I)I"⟩ ⟨"PipeMoments$Stream", "leastTickFor", "(I)I"⟩ ∈ lw_g := gm (List.mem_of_getElem? (i := 1) (by decide +kernel)) rfl
theorem ws_2 : Cond.selects "PipeMoments$Stream" ⟨"PipeMoments$Stream", "begin", "()V"⟩ ⟨"PipeMoments$Stream", "begin", "()V"⟩ ∈ lw_g := gm (List.mem_of_getElem? (i := 2) (by decide +kernel)) rfl
theorem ws_3 : Cond.selects "PipeMoments$Stream" ⟨"PipeMoments$Stream", "bind", "(II)V"⟩ ⟨"PipeMoments$Stream", "bind", "(II)V"⟩ ∈ lw_g := gm (List.mem_of_getElem? (i := 3) (by decide +kernel)) rfl
theorem ws_4 : Cond.selects "PipeMoments$Stream" ⟨"PipeMoments$Stream", "moreBy", "(I)I"⟩ ⟨"PipeMoments$Stream", "moreBy", "(I)I"⟩ ∈ lw_g := gm (List.mem_of_getElem? (i := 4) (by decide +kernel)) rfl
theorem ws_5 : Cond.selects "PipeMoments$Stream" ⟨"PipeMoments$Stream", "search", "(I)V"⟩ ⟨"PipeMoments$Stream", "search", "(I)V"⟩ ∈ lw_g := gm (List.mem_of_getElem? (i := 5) (by decide +kernel)) rfl
theorem ws_6 : Cond.selects "PipeMoments$Stream" ⟨"PipeMoments$Stream", "tryWay", "(III)V"⟩ ⟨"PipeMoments$Stream", "tryWay", "(III)V"⟩ ∈ lw_g := gm (List.mem_of_getElem? (i := 6) (by decide +kernel)) rfl
theorem ws_7 : Cond.selects "PipeMoments$Stream" ⟨"PipeMoments$Stream", "spread", "(II)V"⟩ ⟨"PipeMoments$Stream", "spread", "(II)V"⟩ ∈ lw_g := gm (List.mem_of_getElem? (i := 7) (by decide +kernel)) rfl
theorem ws_8 : Cond.selects "PipeMoments$Stream" ⟨"PipeMoments$Stream", "carryToArrival", "()I"⟩ ⟨"PipeMoments$Stream", "carryToArrival", "()I"⟩ ∈ lw_g := gm (List.mem_of_getElem? (i := 8) (by decide +kernel)) rfl
theorem ws_9 : Cond.selects "PipeMoments$Stream" ⟨"PipeMoments$Stream", "mostBy", "(I)I"⟩ ⟨"PipeMoments$Stream", "mostBy", "(I)I"⟩ ∈ lw_g := gm (List.mem_of_getElem? (i := 9) (by decide +kernel)) rfl
theorem ws_10 : Cond.selects "PipeMoments$Stream" ⟨"PipeMoments$Stream", "isNarrow", "(II)Z"⟩ ⟨"PipeMoments$Stream", "isNarrow", "(II)Z"⟩ ∈ lw_g := gm (List.mem_of_getElem? (i := 10) (by decide +kernel)) rfl
theorem ws_11 : Cond.selects "PipeMoments$Settings" ⟨"PipeMoments$Settings", "readSetting", "()V"⟩ ⟨"PipeMoments$Settings", "readSetting", "()V"⟩ ∈ lw_g := gm (List.mem_of_getElem? (i := 11) (by decide +kernel)) rfl
theorem ws_12 : Cond.selects "PipeMoments$Settings" ⟨"PipeMoments$Settings", "readForm", "(C)Z"⟩ ⟨"PipeMoments$Settings", "readForm", "(C)Z"⟩ ∈ lw_g := gm (List.mem_of_getElem? (i := 12) (by decide +kernel)) rfl
theorem ws_13 : Cond.selects "PipeMoments$Settings" ⟨"PipeMoments$Settings", "readNumber", "(I)Z"⟩ ⟨"PipeMoments$Settings", "readNumber", "(I)Z"⟩ ∈ lw_g := gm (List.mem_of_getElem? (i := 13) (by decide +kernel)) rfl
theorem ws_14 : Cond.selects "PipeMoments$Settings" ⟨"PipeMoments$Settings", "isDigitNext", "()Z"⟩ ⟨"PipeMoments$Settings", "isDigitNext", "()Z"⟩ ∈ lw_g := gm (List.mem_of_getElem? (i := 14) (by decide +kernel)) rfl
theorem ws_15 : Cond.selects "PipeMoments$Settings" ⟨"PipeMoments$Settings", "readSign", "(C)Z"⟩ ⟨"PipeMoments$Settings", "readSign", "(C)Z"⟩ ∈ lw_g := gm (List.mem_of_getElem? (i := 15) (by decide +kernel)) rfl
theorem ws_16 : Cond.selects "PipeMoments$Settings" ⟨"PipeMoments$Settings", "badNumber", "(C)I"⟩ ⟨"PipeMoments$Settings", "badNumber", "(C)I"⟩ ∈ lw_g := gm (List.mem_of_getElem? (i := 16) (by decide +kernel)) rfl
theorem ws_17 : Cond.selects "PipeMoments$Settings" ⟨"PipeMoments$Settings", "isBeyondLimit", "(C)Z"⟩ ⟨"PipeMoments$Settings", "isBeyondLimit", "(C)Z"⟩ ∈ lw_g := gm (List.mem_of_getElem? (i := 17) (by decide +kernel)) rfl
theorem ws_18 : Cond.selects "PipeMoments$Settings" ⟨"PipeMoments$Settings", "settle", "(C)V"⟩ ⟨"PipeMoments$Settings", "settle", "(C)V"⟩ ∈ lw_g := gm (List.mem_of_getElem? (i := 18) (by decide +kernel)) rfl
theorem ws_19 : Cond.selects "PipeMomentsModel" ⟨"PipeMomentsModel", "asIs", "()V"⟩ ⟨"PipeMomentsModel", "asIs", "()V"⟩ ∈ lw_g := gm (List.mem_of_getElem? (i := 19) (by decide +kernel)) rfl
theorem ws_20 : Cond.selects "PipeMomentsModel" ⟨"PipeMomentsModel", "keeps", "()V"⟩ ⟨"PipeMomentsModel", "keeps", "()V"⟩ ∈ lw_g := gm (List.mem_of_getElem? (i := 20) (by decide +kernel)) rfl
theorem ws_21 : Cond.selects "PipeMomentsModel" ⟨"PipeMomentsModel", "adds", "(II)I"⟩ ⟨"PipeMomentsModel", "adds", "(II)I"⟩ ∈ lw_g := gm (List.mem_of_getElem? (i := 21) (by decide +kernel)) rfl
theorem ws_22 : Cond.selects "PipeMomentsModel" ⟨"PipeMomentsModel", "acted", "(I)I"⟩ ⟨"PipeMomentsModel", "acted", "(I)I"⟩ ∈ lw_g := gm (List.mem_of_getElem? (i := 22) (by decide +kernel)) rfl
theorem ws_23 : Cond.selects "PipeMomentsModel" ⟨"PipeMomentsModel", "isPlace", "(I)Z"⟩ ⟨"PipeMomentsModel", "isPlace", "(I)Z"⟩ ∈ lw_g := gm (List.mem_of_getElem? (i := 23) (by decide +kernel)) rfl
theorem ws_24 : Cond.selects "PipeMomentsModel" ⟨"PipeMomentsModel", "lays", "(IIII)I"⟩ ⟨"PipeMomentsModel", "lays", "(IIII)I"⟩ ∈ lw_g := gm (List.mem_of_getElem? (i := 24) (by decide +kernel)) rfl
theorem ws_25 : Cond.selects "PipeMomentsModel" ⟨"PipeMomentsModel", "isPipe", "(I)Z"⟩ ⟨"PipeMomentsModel", "isPipe", "(I)Z"⟩ ∈ lw_g := gm (List.mem_of_getElem? (i := 25) (by decide +kernel)) rfl
theorem ws_26 : Cond.selects "PipeMomentsModel" ⟨"PipeMomentsModel", "opens", "(III)I"⟩ ⟨"PipeMomentsModel", "opens", "(III)I"⟩ ∈ lw_g := gm (List.mem_of_getElem? (i := 26) (by decide +kernel)) rfl
theorem ws_27 : Cond.selects "PipeMomentsModel" ⟨"PipeMomentsModel", "becomes", "(II)I"⟩ ⟨"PipeMomentsModel", "becomes", "(II)I"⟩ ∈ lw_g := gm (List.mem_of_getElem? (i := 27) (by decide +kernel)) rfl
theorem ws_28 : Cond.selects "PipeMomentsModel" ⟨"PipeMomentsModel", "pi", "(II)I"⟩ ⟨"PipeMomentsModel", "pi", "(II)I"⟩ ∈ lw_g := gm (List.mem_of_getElem? (i := 28) (by decide +kernel)) rfl
theorem ws_29 : Cond.selects "PipeMomentsModel" ⟨"PipeMomentsModel", "pipesOf", "(II)I"⟩ ⟨"PipeMomentsModel", "pipesOf", "(II)I"⟩ ∈ lw_g := gm (List.mem_of_getElem? (i := 29) (by decide +kernel)) rfl
theorem ws_30 : Cond.selects "PipeMomentsModel" ⟨"PipeMomentsModel", "alone", "(I)I"⟩ ⟨"PipeMomentsModel", "alone", "(I)I"⟩ ∈ lw_g := gm (List.mem_of_getElem? (i := 30) (by decide +kernel)) rfl
theorem ws_31 : Cond.selects "PipeMomentsModel" ⟨"PipeMomentsModel", "comes", "(I)I"⟩ ⟨"PipeMomentsModel", "comes", "(I)I"⟩ ∈ lw_g := gm (List.mem_of_getElem? (i := 31) (by decide +kernel)) rfl
theorem ws_32 : Cond.selects "PipeMomentsModel" ⟨"PipeMomentsModel", "finds", "()Z"⟩ ⟨"PipeMomentsModel", "finds", "()Z"⟩ ∈ lw_g := gm (List.mem_of_getElem? (i := 32) (by decide +kernel)) rfl
theorem ws_33 : Cond.selects "PipeMomentsModel" ⟨"PipeMomentsModel", "unitsOf", "(I)I"⟩ ⟨"PipeMomentsModel", "unitsOf", "(I)I"⟩ ∈ lw_g := gm (List.mem_of_getElem? (i := 33) (by decide +kernel)) rfl
theorem ws_34 : Cond.selects "PipeMomentsModel" ⟨"PipeMomentsModel", "reaches", "(III)V"⟩ ⟨"PipeMomentsModel", "reaches", "(III)V"⟩ ∈ lw_g := gm (List.mem_of_getElem? (i := 34) (by decide +kernel)) rfl
theorem ws_35 : Cond.selects "PipeMomentsModel" ⟨"PipeMomentsModel", "looks", "(I)V"⟩ ⟨"PipeMomentsModel", "looks", "(I)V"⟩ ∈ lw_g := gm (List.mem_of_getElem? (i := 35) (by decide +kernel)) rfl
theorem ws_36 : Cond.selects "PipeMomentsModel" ⟨"PipeMomentsModel", "roomOf", "(I)I"⟩ ⟨"PipeMomentsModel", "roomOf", "(I)I"⟩ ∈ lw_g := gm (List.mem_of_getElem? (i := 36) (by decide +kernel)) rfl
theorem ws_37 : Cond.selects "PipeMomentsModel" ⟨"PipeMomentsModel", "isOpen", "(II)Z"⟩ ⟨"PipeMomentsModel", "isOpen", "(II)Z"⟩ ∈ lw_g := gm (List.mem_of_getElem? (i := 37) (by decide +kernel)) rfl
theorem ws_38 : Cond.selects "PipeMomentsModel" ⟨"PipeMomentsModel", "goes", "()V"⟩ ⟨"PipeMomentsModel", "goes", "()V"⟩ ∈ lw_g := gm (List.mem_of_getElem? (i := 38) (by decide +kernel)) rfl
theorem ws_39 : Cond.selects "PipeMomentsModel" ⟨"PipeMomentsModel", "all", "()I"⟩ ⟨"PipeMomentsModel", "all", "()I"⟩ ∈ lw_g := gm (List.mem_of_getElem? (i := 39) (by decide +kernel)) rfl
theorem ws_40 : Cond.selects "PipeMomentsModel" ⟨"PipeMomentsModel", "isNarrow", "(I)Z"⟩ ⟨"PipeMomentsModel", "isNarrow", "(I)Z"⟩ ∈ lw_g := gm (List.mem_of_getElem? (i := 40) (by decide +kernel)) rfl
theorem ws_41 : Cond.selects "PipeMomentsModel" ⟨"PipeMomentsModel", "bounds", "()I"⟩ ⟨"PipeMomentsModel", "bounds", "()I"⟩ ∈ lw_g := gm (List.mem_of_getElem? (i := 41) (by decide +kernel)) rfl
theorem ws_42 : Cond.selects "PipeMomentsModel" ⟨"PipeMomentsModel", "faulty", "()I"⟩ ⟨"PipeMomentsModel", "faulty", "()I"⟩ ∈ lw_g := gm (List.mem_of_getElem? (i := 42) (by decide +kernel)) rfl
theorem ws_43 : Cond.selects "PipeMomentsModel" ⟨"PipeMomentsModel", "doesNext", "()I"⟩ ⟨"PipeMomentsModel", "doesNext", "()I"⟩ ∈ lw_g := gm (List.mem_of_getElem? (i := 43) (by decide +kernel)) rfl
theorem ws_44 : Cond.selects "PipeMomentsModel" ⟨"PipeMomentsModel", "sign", "()I"⟩ ⟨"PipeMomentsModel", "sign", "()I"⟩ ∈ lw_g := gm (List.mem_of_getElem? (i := 44) (by decide +kernel)) rfl
theorem ws_45 : Cond.selects "PipeMomentsModel" ⟨"PipeMomentsModel", "reads", "(I)Z"⟩ ⟨"PipeMomentsModel", "reads", "(I)Z"⟩ ∈ lw_g := gm (List.mem_of_getElem? (i := 45) (by decide +kernel)) rfl
theorem ws_46 : Cond.selects "PipeMomentsModel" ⟨"PipeMomentsModel", "readsNumber", "(I)Z"⟩ ⟨"PipeMomentsModel", "readsNumber", "(I)Z"⟩ ∈ lw_g := gm (List.mem_of_getElem? (i := 46) (by decide +kernel)) rfl
theorem ws_47 : Cond.selects "PipeMomentsModel" ⟨"PipeMomentsModel", "isRight", "(II)Z"⟩ ⟨"PipeMomentsModel", "isRight", "(II)Z"⟩ ∈ lw_g := gm (List.mem_of_getElem? (i := 47) (by decide +kernel)) rfl
theorem ws_48 : Cond.selects "PipeMomentsModel" ⟨"PipeMomentsModel", "does", "(I)I"⟩ ⟨"PipeMomentsModel", "does", "(I)I"⟩ ∈ lw_g := gm (List.mem_of_getElem? (i := 48) (by decide +kernel)) rfl
end
section
/-! The rows that every contract below uses: calls by one row, worlds of a fixed shape, exact pure functions with checked reads. -/
abbrev Mm : Type := Nat → Nat → Int32
abbrev classes : List vw_C := [(RX0, TX0, 2), (RX1, TX1, 5), (RX2, TX2, 9), (RX3, TX3, 7), (RX4, TX4, 4), (RX5, TX5, 23)]
abbrev tysA (cI cC cO : ClassId) : List (ClassId × FieldType) := [(cI, .int), (cC, .char), (cO, .object RX1)]
/-- an index that is in its row, else nothing -/
def ck {α : Type} (i : Int32) (n : Nat) (x : Option α) : Option α := if i < 0 ∨ n ≤ i.toNatClampNeg then none else x
/-- a number that is 0 or 1, else nothing -/
def cz {α : Type} (v : Int32) (x : Option α) : Option α := if v = 0 ∨ v = 1 then x else none
/-- fuel of a loop -/
def FU : Nat := 1100000
def b1 {α β : Type} (o : Option α) (f : α → Option β) : Option β := o.bind f
def b2 {α β γ : Type} (o : Option (α × β)) (f : α → β → Option γ) : Option γ := o.bind fun q => f q.1 q.2
def b3 {α β γ δ : Type} (o : Option (α × β × γ)) (f : α → β → γ → Option δ) : Option δ := o.bind fun q => f q.1 q.2.1 q.2.2
def b4 {α β γ δ ε : Type} (o : Option (α × β × γ × δ)) (f : α → β → γ → δ → Option ε) : Option ε := o.bind fun q => f q.1 q.2.1 q.2.2.1 q.2.2.2
theorem ck_ok {α : Type} {i : Int32} {n : Nat} {x : Option α} {r : α} (h : ck i n x = some r) : vp_in i n ∧ x = some r := by
  unfold ck at h
  split at h
  · cases h
  · rename_i hc; exact ⟨hc, h⟩
theorem cz_ok {α : Type} {v : Int32} {x : Option α} {r : α} (h : cz v x = some r) : (v = 0 ∨ v = 1) ∧ x = some r := by
  unfold cz at h
  split at h
  · rename_i hc; exact ⟨hc, h⟩
  · cases h
theorem b1_ok {α β : Type} {o : Option α} {f : α → Option β} {r : β} (h : b1 o f = some r) : ∃ u, o = some u ∧ f u = some r := by
  cases o with
  | none => cases h
  | some u => exact ⟨u, rfl, h⟩
theorem b2_ok {α β γ : Type} {o : Option (α × β)} {f : α → β → Option γ} {r : γ} (h : b2 o f = some r) : ∃ u v, o = some (u, v) ∧ f u v = some r := by
  cases o with
  | none => cases h
  | some u => exact ⟨u.1, u.2, rfl, h⟩
theorem b3_ok {α β γ δ : Type} {o : Option (α × β × γ)} {f : α → β → γ → Option δ} {r : δ} (h : b3 o f = some r) : ∃ u v w, o = some (u, v, w) ∧ f u v w = some r := by
  cases o with
  | none => cases h
  | some u => exact ⟨u.1, u.2.1, u.2.2, rfl, h⟩
theorem b4_ok {α β γ δ ε : Type} {o : Option (α × β × γ × δ)} {f : α → β → γ → δ → Option ε} {r : ε} (h : b4 o f = some r) : ∃ u v w z, o = some (u, v, w, z) ∧ f u v w z = some r := by
  cases o with
  | none => cases h
  | some u => exact ⟨u.1, u.2.1, u.2.2.1, u.2.2.2, rfl, h⟩
/-- a named value -/
def sv {α β : Type} (x : α) (f : α → Option β) : Option β := f x
theorem sv_ok {α β : Type} {x : α} {f : α → Option β} {r : β} (h : sv x f = some r) : ∃ y, x = y ∧ f y = some r := ⟨x, rfl, h⟩
theorem fp {c : Prop} [d : Decidable c] {α : Type} {a b r : Option α} (hc : c) (h : (if c then a else b) = r) : a = r := by rw [if_pos hc] at h; exact h
theorem fn {c : Prop} [d : Decidable c] {α : Type} {a b r : Option α} (hc : ¬ c) (h : (if c then a else b) = r) : b = r := by rw [if_neg hc] at h; exact h
theorem nz {v : Int32} (h : v = 0 ∨ v = 1) : narrow .boolean (.int v) = .int v := by rcases h with rfl | rfl <;> rfl
/-- a switch over 0 .. n-1: outside -/
theorem sw_out {x : Int32} {n : Nat} (hn : n < 100) (h : ∀ k, k < n → ¬ x = Int32.ofNat k) : x.toInt < 0 ∨ (n : Int) - 1 < x.toInt := by
  by_cases h0 : x.toInt < 0
  · exact Or.inl h0
  · refine Or.inr (Int.not_le.mp fun h1 => ?_)
    have h2 : x.toInt.toNat < n := by omega
    refine h _ h2 (Int32.toInt_inj.mp ?_)
    rw [Int32.toInt_ofNat_of_lt (by omega)]
    omega
/-- words of nest mates: carried in a contract's start -/
def NW (U : State) : Prop := (∀ a i b n d h, Cond.fieldLinkNest a i b n d h ∈ lw_tbl → va_Nw (.fieldLinkNest a i b n d h) U) ∧ ∀ a i x h, Cond.methodLinkNest a i x h ∈ lw_tbl → va_Nw (.methodLinkNest a i x h) U
theorem NW.warm {s U : State} (hW : s.WarmedH U.vm) (h : NW s) : NW U := ⟨fun a i b n d q hm => va_Nw.warmF hW (h.1 a i b n d q hm), fun a i x q hm => va_Nw.warmM hW (h.2 a i x q hm)⟩
theorem NW.same {u U : State} (hv : u.vm = U.vm) (h : NW u) : NW U := ⟨fun a i b n d q hm => va_Nw.same rfl hv (h.1 a i b n d q hm), fun a i x q hm => va_Nw.same rfl hv (h.2 a i x q hm)⟩
/-- a contract's start: the world w, at a heap of sz cells -/
def pS (D : va_G) (cI cC cO : ClassId) (sz : Nat) (w : va_W) : State → Prop := fun U => U.heap.size = sz ∧ va_P D classes w U.heap ∧ va_K D classes (tysA cI cC cO) U ∧ va_D (fun _ => True) w ∧ NW U
/-- its end -/
def qS (D : va_G) (cI cC cO : ClassId) (A : Nat → Prop) (w : va_W) : State → Prop := fun t => va_P D classes w t.heap ∧ va_K D classes (tysA cI cC cO) t ∧ va_D A w
abbrev QI (D : va_G) (cI cC cO : ClassId) (A : Nat → Prop) (w : va_W) (r : Int32) : Array Value → State → Outcome → State → Prop := va_Qi (fun (r2 : Int32) (_ : Unit) => r2 = r) (fun _ => qS D cI cC cO A w) A
abbrev QV (D : va_G) (cI cC cO : ClassId) (A : Nat → Prop) (w : va_W) : Array Value → State → Outcome → State → Prop := va_Qv (fun (_ : Unit) => True) (fun _ => qS D cI cC cO A w) A
theorem pS_blind {D : va_G} {cI cC cO : ClassId} {sz : Nat} {w : va_W} {av : List Value} : FrameBlind (va_Pc av (pS D cI cC cO sz w)) := fun a U g mk q => by
  obtain ⟨q0, q1, qP, qK, qD, qN⟩ := q
  exact ⟨q0, q1, qP, va_K.moved (u := U) (U := U.calling g mk a) (Vm.Alike.refl U.vm) qK, qD, qN.same rfl⟩
theorem pS_pre {D : va_G} {cI cC cO : ClassId} {A : Nat → Prop} {w : va_W} {av : List Value} {s : State} {H : Heap} (hP : va_P D classes w H) (hK : va_K D classes (tysA cI cC cO) s) (hD : va_D A w) (hN : NW s) : ∀ U : State, U.heap = H → s.WarmedH U.vm → va_Pc av (pS D cI cC cO H.size w) av.toArray U :=
  fun U hU hW => ⟨rfl, by rw [hU], by rw [hU]; exact hP, va_K.moved hW.alike hK, hD.weaken (fun _ _ _ _ => trivial), hN.warm hW⟩
theorem fm_of {α : Type} {ws ws' : List α} {is : List Nat} (h : is.map (fun i => ws[i]?) = ws'.map some) : is.filterMap (fun i => ws[i]?) = ws' := by
  have e : is.filterMap (fun i => ws[i]?) = (is.map (fun i => ws[i]?)).filterMap id := by rw [List.filterMap_map]; rfl
  rw [e, h, List.filterMap_map]
  simp
theorem gI {c : Cond} (hc : c ∈ lw_g) : GoodIn lw_g (c :: lw_g) := fun w h => (List.mem_cons.mp h).elim (fun e => e ▸ ⟨hc, gd_all hc⟩) (fun h => ⟨h, gd_all h⟩)
section KC
variable {p : Program} {l : Launch} {e : Env} {R : Room} {s : State} {m : MethodId} {args : Array Value} {below : List Frame} {meth : Method} {c : Code} {H : Heap} {locs : List Loc} {cells slots : Nat} {Q : State → Prop}
variable {pc : Nat} {ls : Array Slot} {rest st0 : List Value} {a : Array Value} {A : Nat → Prop} {H0 : Heap} {D : va_G} {cI cC cO : ClassId} {ws wc wr wc' ws' : va_W}
variable {y : MethodName} {bytes cc : ByteArray} {maxL nL mc ms n index : Nat} {ret : Option FieldType} {rm : Room} {own C : String} {b : Addr} {As : List Value}
theorem cwv (n : Nat) (ht : ∀ w ∈ lw_g, w.before args s = true) (hcode : Cond.code y bytes maxL ret ∈ lw_g) (hini : Cond.initialized y.cls ∈ lw_g) (hl : Cond.methodLink own index y ∈ lw_g) (hin : Cond.instanceMethod y ∈ lw_g) (hsel : Cond.selects y.cls y y ∈ lw_g)
    (hd : y.cls ≠ "java/lang/invoke/MethodHandle" ∧ y.cls ≠ "java/lang/invoke/VarHandle" ∧ (parseMethodDescriptor y.desc).map (fun d => d.parameters.length) = some n) (hrc : rm.cells = mc) (hrs : rm.slots = ms) (hR : rm.frames + 1 ≤ R.frames ∧ 8 + (maxL + 11) + rm.locals ≤ R.locals) :
    CallW R s args own y.cls index y bytes maxL ret (Cond.code y bytes maxL ret :: lw_g) rm mc ms n :=
  ⟨callB_of n ht (gI hcode) rfl hrc hrs (ht _ hini) (ht _ hl) hd hR, ht _ hin, ht _ hsel⟩
theorem cwst (n : Nat) (ht : ∀ w ∈ lw_g, w.before args s = true) (hcode : Cond.code y bytes maxL ret ∈ lw_g) (hini : Cond.initialized y.cls ∈ lw_g) (hl : Cond.methodLink own index y ∈ lw_g) (hst : Cond.static y ∈ lw_g)
    (hd : y.cls ≠ "java/lang/invoke/MethodHandle" ∧ y.cls ≠ "java/lang/invoke/VarHandle" ∧ (parseMethodDescriptor y.desc).map (fun d => d.parameters.length) = some n) (hrc : rm.cells = mc) (hrs : rm.slots = ms) (hR : rm.frames + 1 ≤ R.frames ∧ 8 + (maxL + 11) + rm.locals ≤ R.locals) :
    CallB R s args own index y bytes maxL ret (Cond.code y bytes maxL ret :: lw_g) rm mc ms n ∧ (Cond.static y).before args s = true :=
  ⟨callB_of n ht (gI hcode) rfl hrc hrs (ht _ hini) (ht _ hl) hd hR, ht _ hst⟩
theorem mw_i {r : Int32} (hP : va_P D classes ws H) (hD : va_D A ws) (hS : va_S A H0 H locs) (hA : ∀ q, H0.size ≤ q → A q) (isC isR pm : List Nat) (hC : isC.map (fun i => ws[i]?) = wc.map some) (hR : isR.map (fun i => ws[i]?) = wr.map some) (hn : va_nd isR = true) (hdis : ∀ i ∈ isR, i ∉ isC) (hpm : pm.map (fun i => (wr ++ wc')[i]?) = ws'.map some) (hnp : va_nd pm = true)
    (hr : va_Run p l e R s m args below meth c H locs cells slots mc ms (F0 m pc ls st0) rest (QI D cI cC cO (va_A wc H.size) wc' r a) (va_A wc H.size))
    (kk : ∀ (H1 : Heap) (locs1 : List Loc), va_P D classes ws' H1 → va_D A ws' → va_S A H0 H1 locs1 → W p l e R s m args below meth c H1 locs1 (cells + mc) (slots + ms) Q (F0 m (pc + 3) ls (.int r :: rest))) : W p l e R s m args below meth c H locs cells slots Q (F0 m pc ls st0) := by
  have hF := va_free (wc := wc) hD hS hA isC hC
  refine va_calli hr hS (fun q _ h => hF q h) hF (fun r2 u t H1 locs1 ht hvm hw hB hz1 hk1 hS => ?_)
  cases hw
  obtain ⟨hP1, hK1, hD1⟩ := hB
  rw [ht] at hP1
  obtain ⟨hP2, hD2⟩ := va_join (wr := wr) (w1 := wc') hP hD isC isR hC hR hn hdis hk1 hF hP1 hD1
  exact kk H1 locs1 (hP2.sub pm (fm_of hpm)) (hD2.sub pm hnp hpm) hS
theorem mw_v (hP : va_P D classes ws H) (hD : va_D A ws) (hS : va_S A H0 H locs) (hA : ∀ q, H0.size ≤ q → A q) (isC isR pm : List Nat) (hC : isC.map (fun i => ws[i]?) = wc.map some) (hR : isR.map (fun i => ws[i]?) = wr.map some) (hn : va_nd isR = true) (hdis : ∀ i ∈ isR, i ∉ isC) (hpm : pm.map (fun i => (wr ++ wc')[i]?) = ws'.map some) (hnp : va_nd pm = true)
    (hr : va_Run p l e R s m args below meth c H locs cells slots mc ms (F0 m pc ls st0) rest (QV D cI cC cO (va_A wc H.size) wc' a) (va_A wc H.size))
    (kk : ∀ (H1 : Heap) (locs1 : List Loc), va_P D classes ws' H1 → va_D A ws' → va_S A H0 H1 locs1 → W p l e R s m args below meth c H1 locs1 (cells + mc) (slots + ms) Q (F0 m (pc + 3) ls rest)) : W p l e R s m args below meth c H locs cells slots Q (F0 m pc ls st0) := by
  have hF := va_free (wc := wc) hD hS hA isC hC
  refine va_callv hr hS (fun q _ h => hF q h) hF (fun u t H1 locs1 ht hvm hw hB hz1 hk1 hS => ?_)
  obtain ⟨hP1, hK1, hD1⟩ := hB
  rw [ht] at hP1
  obtain ⟨hP2, hD2⟩ := va_join (wr := wr) (w1 := wc') hP hD isC isR hC hR hn hdis hk1 hF hP1 hD1
  exact kk H1 locs1 (hP2.sub pm (fm_of hpm)) (hD2.sub pm hnp hpm) hS
theorem cl_Vi {r : Int32} {q : vw_C} {fs : List Value} (S : CallFix p m c cc nL s args lw_g own) (hM : Met l y (Cond.code y bytes maxL ret :: lw_g) rm (va_Pc (.ref b :: As) (pS D cI cC cO H.size wc)) (QI D cI cC cO (va_A wc H.size) wc' r) 0 0 (va_A wc H.size))
    (cw : CallW R s args own C index y bytes maxL ret (Cond.code y bytes maxL ret :: lw_g) rm 0 0 n) (ci q0 : Nat) (hc : classes[ci]? = some q) (hq : q.1 = C) (he : wc[q0]? = some (b, .inr (ci, fs)))
    (hK : va_K D classes (tysA cI cC cO) s) (hP : va_P D classes ws H) (hD : va_D A ws) (hS : va_S A H0 H locs) (hA : ∀ q, H0.size ≤ q → A q) (hN : NW s) (isC isR pm : List Nat) (hnC : va_nd isC = true) (hC : isC.map (fun i => ws[i]?) = wc.map some) (hR : isR.map (fun i => ws[i]?) = (isR.filterMap (fun i => ws[i]?)).map some) (hn : va_nd isR = true) (hdis : ∀ i ∈ isR, i ∉ isC) (hpm : pm.map (fun i => (isR.filterMap (fun i => ws[i]?) ++ wc')[i]?) = ws'.map some) (hnp : va_nd pm = true)
    (hAs : As.length = n) (hsz : ls.size = nL) (hst : st0 = As.reverse ++ .ref b :: rest) (hW : (rest.map fun v => v.category).sum ≤ 8) (hdg : decode cc pc = .ok (.invokevirtual index, 3)) (hf : cells ≤ R.cells ∧ slots ≤ R.slots)
    (kk : ∀ (H1 : Heap) (locs1 : List Loc), va_P D classes ws' H1 → va_D A ws' → va_S A H0 H1 locs1 → W p l e R s m args below meth c H1 locs1 cells slots Q (F0 m (pc + 3) ls (.int r :: rest))) : W p l e R s m args below meth c H locs cells slots Q (F0 m pc ls st0) := by
  subst hq
  have hPc := hP.sub isC (fm_of hC)
  have hDc := hD.sub isC hnC hC
  exact mw_i hP hD hS hA isC isR pm hC hR hn hdis hpm hnp (va_runV (As := As) (rest := rest) S hM cw ⟨pS_blind, va_recv hK hPc hc he, pS_pre hPc hK hDc hN⟩ rfl hAs hsz hst (lv_room hW) hdg hf) kk
theorem cl_Vv {q : vw_C} {fs : List Value} (S : CallFix p m c cc nL s args lw_g own) (hM : Met l y (Cond.code y bytes maxL ret :: lw_g) rm (va_Pc (.ref b :: As) (pS D cI cC cO H.size wc)) (QV D cI cC cO (va_A wc H.size) wc') 0 0 (va_A wc H.size))
    (cw : CallW R s args own C index y bytes maxL ret (Cond.code y bytes maxL ret :: lw_g) rm 0 0 n) (ci q0 : Nat) (hc : classes[ci]? = some q) (hq : q.1 = C) (he : wc[q0]? = some (b, .inr (ci, fs)))
    (hK : va_K D classes (tysA cI cC cO) s) (hP : va_P D classes ws H) (hD : va_D A ws) (hS : va_S A H0 H locs) (hA : ∀ q, H0.size ≤ q → A q) (hN : NW s) (isC isR pm : List Nat) (hnC : va_nd isC = true) (hC : isC.map (fun i => ws[i]?) = wc.map some) (hR : isR.map (fun i => ws[i]?) = (isR.filterMap (fun i => ws[i]?)).map some) (hn : va_nd isR = true) (hdis : ∀ i ∈ isR, i ∉ isC) (hpm : pm.map (fun i => (isR.filterMap (fun i => ws[i]?) ++ wc')[i]?) = ws'.map some) (hnp : va_nd pm = true)
    (hAs : As.length = n) (hsz : ls.size = nL) (hst : st0 = As.reverse ++ .ref b :: rest) (hW : (rest.map fun v => v.category).sum ≤ 8) (hdg : decode cc pc = .ok (.invokevirtual index, 3)) (hf : cells ≤ R.cells ∧ slots ≤ R.slots)
    (kk : ∀ (H1 : Heap) (locs1 : List Loc), va_P D classes ws' H1 → va_D A ws' → va_S A H0 H1 locs1 → W p l e R s m args below meth c H1 locs1 cells slots Q (F0 m (pc + 3) ls rest)) : W p l e R s m args below meth c H locs cells slots Q (F0 m pc ls st0) := by
  subst hq
  have hPc := hP.sub isC (fm_of hC)
  have hDc := hD.sub isC hnC hC
  exact mw_v hP hD hS hA isC isR pm hC hR hn hdis hpm hnp (va_runV (As := As) (rest := rest) S hM cw ⟨pS_blind, va_recv hK hPc hc he, pS_pre hPc hK hDc hN⟩ rfl hAs hsz hst (lv_room hW) hdg hf) kk
theorem cl_Si {r : Int32} (S : CallFix p m c cc nL s args lw_g own) (hM : Met l y (Cond.code y bytes maxL ret :: lw_g) rm (va_Pc As (pS D cI cC cO H.size wc)) (QI D cI cC cO (va_A wc H.size) wc' r) 0 0 (va_A wc H.size))
    (cw : CallB R s args own index y bytes maxL ret (Cond.code y bytes maxL ret :: lw_g) rm 0 0 n ∧ (Cond.static y).before args s = true) 
    (hK : va_K D classes (tysA cI cC cO) s) (hP : va_P D classes ws H) (hD : va_D A ws) (hS : va_S A H0 H locs) (hA : ∀ q, H0.size ≤ q → A q) (hN : NW s) (isC isR pm : List Nat) (hnC : va_nd isC = true) (hC : isC.map (fun i => ws[i]?) = wc.map some) (hR : isR.map (fun i => ws[i]?) = (isR.filterMap (fun i => ws[i]?)).map some) (hn : va_nd isR = true) (hdis : ∀ i ∈ isR, i ∉ isC) (hpm : pm.map (fun i => (isR.filterMap (fun i => ws[i]?) ++ wc')[i]?) = ws'.map some) (hnp : va_nd pm = true)
    (hAs : As.length = n) (hsz : ls.size = nL) (hst : st0 = As.reverse ++ rest) (hW : (rest.map fun v => v.category).sum ≤ 8) (hdg : decode cc pc = .ok (.invokestatic index, 3)) (hf : cells ≤ R.cells ∧ slots ≤ R.slots)
    (kk : ∀ (H1 : Heap) (locs1 : List Loc), va_P D classes ws' H1 → va_D A ws' → va_S A H0 H1 locs1 → W p l e R s m args below meth c H1 locs1 cells slots Q (F0 m (pc + 3) ls (.int r :: rest))) : W p l e R s m args below meth c H locs cells slots Q (F0 m pc ls st0) := by
  have hPc := hP.sub isC (fm_of hC)
  have hDc := hD.sub isC hnC hC
  exact mw_i hP hD hS hA isC isR pm hC hR hn hdis hpm hnp (va_runS (As := As) (rest := rest) S hM cw ⟨pS_blind, pS_pre hPc hK hDc hN⟩ rfl hAs hsz hst (lv_room hW) hdg hf) kk
theorem cl_Sv (S : CallFix p m c cc nL s args lw_g own) (hM : Met l y (Cond.code y bytes maxL ret :: lw_g) rm (va_Pc As (pS D cI cC cO H.size wc)) (QV D cI cC cO (va_A wc H.size) wc') 0 0 (va_A wc H.size))
    (cw : CallB R s args own index y bytes maxL ret (Cond.code y bytes maxL ret :: lw_g) rm 0 0 n ∧ (Cond.static y).before args s = true) 
    (hK : va_K D classes (tysA cI cC cO) s) (hP : va_P D classes ws H) (hD : va_D A ws) (hS : va_S A H0 H locs) (hA : ∀ q, H0.size ≤ q → A q) (hN : NW s) (isC isR pm : List Nat) (hnC : va_nd isC = true) (hC : isC.map (fun i => ws[i]?) = wc.map some) (hR : isR.map (fun i => ws[i]?) = (isR.filterMap (fun i => ws[i]?)).map some) (hn : va_nd isR = true) (hdis : ∀ i ∈ isR, i ∉ isC) (hpm : pm.map (fun i => (isR.filterMap (fun i => ws[i]?) ++ wc')[i]?) = ws'.map some) (hnp : va_nd pm = true)
    (hAs : As.length = n) (hsz : ls.size = nL) (hst : st0 = As.reverse ++ rest) (hW : (rest.map fun v => v.category).sum ≤ 8) (hdg : decode cc pc = .ok (.invokestatic index, 3)) (hf : cells ≤ R.cells ∧ slots ≤ R.slots)
    (kk : ∀ (H1 : Heap) (locs1 : List Loc), va_P D classes ws' H1 → va_D A ws' → va_S A H0 H1 locs1 → W p l e R s m args below meth c H1 locs1 cells slots Q (F0 m (pc + 3) ls rest)) : W p l e R s m args below meth c H locs cells slots Q (F0 m pc ls st0) := by
  have hPc := hP.sub isC (fm_of hC)
  have hDc := hD.sub isC hnC hC
  exact mw_v hP hD hS hA isC isR pm hC hR hn hdis hpm hnp (va_runS (As := As) (rest := rest) S hM cw ⟨pS_blind, pS_pre hPc hK hDc hN⟩ rfl hAs hsz hst (lv_room hW) hdg hf) kk
theorem cl_Ni {r : Int32} {host : String} (S : CallFix p m c cc nL s args lw_g own) (hM : Met l y (Cond.code y bytes maxL ret :: lw_g) rm (va_Pc As (pS D cI cC cO H.size wc)) (QI D cI cC cO (va_A wc H.size) wc' r) 0 0 (va_A wc H.size))
    (cw : va_CN R s args own index y host bytes maxL ret (Cond.code y bytes maxL ret :: lw_g) rm 0 0 n ∧ (Cond.static y).before args s = true ∧ True) 
    (hK : va_K D classes (tysA cI cC cO) s) (hP : va_P D classes ws H) (hD : va_D A ws) (hS : va_S A H0 H locs) (hA : ∀ q, H0.size ≤ q → A q) (hN : NW s) (isC isR pm : List Nat) (hnC : va_nd isC = true) (hC : isC.map (fun i => ws[i]?) = wc.map some) (hR : isR.map (fun i => ws[i]?) = (isR.filterMap (fun i => ws[i]?)).map some) (hn : va_nd isR = true) (hdis : ∀ i ∈ isR, i ∉ isC) (hpm : pm.map (fun i => (isR.filterMap (fun i => ws[i]?) ++ wc')[i]?) = ws'.map some) (hnp : va_nd pm = true)
    (hAs : As.length = n) (hsz : ls.size = nL) (hst : st0 = As.reverse ++ rest) (hW : (rest.map fun v => v.category).sum ≤ 8) (hdg : decode cc pc = .ok (.invokestatic index, 3)) (hf : cells ≤ R.cells ∧ slots ≤ R.slots)
    (kk : ∀ (H1 : Heap) (locs1 : List Loc), va_P D classes ws' H1 → va_D A ws' → va_S A H0 H1 locs1 → W p l e R s m args below meth c H1 locs1 cells slots Q (F0 m (pc + 3) ls (.int r :: rest))) : W p l e R s m args below meth c H locs cells slots Q (F0 m pc ls st0) := by
  have hPc := hP.sub isC (fm_of hC)
  have hDc := hD.sub isC hnC hC
  exact mw_i hP hD hS hA isC isR pm hC hR hn hdis hpm hnp (va_runSN (As := As) (rest := rest) S hM cw ⟨pS_blind, pS_pre hPc hK hDc hN⟩ rfl hAs hsz hst (lv_room hW) hdg hf) kk
end KC
end
section
abbrev wX1 (a : Nat → Nat) (cI cC cO : ClassId) (L : Mm) : va_W := [(a 0, .inr (1, [.ref (a 1), .ref (a 2), .ref (a 3), .int (L 3 0), .int (L 3 1)])), (a 1, .inl (cI, 6, .inl (L 0))), (a 2, .inl (cI, 6, .inl (L 1))), (a 3, .inl (cI, 60, .inl (L 2)))]
abbrev wX3 (f n : Nat → Nat) (cI cC cO : ClassId) (S : Mm) (N : Mm) : va_W := [(f 0, .inr (3, [.ref (n 0), .ref (f 1), .ref (f 2), .ref (f 3), .ref (f 4), .int (S 4 0), .int (S 4 1)])), (f 1, .inl (cI, 524, .inl (S 0))), (f 2, .inl (cI, 96, .inl (S 1))), (f 3, .inl (cI, 96, .inl (S 2))), (f 4, .inl (cI, 96, .inl (S 3)))] ++ (wX1 n cI cC cO N)
abbrev wX2 (t r : Nat → Nat) (cI cC cO : ClassId) (T : Mm) (R : Mm) : va_W := [(t 0, .inr (2, [.ref (t 1), .ref (t 2), .ref (r 0), .int (T 2 0), .int (T 2 1), .int (T 2 2), .int (T 2 3), .int (T 2 4), .int (T 2 5)])), (t 1, .inl (cC, 60, .inl (T 0))), (t 2, .inl (cI, 4, .inl (T 1)))] ++ (wX1 r cI cC cO R)
abbrev wX5 (a : Nat → Nat) (cI cC cO : ClassId) (M : Mm) : va_W := [(a 0, .inr (5, [.ref (a 1), .ref (a 2), .ref (a 3), .ref (a 4), .int (M 12 0), .ref (a 5), .int (M 12 1), .int (M 12 2), .int (M 12 3), .int (M 12 4), .ref (a 6), .ref (a 7), .ref (a 8), .ref (a 9), .ref (a 10), .ref (a 11), .ref (a 12), .int (M 12 5), .int (M 12 6), .int (M 12 7), .int (M 12 8), .int (M 12 9), .int (M 12 10)])), (a 1, .inl (cI, 74, .inl (M 0))), (a 2, .inl (cI, 296, .inl (M 1))), (a 3, .inl (cI, 74, .inl (M 2))), (a 4, .inl (cI, 74, .inl (M 3))), (a 5, .inl (cC, 60, .inl (M 4))), (a 6, .inl (cI, 4, .inl (M 5))), (a 7, .inl (cI, 6, .inl (M 6))), (a 8, .inl (cI, 96, .inl (M 7))), (a 9, .inl (cI, 160, .inl (M 8))), (a 10, .inl (cI, 96, .inl (M 9))), (a 11, .inl (cI, 96, .inl (M 10))), (a 12, .inl (cI, 96, .inl (M 11)))]
theorem qS_mk {D : va_G} {cI cC cO : ClassId} {A : Nat → Prop} {w : va_W} {s t : State} {H : Heap} (ht : t.heap = H) (hW : s.WarmedH t.vm) (hP : va_P D classes w H) (hK : va_K D classes (tysA cI cC cO) s) (hD : va_D A w) : qS D cI cC cO A w t := ⟨by rw [ht]; exact hP, va_K.moved hW.alike hK, hD⟩
/-- an arraycopy that is in range, else nothing -/
def cp {α : Type} (sp dp n : Int32) (n0 n1 : Nat) (x : Option α) : Option α := if (¬ sp < 0) ∧ (¬ dp < 0) ∧ (¬ n < 0) ∧ sp.toNatClampNeg + n.toNatClampNeg ≤ n0 ∧ dp.toNatClampNeg + n.toNatClampNeg ≤ n1 then x else none
theorem cp_ok {α : Type} {sp dp n : Int32} {n0 n1 : Nat} {x : Option α} {r : α} (h : cp sp dp n n0 n1 x = some r) : ((¬ sp < 0) ∧ (¬ dp < 0) ∧ (¬ n < 0) ∧ sp.toNatClampNeg + n.toNatClampNeg ≤ n0 ∧ dp.toNatClampNeg + n.toNatClampNeg ≤ n1) ∧ x = some r := by
  unfold cp at h
  split at h
  · rename_i hc; exact ⟨hc, h⟩
  · cases h
/-- a row filled up to n -/
def fl (f : Nat → Int32) (n : Nat) (v : Int32) : Nat → Int32 := fun j => if j < n then v else f j
theorem lk_ne {x : Int32} {k : Int} (hk : -2147483648 ≤ k ∧ k ≤ 2147483647) (h : ¬ x = Int32.ofInt k) : ¬ k = x.toInt := fun e => h (by rw [e, Int32.ofInt_toInt])
section RT
variable {p : Program} {l : Launch} {e : Env} {R : Room} {s : State} {m : MethodId} {args : Array Value} {below : List Frame} {meth : Method} {c : Code} {H : Heap} {locs : List Loc} {cells slots : Nat}
variable {pc : Nat} {ls : Array Slot} {A : Nat → Prop} {D : va_G} {cI cC cO : ClassId} {w : va_W} {cc : ByteArray} {v : Int32}
theorem rt_i (hx : p.tables.exec = Jvm.exec) (hb : c.code = cc) (hr : meth.sig.returnType = some .int) (hlocks : meth.locks = false) (hS : va_S A s.heap H locs) (hP : va_P D classes w H) (hK : va_K D classes (tysA cI cC cO) s) (hD : va_D A w) (hdg : decode cc pc = .ok (.ireturn, 1)) : W p l e R s m args below meth c H locs cells slots (MQ below (QI D cI cC cO A w v) args s cells slots A) (F0 m pc ls [.int v]) :=
  W.iret (v := v) hx hb hr (fun t ht hW => ⟨⟨v, (), rfl, rfl, qS_mk ht hW hP hK hD⟩, hS.F ht⟩) hS.2.2 hdg hlocks
theorem rt_z (hx : p.tables.exec = Jvm.exec) (hb : c.code = cc) (hr : meth.sig.returnType = some .boolean) (hn : narrow .boolean (.int v) = .int v) (hlocks : meth.locks = false) (hS : va_S A s.heap H locs) (hP : va_P D classes w H) (hK : va_K D classes (tysA cI cC cO) s) (hD : va_D A w) (hdg : decode cc pc = .ok (.ireturn, 1)) : W p l e R s m args below meth c H locs cells slots (MQ below (QI D cI cC cO A w v) args s cells slots A) (F0 m pc ls [.int v]) :=
  W.zret (v := v) hx hb hr hn (fun t ht hW => ⟨⟨v, (), rfl, rfl, qS_mk ht hW hP hK hD⟩, hS.F ht⟩) hS.2.2 hdg hlocks
theorem rt_v (hx : p.tables.exec = Jvm.exec) (hb : c.code = cc) (hr : meth.sig.returnType = none) (hlocks : meth.locks = false) (hS : va_S A s.heap H locs) (hP : va_P D classes w H) (hK : va_K D classes (tysA cI cC cO) s) (hD : va_D A w) (hdg : decode cc pc = .ok (.return_, 1)) : W p l e R s m args below meth c H locs cells slots (MQ below (QV D cI cC cO A w) args s cells slots A) (F0 m pc ls []) :=
  W.vret hx hb hr (fun t ht hW => ⟨⟨(), rfl, trivial, qS_mk ht hW hP hK hD⟩, hS.F ht⟩) hS.2.2 hdg hlocks
end RT
end
section
def F_X5_in (x0 : Int32) (x1 : Int32) (x2 : Int32) : Option (Int32) := (if x0 < x1 then some ((0 : Int32)) else (if x2 < x0 then some ((0 : Int32)) else some ((1 : Int32))))
def F_X5_asIs (M : Mm) : Option (Mm) := (sv (va_up M 12 (upd (M 12) 7 (-1 : Int32))) fun M1 => (sv (va_up M1 12 (upd (M1 12) 8 (-1 : Int32))) fun M3 => (sv (va_up M3 12 (upd (M3 12) 9 (-1 : Int32))) fun M5 => (sv (va_up M5 12 (upd (M5 12) 10 (-1 : Int32))) fun M7 => some (M7)))))
def F_X5_isPlace (M : Mm) (x1 : Int32) : Option (Int32) := (ck (0 : Int32) 74 <| (b1 (F_X5_in x1 (0 : Int32) ((M 0 (0 : Int32).toNatClampNeg) - (1 : Int32))) fun u2 => (cz u2 <| some (u2))))
def F_X5_isPipe (M : Mm) (x1 : Int32) : Option (Int32) := (ck (1 : Int32) 74 <| (b1 (F_X5_in x1 (0 : Int32) ((M 0 (1 : Int32).toNatClampNeg) - (1 : Int32))) fun u2 => (cz u2 <| some (u2))))
def F_X5_pi (M : Mm) (x1 : Int32) (x2 : Int32) : Option (Int32) := (ck (((14 : Int32) + ((6 : Int32) * x1)) + x2) 74 <| some ((M 0 (((14 : Int32) + ((6 : Int32) * x1)) + x2).toNatClampNeg)))
def F_X5_keepsB_2 (k2 : Mm → Int32 → Option (Mm)) (M : Mm) (y1 : Int32) : Option (Mm) := (if (74 : Int32) ≤ y1 then some (M) else (ck y1 74 <| (ck y1 74 <| (sv (va_up M 2 (upd (M 2) y1.toNatClampNeg (M 0 y1.toNatClampNeg))) fun M4 => k2 M4 (y1 + 1)))))
def F_X5_keeps_2 : Nat → Mm → Int32 → Option (Mm)
  | 0 => fun _ _ => none
  | n + 1 => F_X5_keepsB_2 (F_X5_keeps_2 n)
def F_X5_keeps (M : Mm) : Option (Mm) := F_X5_keeps_2 FU M (0 : Int32)
def F_X5_actedB_56 (k56 : Mm → Int32 → Int32 → Option (Int32 × Mm)) (M : Mm) (y1 : Int32) (y2 : Int32) : Option (Int32 × Mm) := (if (74 : Int32) ≤ y2 then (sv (va_up M 12 (upd (M 12) 0 ((M 12 0) + (1 : Int32)))) fun M2 => some (y1, M2)) else (ck y2 74 <| (ck (((74 : Int32) * (M 12 0)) + y2) 296 <| (sv (va_up M 1 (upd (M 1) (((74 : Int32) * (M 12 0)) + y2).toNatClampNeg (M 2 y2.toNatClampNeg))) fun M6 => k56 M6 y1 (y2 + 1)))))
def F_X5_acted_56 : Nat → Mm → Int32 → Int32 → Option (Int32 × Mm)
  | 0 => fun _ _ _ => none
  | n + 1 => F_X5_actedB_56 (F_X5_acted_56 n)
def F_X5_actedB_16 (k16 : Mm → Int32 → Int32 → Option (Int32 × Mm)) (M : Mm) (y1 : Int32) (y2 : Int32) : Option (Int32 × Mm) := (if (222 : Int32) ≤ y2 then (sv (va_up M 12 (upd (M 12) 0 ((M 12 0) - (1 : Int32)))) fun M2 => F_X5_acted_56 FU M2 y1 (0 : Int32)) else (ck (y2 + (74 : Int32)) 296 <| (ck y2 296 <| (sv (va_up M 1 (upd (M 1) y2.toNatClampNeg (M 1 (y2 + (74 : Int32)).toNatClampNeg))) fun M6 => k16 M6 y1 (y2 + 1)))))
def F_X5_acted_16 : Nat → Mm → Int32 → Int32 → Option (Int32 × Mm)
  | 0 => fun _ _ _ => none
  | n + 1 => F_X5_actedB_16 (F_X5_acted_16 n)
def F_X5_acted (M : Mm) (x1 : Int32) : Option (Int32 × Mm) := (if x1 ≤ (-1000001 : Int32) then some (x1, M) else (if (M 12 0) = (4 : Int32) then F_X5_acted_16 FU M x1 (0 : Int32) else F_X5_acted_56 FU M x1 (0 : Int32)))
def F_X5_adds (M : Mm) (x1 : Int32) (x2 : Int32) : Option (Int32 × Mm) := (ck (0 : Int32) 74 <| (if (M 0 (0 : Int32).toNatClampNeg) = (6 : Int32) then some ((-1000003 : Int32), M) else (ck (0 : Int32) 74 <| (ck ((2 : Int32) + ((2 : Int32) * (M 0 (0 : Int32).toNatClampNeg))) 74 <| (sv (va_up M 0 (upd (M 0) ((2 : Int32) + ((2 : Int32) * (M 0 (0 : Int32).toNatClampNeg))).toNatClampNeg x1)) fun M5 => (ck (0 : Int32) 74 <| (ck (((2 : Int32) + ((2 : Int32) * (M5 0 (0 : Int32).toNatClampNeg))) + (1 : Int32)) 74 <| (sv (va_up M5 0 (upd (M5 0) (((2 : Int32) + ((2 : Int32) * (M5 0 (0 : Int32).toNatClampNeg))) + (1 : Int32)).toNatClampNeg x2)) fun M9 => (ck (0 : Int32) 74 <| (ck (0 : Int32) 74 <| (sv (va_up M9 0 (upd (M9 0) (0 : Int32).toNatClampNeg ((M9 0 (0 : Int32).toNatClampNeg) + (1 : Int32)))) fun M13 => (ck (0 : Int32) 74 <| some (((M13 0 (0 : Int32).toNatClampNeg) - (1 : Int32)), M13)))))))))))))
def F_X5_place (M : Mm) (x1 : Int32) (x2 : Int32) : Option (Int32 × Mm) := (b1 (F_X5_in x1 (0 : Int32) (20 : Int32)) fun u1 => (if u1 = 0 then some ((-1000001 : Int32), M) else (b1 (F_X5_in x2 (0 : Int32) (40 : Int32)) fun u4 => (if u4 = 0 then some ((-1000001 : Int32), M) else (b1 (F_X5_keeps M) fun M7 => (b2 (F_X5_adds M7 x1 x2) fun u9 M10 => (b2 (F_X5_acted M10 u9) fun u12 M13 => some (u12, M13))))))))
def F_X5_lays (M : Mm) (x1 : Int32) (x2 : Int32) (x3 : Int32) (x4 : Int32) : Option (Int32 × Mm) := (ck (1 : Int32) 74 <| (if (M 0 (1 : Int32).toNatClampNeg) = (10 : Int32) then some ((-1000003 : Int32), M) else (ck (1 : Int32) 74 <| (ck ((14 : Int32) + ((6 : Int32) * (M 0 (1 : Int32).toNatClampNeg))) 74 <| (sv (va_up M 0 (upd (M 0) ((14 : Int32) + ((6 : Int32) * (M 0 (1 : Int32).toNatClampNeg))).toNatClampNeg x1)) fun M5 => (ck (((14 : Int32) + ((6 : Int32) * (M 0 (1 : Int32).toNatClampNeg))) + (1 : Int32)) 74 <| (sv (va_up M5 0 (upd (M5 0) (((14 : Int32) + ((6 : Int32) * (M 0 (1 : Int32).toNatClampNeg))) + (1 : Int32)).toNatClampNeg x2)) fun M8 => (ck (((14 : Int32) + ((6 : Int32) * (M 0 (1 : Int32).toNatClampNeg))) + (2 : Int32)) 74 <| (sv (va_up M8 0 (upd (M8 0) (((14 : Int32) + ((6 : Int32) * (M 0 (1 : Int32).toNatClampNeg))) + (2 : Int32)).toNatClampNeg x3)) fun M11 => (ck (((14 : Int32) + ((6 : Int32) * (M 0 (1 : Int32).toNatClampNeg))) + (3 : Int32)) 74 <| (sv (va_up M11 0 (upd (M11 0) (((14 : Int32) + ((6 : Int32) * (M 0 (1 : Int32).toNatClampNeg))) + (3 : Int32)).toNatClampNeg x4)) fun M14 => (ck (((14 : Int32) + ((6 : Int32) * (M 0 (1 : Int32).toNatClampNeg))) + (4 : Int32)) 74 <| (sv (va_up M14 0 (upd (M14 0) (((14 : Int32) + ((6 : Int32) * (M 0 (1 : Int32).toNatClampNeg))) + (4 : Int32)).toNatClampNeg (0 : Int32))) fun M17 => (ck (((14 : Int32) + ((6 : Int32) * (M 0 (1 : Int32).toNatClampNeg))) + (5 : Int32)) 74 <| (sv (va_up M17 0 (upd (M17 0) (((14 : Int32) + ((6 : Int32) * (M 0 (1 : Int32).toNatClampNeg))) + (5 : Int32)).toNatClampNeg (15 : Int32))) fun M20 => (ck (1 : Int32) 74 <| (ck (1 : Int32) 74 <| (sv (va_up M20 0 (upd (M20 0) (1 : Int32).toNatClampNeg ((M20 0 (1 : Int32).toNatClampNeg) + (1 : Int32)))) fun M24 => (ck (1 : Int32) 74 <| some (((M24 0 (1 : Int32).toNatClampNeg) - (1 : Int32)), M24))))))))))))))))))))
def F_X5_pipe (M : Mm) (x1 : Int32) (x2 : Int32) (x3 : Int32) (x4 : Int32) : Option (Int32 × Mm) := (b1 (F_X5_isPlace M x1) fun u1 => (if u1 = 0 then some ((-1000001 : Int32), M) else (b1 (F_X5_isPlace M x2) fun u4 => (if u4 = 0 then some ((-1000001 : Int32), M) else (if x1 = x2 then some ((-1000001 : Int32), M) else (b1 (F_X5_in x3 (1 : Int32) (4 : Int32)) fun u8 => (if u8 = 0 then some ((-1000001 : Int32), M) else (b1 (F_X5_in x4 (1 : Int32) (9 : Int32)) fun u11 => (if u11 = 0 then some ((-1000001 : Int32), M) else (b1 (F_X5_keeps M) fun M14 => (b2 (F_X5_lays M14 x1 x2 x3 x4) fun u16 M17 => (b2 (F_X5_acted M17 u16) fun u19 M20 => some (u19, M20)))))))))))))
def F_X5_dropPipeB_30 (k30 : Mm → Int32 → Option (Int32 × Mm)) (M : Mm) (y2 : Int32) : Option (Int32 × Mm) := (ck (1 : Int32) 74 <| (if ((6 : Int32) * (M 0 (1 : Int32).toNatClampNeg)) ≤ y2 then (ck (1 : Int32) 74 <| (b2 (F_X5_acted M (M 0 (1 : Int32).toNatClampNeg)) fun u4 M5 => some (u4, M5))) else (ck (((14 : Int32) + y2) + (6 : Int32)) 74 <| (ck ((14 : Int32) + y2) 74 <| (sv (va_up M 0 (upd (M 0) ((14 : Int32) + y2).toNatClampNeg (M 0 (((14 : Int32) + y2) + (6 : Int32)).toNatClampNeg))) fun M9 => k30 M9 (y2 + 1))))))
def F_X5_dropPipe_30 : Nat → Mm → Int32 → Option (Int32 × Mm)
  | 0 => fun _ _ => none
  | n + 1 => F_X5_dropPipeB_30 (F_X5_dropPipe_30 n)
def F_X5_dropPipe (M : Mm) (x1 : Int32) : Option (Int32 × Mm) := (b1 (F_X5_isPipe M x1) fun u1 => (if u1 = 0 then some ((-1000001 : Int32), M) else (b1 (F_X5_keeps M) fun M4 => (ck (1 : Int32) 74 <| (ck (1 : Int32) 74 <| (sv (va_up M4 0 (upd (M4 0) (1 : Int32).toNatClampNeg ((M4 0 (1 : Int32).toNatClampNeg) - (1 : Int32)))) fun M8 => F_X5_dropPipe_30 FU M8 ((6 : Int32) * x1)))))))
def F_X5_opens (M : Mm) (x1 : Int32) (x2 : Int32) (x3 : Int32) : Option (Int32 × Mm) := (ck (((14 : Int32) + ((6 : Int32) * x1)) + (4 : Int32)) 74 <| (sv (va_up M 0 (upd (M 0) (((14 : Int32) + ((6 : Int32) * x1)) + (4 : Int32)).toNatClampNeg x2)) fun M2 => (ck (((14 : Int32) + ((6 : Int32) * x1)) + (5 : Int32)) 74 <| (sv (va_up M2 0 (upd (M2 0) (((14 : Int32) + ((6 : Int32) * x1)) + (5 : Int32)).toNatClampNeg x3)) fun M5 => (if x2 ≤ x3 then some (((x3 - x2) + (1 : Int32)), M5) else some ((0 : Int32), M5))))))
def F_X5_open (M : Mm) (x1 : Int32) (x2 : Int32) (x3 : Int32) : Option (Int32 × Mm) := (b1 (F_X5_isPipe M x1) fun u1 => (if u1 = 0 then some ((-1000001 : Int32), M) else (b1 (F_X5_in x2 (0 : Int32) (15 : Int32)) fun u4 => (if u4 = 0 then some ((-1000001 : Int32), M) else (b1 (F_X5_in x3 (0 : Int32) (15 : Int32)) fun u7 => (if u7 = 0 then some ((-1000001 : Int32), M) else (b1 (F_X5_keeps M) fun M10 => (b2 (F_X5_opens M10 x1 x2 x3) fun u12 M13 => (b2 (F_X5_acted M13 u12) fun u15 M16 => some (u15, M16))))))))))
def F_X5_becomes (M : Mm) (x1 : Int32) (x2 : Int32) : Option (Int32 × Mm) := (ck x1 74 <| (ck x1 74 <| (sv (va_up M 0 (upd (M 0) x1.toNatClampNeg x2)) fun M3 => some ((M 0 x1.toNatClampNeg), M3))))
def F_X5_widen (M : Mm) (x1 : Int32) (x2 : Int32) : Option (Int32 × Mm) := (b1 (F_X5_isPipe M x1) fun u1 => (if u1 = 0 then some ((-1000001 : Int32), M) else (b1 (F_X5_in x2 (1 : Int32) (9 : Int32)) fun u4 => (if u4 = 0 then some ((-1000001 : Int32), M) else (b1 (F_X5_keeps M) fun M7 => (b2 (F_X5_becomes M7 (((14 : Int32) + ((6 : Int32) * x1)) + (3 : Int32)) x2) fun u9 M10 => (b2 (F_X5_acted M10 u9) fun u12 M13 => some (u12, M13))))))))
def F_X5_units (M : Mm) (x1 : Int32) (x2 : Int32) : Option (Int32 × Mm) := (b1 (F_X5_isPlace M x1) fun u1 => (if u1 = 0 then some ((-1000001 : Int32), M) else (b1 (F_X5_in x2 (0 : Int32) (20 : Int32)) fun u4 => (if u4 = 0 then some ((-1000001 : Int32), M) else (b1 (F_X5_keeps M) fun M7 => (b2 (F_X5_becomes M7 ((2 : Int32) + ((2 : Int32) * x1)) x2) fun u9 M10 => (b2 (F_X5_acted M10 u9) fun u12 M13 => some (u12, M13))))))))
def F_X5_room (M : Mm) (x1 : Int32) (x2 : Int32) : Option (Int32 × Mm) := (b1 (F_X5_isPlace M x1) fun u1 => (if u1 = 0 then some ((-1000001 : Int32), M) else (b1 (F_X5_in x2 (0 : Int32) (40 : Int32)) fun u4 => (if u4 = 0 then some ((-1000001 : Int32), M) else (b1 (F_X5_keeps M) fun M7 => (b2 (F_X5_becomes M7 (((2 : Int32) + ((2 : Int32) * x1)) + (1 : Int32)) x2) fun u9 M10 => (b2 (F_X5_acted M10 u9) fun u12 M13 => some (u12, M13))))))))
def F_X5_pipeOf (M : Mm) (x1 : Int32) (x2 : Int32) : Option (Int32) := (b1 (F_X5_isPipe M x1) fun u1 => (if u1 = 0 then some ((-1000001 : Int32)) else (b1 (F_X5_in x2 (0 : Int32) (5 : Int32)) fun u4 => (if u4 = 0 then some ((-1000001 : Int32)) else (b1 (F_X5_pi M x1 x2) fun u7 => some (u7))))))
def F_X5_pipesOfB_5 (k5 : Mm → Int32 → Int32 → Int32 → Int32 → Option (Int32)) (M : Mm) (y1 : Int32) (y2 : Int32) (y3 : Int32) (y4 : Int32) : Option (Int32) := (ck (1 : Int32) 74 <| (if (M 0 (1 : Int32).toNatClampNeg) ≤ y4 then some (y3) else (b1 (F_X5_pi M y4 y2) fun u3 => (if u3 = y1 then k5 M y1 y2 (y3 ||| ((1 : Int32) <<< (y4 &&& 31))) (y4 + 1) else k5 M y1 y2 (y3 ||| (0 : Int32)) (y4 + 1)))))
def F_X5_pipesOf_5 : Nat → Mm → Int32 → Int32 → Int32 → Int32 → Option (Int32)
  | 0 => fun _ _ _ _ _ => none
  | n + 1 => F_X5_pipesOfB_5 (F_X5_pipesOf_5 n)
def F_X5_pipesOf (M : Mm) (x1 : Int32) (x2 : Int32) : Option (Int32) := F_X5_pipesOf_5 FU M x1 x2 (0 : Int32) (0 : Int32)
def F_X5_aloneB_126 (k33 : Mm → Int32 → Option (Int32 × Mm)) (k52 : Mm → Int32 → Int32 → Option (Int32 × Mm)) (k126 : Mm → Int32 → Int32 → Int32 → Int32 → Option (Int32 × Mm)) (M : Mm) (y2 : Int32) (y3 : Int32) (y4 : Int32) (y5 : Int32) : Option (Int32 × Mm) := (ck (1 : Int32) 74 <| (if (M 0 (1 : Int32).toNatClampNeg) ≤ y5 then k52 M y2 (y3 + 1) else (if y4 = 0 then k52 M y2 (y3 + 1) else (b1 (F_X5_pi M y5 (0 : Int32)) fun u4 => (if u4 = y3 then (b1 (F_X5_pi M y5 (4 : Int32)) fun u7 => (b1 (F_X5_pi M y5 (5 : Int32)) fun u9 => (b1 (F_X5_in y2 u7 u9) fun u11 => (if u11 = 0 then k126 M y2 y3 y4 (y5 + 1) else (b1 (F_X5_pi M y5 (2 : Int32)) fun u14 => (if (16 : Int32) ≤ (y2 + u14) then k126 M y2 y3 y4 (y5 + 1) else (b1 (F_X5_pi M y5 (1 : Int32)) fun u17 => (b1 (F_X5_pi M y5 (2 : Int32)) fun u19 => (ck ((((16 : Int32) * u17) + y2) + u19) 96 <| (sv (va_up M 9 (upd (M 9) ((((16 : Int32) * u17) + y2) + u19).toNatClampNeg (0 : Int32))) fun M22 => k126 M22 y2 y3 y4 (y5 + 1))))))))))) else k126 M y2 y3 y4 (y5 + 1))))))
def F_X5_alone_126 (k33 : Mm → Int32 → Option (Int32 × Mm)) (k52 : Mm → Int32 → Int32 → Option (Int32 × Mm)) : Nat → Mm → Int32 → Int32 → Int32 → Int32 → Option (Int32 × Mm)
  | 0 => fun _ _ _ _ _ => none
  | n + 1 => F_X5_aloneB_126 k33 k52 (F_X5_alone_126 k33 k52 n)
def F_X5_alone_81 (k33 : Mm → Int32 → Option (Int32 × Mm)) (k52 : Mm → Int32 → Int32 → Option (Int32 × Mm)) (M : Mm) (y2 : Int32) (y3 : Int32) (s0 : Int32) : Option (Int32 × Mm) := (if s0 = 0 then F_X5_alone_126 k33 k52 FU M y2 y3 s0 (0 : Int32) else (if (15 : Int32) ≤ y2 then F_X5_alone_126 k33 k52 FU M y2 y3 s0 (0 : Int32) else (ck (((2 : Int32) + ((2 : Int32) * y3)) + (1 : Int32)) 74 <| (if (M 0 (((2 : Int32) + ((2 : Int32) * y3)) + (1 : Int32)).toNatClampNeg) ≤ 0 then F_X5_alone_126 k33 k52 FU M y2 y3 s0 (0 : Int32) else (ck ((((16 : Int32) * y3) + y2) + (1 : Int32)) 96 <| (sv (va_up M 9 (upd (M 9) ((((16 : Int32) * y3) + y2) + (1 : Int32)).toNatClampNeg (0 : Int32))) fun M6 => F_X5_alone_126 k33 k52 FU M6 y2 y3 s0 (0 : Int32)))))))
def F_X5_aloneB_52 (k33 : Mm → Int32 → Option (Int32 × Mm)) (k52 : Mm → Int32 → Int32 → Option (Int32 × Mm)) (M : Mm) (y2 : Int32) (y3 : Int32) : Option (Int32 × Mm) := (ck (0 : Int32) 74 <| (if (M 0 (0 : Int32).toNatClampNeg) ≤ y3 then k33 M (y2 + 1) else (ck (((16 : Int32) * y3) + y2) 96 <| (if (M 9 (((16 : Int32) * y3) + y2).toNatClampNeg) < 0 then F_X5_alone_81 k33 k52 M y2 y3 (0 : Int32) else F_X5_alone_81 k33 k52 M y2 y3 (1 : Int32)))))
def F_X5_alone_52 (k33 : Mm → Int32 → Option (Int32 × Mm)) : Nat → Mm → Int32 → Int32 → Option (Int32 × Mm)
  | 0 => fun _ _ _ => none
  | n + 1 => F_X5_aloneB_52 k33 (F_X5_alone_52 k33 n)
def F_X5_aloneB_33 (k33 : Mm → Int32 → Option (Int32 × Mm)) (M : Mm) (y2 : Int32) : Option (Int32 × Mm) := (if (16 : Int32) ≤ y2 then some ((-1000004 : Int32), M) else (ck y2 96 <| (if (M 9 y2.toNatClampNeg) < 0 then F_X5_alone_52 k33 FU M y2 (1 : Int32) else some (y2, M))))
def F_X5_alone_33 : Nat → Mm → Int32 → Option (Int32 × Mm)
  | 0 => fun _ _ => none
  | n + 1 => F_X5_aloneB_33 (F_X5_alone_33 n)
def F_X5_aloneB_2 (k2 : Mm → Int32 → Int32 → Option (Int32 × Mm)) (M : Mm) (y1 : Int32) (y2 : Int32) : Option (Int32 × Mm) := (if (96 : Int32) ≤ y2 then (ck ((16 : Int32) * y1) 96 <| (sv (va_up M 9 (upd (M 9) ((16 : Int32) * y1).toNatClampNeg (0 : Int32))) fun M3 => F_X5_alone_33 FU M3 (0 : Int32))) else (ck y2 96 <| (sv (va_up M 9 (upd (M 9) y2.toNatClampNeg (-1 : Int32))) fun M6 => k2 M6 y1 (y2 + 1))))
def F_X5_alone_2 : Nat → Mm → Int32 → Int32 → Option (Int32 × Mm)
  | 0 => fun _ _ _ => none
  | n + 1 => F_X5_aloneB_2 (F_X5_alone_2 n)
def F_X5_alone (M : Mm) (x1 : Int32) : Option (Int32 × Mm) := F_X5_alone_2 FU M x1 (0 : Int32)
def F_X5_placeOf_52 (M : Mm) (y1 : Int32) (y2 : Int32) : Option (Int32 × Mm) := (ck (((2 : Int32) + ((2 : Int32) * y1)) + y2) 74 <| some ((M 0 (((2 : Int32) + ((2 : Int32) * y1)) + y2).toNatClampNeg), M))
def F_X5_placeOf (M : Mm) (x1 : Int32) (x2 : Int32) : Option (Int32 × Mm) := (b1 (F_X5_isPlace M x1) fun u1 => (if u1 = 0 then some ((-1000001 : Int32), M) else (b1 (F_X5_in x2 (0 : Int32) (4 : Int32)) fun u4 => (if u4 = 0 then some ((-1000001 : Int32), M) else (if x2 = (0 : Int32) then F_X5_placeOf_52 M x1 x2 else (if x2 = (1 : Int32) then F_X5_placeOf_52 M x1 x2 else (if x2 = (2 : Int32) then (b1 (F_X5_pipesOf M x1 (0 : Int32)) fun u10 => some (u10, M)) else (if x2 = (3 : Int32) then (b1 (F_X5_pipesOf M x1 (1 : Int32)) fun u13 => some (u13, M)) else (b2 (F_X5_alone M x1) fun u15 M16 => some (u15, M16))))))))))
def F_X5_unitsOf (M : Mm) (x1 : Int32) : Option (Int32) := (if (M 12 10) < 0 then (ck ((2 : Int32) + ((2 : Int32) * x1)) 74 <| (if x1 = (M 12 9) then some (((M 0 ((2 : Int32) + ((2 : Int32) * x1)).toNatClampNeg) + (1 : Int32))) else some (((M 0 ((2 : Int32) + ((2 : Int32) * x1)).toNatClampNeg) + (0 : Int32))))) else (if x1 = (M 12 10) then some ((1000000 : Int32)) else some ((0 : Int32))))
def F_X5_roomOf (M : Mm) (x1 : Int32) : Option (Int32) := (if x1 = 0 then some ((1000000 : Int32)) else (if x1 = (M 12 10) then some ((1000000 : Int32)) else (if (M 12 10) < 0 then (ck (((2 : Int32) + ((2 : Int32) * x1)) + (1 : Int32)) 74 <| some ((M 0 (((2 : Int32) + ((2 : Int32) * x1)) + (1 : Int32)).toNatClampNeg))) else some ((0 : Int32)))))
def F_X5_isOpen_31 (M : Mm) (y1 : Int32) (y2 : Int32) (s0 : Int32) : Option (Int32) := (if s0 = 0 then some ((0 : Int32)) else (if y1 = (M 12 7) then some ((0 : Int32)) else (b1 (F_X5_pi M y1 (2 : Int32)) fun u3 => (if (M 12 5) < (y2 + u3) then some ((0 : Int32)) else some ((1 : Int32))))))
def F_X5_isOpen_26 (M : Mm) (y1 : Int32) (y2 : Int32) : Option (Int32) := F_X5_isOpen_31 M y1 y2 (1 : Int32)
def F_X5_isOpen (M : Mm) (x1 : Int32) (x2 : Int32) : Option (Int32) := (if 0 ≤ (M 12 10) then F_X5_isOpen_26 M x1 x2 else (b1 (F_X5_pi M x1 (4 : Int32)) fun u2 => (b1 (F_X5_pi M x1 (5 : Int32)) fun u4 => (b1 (F_X5_in x2 u2 u4) fun u6 => (if u6 = 0 then F_X5_isOpen_31 M x1 x2 (0 : Int32) else F_X5_isOpen_26 M x1 x2)))))
def F_X5_reaches (M : Mm) (x1 : Int32) (x2 : Int32) (x3 : Int32) : Option (Mm) := (ck x1 96 <| (if 0 ≤ (M 9 x1.toNatClampNeg) then some (M) else (ck x1 96 <| (sv (va_up M 9 (upd (M 9) x1.toNatClampNeg x2)) fun M4 => (ck x1 96 <| (sv (va_up M4 10 (upd (M4 10) x1.toNatClampNeg x3)) fun M7 => (ck (M7 12 6) 96 <| (sv (va_up M7 11 (upd (M7 11) (M7 12 6).toNatClampNeg x1)) fun M10 => (sv (va_up M10 12 (upd (M10 12) 6 ((M10 12 6) + (1 : Int32)))) fun M12 => some (M12))))))))))
def F_X5_looks_187 (k68 : Mm → Int32 → Int32 → Int32 → Int32 → Option (Mm)) (M : Mm) (y1 : Int32) (y2 : Int32) (y3 : Int32) (y4 : Int32) (y5 : Int32) : Option (Mm) := (b1 (F_X5_pi M y4 (1 : Int32)) fun u1 => (if u1 = y2 then (if y3 < y5 then k68 M y1 y2 y3 (y4 + 1) else (ck ((((16 : Int32) * y4) + y3) - y5) 160 <| (if (M 8 ((((16 : Int32) * y4) + y3) - y5).toNatClampNeg) ≤ 0 then k68 M y1 y2 y3 (y4 + 1) else (b1 (F_X5_pi M y4 (0 : Int32)) fun u7 => (b1 (F_X5_reaches M ((((16 : Int32) * u7) + y3) - y5) y1 ((32 : Int32) + y4)) fun M9 => k68 M9 y1 y2 y3 (y4 + 1)))))) else k68 M y1 y2 y3 (y4 + 1)))
def F_X5_looks_158 (k68 : Mm → Int32 → Int32 → Int32 → Int32 → Option (Mm)) (M : Mm) (y1 : Int32) (y2 : Int32) (y3 : Int32) (y4 : Int32) (y5 : Int32) (s0 : Int32) (s1 : Int32) (s2 : Int32) : Option (Mm) := (if (s1 + s0) ≤ s2 then F_X5_looks_187 k68 M y1 y2 y3 y4 y5 else (b1 (F_X5_pi M y4 (1 : Int32)) fun u2 => (b1 (F_X5_reaches M ((((16 : Int32) * u2) + y3) + y5) y1 ((16 : Int32) + y4)) fun M4 => F_X5_looks_187 k68 M4 y1 y2 y3 y4 y5)))
def F_X5_looks_118 (k68 : Mm → Int32 → Int32 → Int32 → Int32 → Option (Mm)) (M : Mm) (y1 : Int32) (y2 : Int32) (y3 : Int32) (y4 : Int32) (y5 : Int32) (s0 : Int32) : Option (Mm) := (if s0 = 0 then F_X5_looks_187 k68 M y1 y2 y3 y4 y5 else (ck (((16 : Int32) * y4) + y3) 160 <| (b1 (F_X5_pi M y4 (3 : Int32)) fun u3 => (if y4 = (M 12 8) then F_X5_looks_158 k68 M y1 y2 y3 y4 y5 (1 : Int32) u3 (M 8 (((16 : Int32) * y4) + y3).toNatClampNeg) else F_X5_looks_158 k68 M y1 y2 y3 y4 y5 (0 : Int32) u3 (M 8 (((16 : Int32) * y4) + y3).toNatClampNeg)))))
def F_X5_looks_117 (k68 : Mm → Int32 → Int32 → Int32 → Int32 → Option (Mm)) (M : Mm) (y1 : Int32) (y2 : Int32) (y3 : Int32) (y4 : Int32) (y5 : Int32) : Option (Mm) := F_X5_looks_118 k68 M y1 y2 y3 y4 y5 (0 : Int32)
def F_X5_looksB_68 (k68 : Mm → Int32 → Int32 → Int32 → Int32 → Option (Mm)) (M : Mm) (y1 : Int32) (y2 : Int32) (y3 : Int32) (y4 : Int32) : Option (Mm) := (ck (1 : Int32) 74 <| (if (M 0 (1 : Int32).toNatClampNeg) ≤ y4 then some (M) else (b1 (F_X5_pi M y4 (2 : Int32)) fun u3 => (b1 (F_X5_pi M y4 (0 : Int32)) fun u5 => (if u5 = y2 then (if y2 = 0 then F_X5_looks_117 k68 M y1 y2 y3 y4 u3 else (b1 (F_X5_isOpen M y4 y3) fun u9 => (if u9 = 0 then F_X5_looks_117 k68 M y1 y2 y3 y4 u3 else F_X5_looks_118 k68 M y1 y2 y3 y4 u3 (1 : Int32)))) else F_X5_looks_117 k68 M y1 y2 y3 y4 u3)))))
def F_X5_looks_68 : Nat → Mm → Int32 → Int32 → Int32 → Int32 → Option (Mm)
  | 0 => fun _ _ _ _ _ => none
  | n + 1 => F_X5_looksB_68 (F_X5_looks_68 n)
def F_X5_looks_41 (M : Mm) (y1 : Int32) (y2 : Int32) (y3 : Int32) : Option (Mm) := (if y3 ≤ 0 then F_X5_looks_68 FU M y1 y2 y3 (0 : Int32) else (ck (y1 - (1 : Int32)) 96 <| (if (M 7 (y1 - (1 : Int32)).toNatClampNeg) ≤ 0 then F_X5_looks_68 FU M y1 y2 y3 (0 : Int32) else (b1 (F_X5_reaches M (y1 - (1 : Int32)) y1 (2 : Int32)) fun M4 => F_X5_looks_68 FU M4 y1 y2 y3 (0 : Int32)))))
def F_X5_looks (M : Mm) (x1 : Int32) : Option (Mm) := (if (M 12 5) ≤ (x1 - x1 / (16 : Int32) * (16 : Int32)) then F_X5_looks_41 M x1 (x1 / (16 : Int32)) (x1 - x1 / (16 : Int32) * (16 : Int32)) else (ck x1 96 <| (b1 (F_X5_roomOf M (x1 / (16 : Int32))) fun u3 => (if u3 ≤ (M 7 x1.toNatClampNeg) then F_X5_looks_41 M x1 (x1 / (16 : Int32)) (x1 - x1 / (16 : Int32) * (16 : Int32)) else (b1 (F_X5_reaches M (x1 + (1 : Int32)) x1 (1 : Int32)) fun M6 => F_X5_looks_41 M6 x1 (x1 / (16 : Int32)) (x1 - x1 / (16 : Int32) * (16 : Int32)))))))
def F_X5_findsB_73 (k73 : Mm → Int32 → Option (Int32 × Mm)) (M : Mm) (y1 : Int32) : Option (Int32 × Mm) := (if (M 12 6) ≤ y1 then (ck (M 12 5) 96 <| (if (M 9 (M 12 5).toNatClampNeg) < 0 then some ((0 : Int32), M) else some ((1 : Int32), M))) else (ck y1 96 <| (b1 (F_X5_looks M (M 11 y1.toNatClampNeg)) fun M5 => k73 M5 (y1 + 1))))
def F_X5_finds_73 : Nat → Mm → Int32 → Option (Int32 × Mm)
  | 0 => fun _ _ => none
  | n + 1 => F_X5_findsB_73 (F_X5_finds_73 n)
def F_X5_findsB_28 (k28 : Mm → Int32 → Option (Int32 × Mm)) (M : Mm) (y1 : Int32) : Option (Int32 × Mm) := (ck (0 : Int32) 74 <| (if (M 0 (0 : Int32).toNatClampNeg) ≤ y1 then F_X5_finds_73 FU M (0 : Int32) else (ck y1 6 <| (b1 (F_X5_unitsOf M y1) fun u4 => (if u4 ≤ (M 6 y1.toNatClampNeg) then k28 M (y1 + 1) else (b1 (F_X5_reaches M ((16 : Int32) * y1) ((16 : Int32) * y1) (0 : Int32)) fun M7 => k28 M7 (y1 + 1)))))))
def F_X5_finds_28 : Nat → Mm → Int32 → Option (Int32 × Mm)
  | 0 => fun _ _ => none
  | n + 1 => F_X5_findsB_28 (F_X5_finds_28 n)
def F_X5_findsB_2 (k2 : Mm → Int32 → Option (Int32 × Mm)) (M : Mm) (y1 : Int32) : Option (Int32 × Mm) := (if (96 : Int32) ≤ y1 then (sv (va_up M 12 (upd (M 12) 6 (0 : Int32))) fun M2 => F_X5_finds_28 FU M2 (0 : Int32)) else (ck y1 96 <| (sv (va_up M 9 (upd (M 9) y1.toNatClampNeg (-1 : Int32))) fun M5 => k2 M5 (y1 + 1))))
def F_X5_finds_2 : Nat → Mm → Int32 → Option (Int32 × Mm)
  | 0 => fun _ _ => none
  | n + 1 => F_X5_findsB_2 (F_X5_finds_2 n)
def F_X5_finds (M : Mm) : Option (Int32 × Mm) := F_X5_finds_2 FU M (0 : Int32)
def F_X5_goesB_5 (k5 : Mm → Int32 → Option (Mm)) (M : Mm) (y1 : Int32) : Option (Mm) := (ck y1 96 <| (if (M 10 y1.toNatClampNeg) = 0 then (ck (y1 / (16 : Int32)) 6 <| (ck (y1 / (16 : Int32)) 6 <| (sv (va_up M 6 (upd (M 6) (y1 / (16 : Int32)).toNatClampNeg ((M 6 (y1 / (16 : Int32)).toNatClampNeg) + (1 : Int32)))) fun M5 => some (M5)))) else (ck y1 96 <| (ck y1 96 <| (ck y1 96 <| (if (M 10 y1.toNatClampNeg) = (1 : Int32) then (ck (M 9 y1.toNatClampNeg) 96 <| (ck (M 9 y1.toNatClampNeg) 96 <| (sv (va_up M 7 (upd (M 7) (M 9 y1.toNatClampNeg).toNatClampNeg ((M 7 (M 9 y1.toNatClampNeg).toNatClampNeg) + (1 : Int32)))) fun M29 => k5 M29 (M 9 y1.toNatClampNeg)))) else (ck y1 96 <| (if (M 10 y1.toNatClampNeg) = (2 : Int32) then (ck y1 96 <| (ck y1 96 <| (sv (va_up M 7 (upd (M 7) y1.toNatClampNeg ((M 7 y1.toNatClampNeg) - (1 : Int32)))) fun M25 => k5 M25 (M 9 y1.toNatClampNeg)))) else (ck y1 96 <| (if (32 : Int32) ≤ (M 10 y1.toNatClampNeg) then (ck (((16 : Int32) * ((M 10 y1.toNatClampNeg) - (M 10 y1.toNatClampNeg) / (16 : Int32) * (16 : Int32))) + (y1 - y1 / (16 : Int32) * (16 : Int32))) 160 <| (ck (((16 : Int32) * ((M 10 y1.toNatClampNeg) - (M 10 y1.toNatClampNeg) / (16 : Int32) * (16 : Int32))) + (y1 - y1 / (16 : Int32) * (16 : Int32))) 160 <| (sv (va_up M 8 (upd (M 8) (((16 : Int32) * ((M 10 y1.toNatClampNeg) - (M 10 y1.toNatClampNeg) / (16 : Int32) * (16 : Int32))) + (y1 - y1 / (16 : Int32) * (16 : Int32))).toNatClampNeg ((M 8 (((16 : Int32) * ((M 10 y1.toNatClampNeg) - (M 10 y1.toNatClampNeg) / (16 : Int32) * (16 : Int32))) + (y1 - y1 / (16 : Int32) * (16 : Int32))).toNatClampNeg) - (1 : Int32)))) fun M17 => k5 M17 (M 9 y1.toNatClampNeg)))) else (ck (((16 : Int32) * ((M 10 y1.toNatClampNeg) - (M 10 y1.toNatClampNeg) / (16 : Int32) * (16 : Int32))) + ((M 9 y1.toNatClampNeg) - (M 9 y1.toNatClampNeg) / (16 : Int32) * (16 : Int32))) 160 <| (ck (((16 : Int32) * ((M 10 y1.toNatClampNeg) - (M 10 y1.toNatClampNeg) / (16 : Int32) * (16 : Int32))) + ((M 9 y1.toNatClampNeg) - (M 9 y1.toNatClampNeg) / (16 : Int32) * (16 : Int32))) 160 <| (sv (va_up M 8 (upd (M 8) (((16 : Int32) * ((M 10 y1.toNatClampNeg) - (M 10 y1.toNatClampNeg) / (16 : Int32) * (16 : Int32))) + ((M 9 y1.toNatClampNeg) - (M 9 y1.toNatClampNeg) / (16 : Int32) * (16 : Int32))).toNatClampNeg ((M 8 (((16 : Int32) * ((M 10 y1.toNatClampNeg) - (M 10 y1.toNatClampNeg) / (16 : Int32) * (16 : Int32))) + ((M 9 y1.toNatClampNeg) - (M 9 y1.toNatClampNeg) / (16 : Int32) * (16 : Int32))).toNatClampNeg) + (1 : Int32)))) fun M21 => k5 M21 (M 9 y1.toNatClampNeg))))))))))))))
def F_X5_goes_5 : Nat → Mm → Int32 → Option (Mm)
  | 0 => fun _ _ => none
  | n + 1 => F_X5_goesB_5 (F_X5_goes_5 n)
def F_X5_goes (M : Mm) : Option (Mm) := F_X5_goes_5 FU M (M 12 5)
def F_X5_comesB_71 (k71 : Mm → Int32 → Option (Int32 × Mm)) (M : Mm) (y2 : Int32) : Option (Int32 × Mm) := (b2 (F_X5_finds M) fun u1 M2 => (if u1 = 0 then some (y2, M2) else (b1 (F_X5_goes M2) fun M5 => k71 M5 (y2 + 1))))
def F_X5_comes_71 : Nat → Mm → Int32 → Option (Int32 × Mm)
  | 0 => fun _ _ => none
  | n + 1 => F_X5_comesB_71 (F_X5_comes_71 n)
def F_X5_comesB_49 (k49 : Mm → Int32 → Option (Int32 × Mm)) (M : Mm) (y2 : Int32) : Option (Int32 × Mm) := (if (160 : Int32) ≤ y2 then F_X5_comes_71 FU M (0 : Int32) else (ck y2 160 <| (sv (va_up M 8 (upd (M 8) y2.toNatClampNeg (0 : Int32))) fun M3 => k49 M3 (y2 + 1))))
def F_X5_comes_49 : Nat → Mm → Int32 → Option (Int32 × Mm)
  | 0 => fun _ _ => none
  | n + 1 => F_X5_comesB_49 (F_X5_comes_49 n)
def F_X5_comesB_28 (k28 : Mm → Int32 → Option (Int32 × Mm)) (M : Mm) (y2 : Int32) : Option (Int32 × Mm) := (if (96 : Int32) ≤ y2 then F_X5_comes_49 FU M (0 : Int32) else (ck y2 96 <| (sv (va_up M 7 (upd (M 7) y2.toNatClampNeg (0 : Int32))) fun M3 => k28 M3 (y2 + 1))))
def F_X5_comes_28 : Nat → Mm → Int32 → Option (Int32 × Mm)
  | 0 => fun _ _ => none
  | n + 1 => F_X5_comesB_28 (F_X5_comes_28 n)
def F_X5_comesB_7 (k7 : Mm → Int32 → Option (Int32 × Mm)) (M : Mm) (y2 : Int32) : Option (Int32 × Mm) := (if (6 : Int32) ≤ y2 then F_X5_comes_28 FU M (0 : Int32) else (ck y2 6 <| (sv (va_up M 6 (upd (M 6) y2.toNatClampNeg (0 : Int32))) fun M3 => k7 M3 (y2 + 1))))
def F_X5_comes_7 : Nat → Mm → Int32 → Option (Int32 × Mm)
  | 0 => fun _ _ => none
  | n + 1 => F_X5_comesB_7 (F_X5_comes_7 n)
def F_X5_comes (M : Mm) (x1 : Int32) : Option (Int32 × Mm) := (sv (va_up M 12 (upd (M 12) 5 x1)) fun M1 => F_X5_comes_7 FU M1 (0 : Int32))
def F_X5_come (M : Mm) (x1 : Int32) : Option (Int32 × Mm) := (b1 (F_X5_in x1 (0 : Int32) (15 : Int32)) fun u1 => (if u1 = 0 then some ((-1000001 : Int32), M) else (b2 (F_X5_comes M x1) fun u4 M5 => some (u4, M5))))
def F_X5_allB_4 (k4 : Mm → Int32 → Int32 → Option (Int32)) (M : Mm) (y1 : Int32) (y2 : Int32) : Option (Int32) := (ck (0 : Int32) 74 <| (if (M 0 (0 : Int32).toNatClampNeg) ≤ y2 then some (y1) else (ck ((2 : Int32) + ((2 : Int32) * y2)) 74 <| k4 M (y1 + (M 0 ((2 : Int32) + ((2 : Int32) * y2)).toNatClampNeg)) (y2 + 1))))
def F_X5_all_4 : Nat → Mm → Int32 → Int32 → Option (Int32)
  | 0 => fun _ _ _ => none
  | n + 1 => F_X5_allB_4 (F_X5_all_4 n)
def F_X5_all (M : Mm) : Option (Int32) := F_X5_all_4 FU M (0 : Int32) (0 : Int32)
def F_X5_earliest_49 (M : Mm) (y3 : Int32) : Option (Int32 × Mm) := (if y3 = (16 : Int32) then some ((-1000004 : Int32), M) else some (y3, M))
def F_X5_earliestB_28 (k28 : Mm → Int32 → Int32 → Option (Int32 × Mm)) (M : Mm) (y2 : Int32) (y3 : Int32) : Option (Int32 × Mm) := (if (16 : Int32) ≤ y3 then F_X5_earliest_49 M y3 else (b2 (F_X5_comes M y3) fun u2 M3 => (if y2 ≤ u2 then F_X5_earliest_49 M3 y3 else k28 M3 y2 (y3 + 1))))
def F_X5_earliest_28 : Nat → Mm → Int32 → Int32 → Option (Int32 × Mm)
  | 0 => fun _ _ _ => none
  | n + 1 => F_X5_earliestB_28 (F_X5_earliest_28 n)
def F_X5_earliest (M : Mm) (x1 : Int32) : Option (Int32 × Mm) := (b1 (F_X5_in x1 (-1 : Int32) (120 : Int32)) fun u1 => (if u1 = 0 then some ((-1000001 : Int32), M) else (if 0 ≤ x1 then F_X5_earliest_28 FU M x1 (0 : Int32) else (b1 (F_X5_all M) fun u5 => F_X5_earliest_28 FU M u5 (0 : Int32)))))
def F_X5_repeated (M : Mm) (x1 : Int32) (x2 : Int32) : Option (Int32 × Mm) := (b1 (F_X5_isPlace M x1) fun u1 => (if u1 = 0 then some ((-1000001 : Int32), M) else (if x1 = 0 then some ((-1000001 : Int32), M) else (b1 (F_X5_in x2 (0 : Int32) (15 : Int32)) fun u5 => (if u5 = 0 then some ((-1000001 : Int32), M) else (sv (va_up M 12 (upd (M 12) 10 x1)) fun M8 => (b2 (F_X5_comes M8 x2) fun u10 M11 => (b1 (F_X5_asIs M11) fun M13 => some (u10, M13)))))))))
def F_X5_isNarrow_54 (k4 : Mm → Int32 → Int32 → Int32 → Option (Int32)) (M : Mm) (y1 : Int32) (y2 : Int32) (y3 : Int32) (s0 : Int32) : Option (Int32) := (if y2 = 0 then (if s0 = 0 then k4 M y1 (0 : Int32) (y3 + 1) else (b1 (F_X5_pi M y1 (1 : Int32)) fun u3 => (b1 (F_X5_pi M y1 (2 : Int32)) fun u5 => (ck ((((16 : Int32) * u3) + y3) + u5) 96 <| (if 0 ≤ (M 9 ((((16 : Int32) * u3) + y3) + u5).toNatClampNeg) then k4 M y1 (0 : Int32) (y3 + 1) else k4 M y1 (1 : Int32) (y3 + 1)))))) else k4 M y1 (1 : Int32) (y3 + 1))
def F_X5_isNarrow_53 (k4 : Mm → Int32 → Int32 → Int32 → Option (Int32)) (M : Mm) (y1 : Int32) (y2 : Int32) (y3 : Int32) : Option (Int32) := F_X5_isNarrow_54 k4 M y1 y2 y3 (0 : Int32)
def F_X5_isNarrowB_4 (k4 : Mm → Int32 → Int32 → Int32 → Option (Int32)) (M : Mm) (y1 : Int32) (y2 : Int32) (y3 : Int32) : Option (Int32) := (if (M 12 5) < y3 then (cz y2 <| some (y2)) else (b1 (F_X5_pi M y1 (0 : Int32)) fun u3 => (if u3 = 0 then F_X5_isNarrow_53 k4 M y1 y2 y3 else (b1 (F_X5_isOpen M y1 y3) fun u6 => (if u6 = 0 then F_X5_isNarrow_53 k4 M y1 y2 y3 else (b1 (F_X5_pi M y1 (0 : Int32)) fun u9 => (ck (((16 : Int32) * u9) + y3) 96 <| (if (M 9 (((16 : Int32) * u9) + y3).toNatClampNeg) < 0 then F_X5_isNarrow_53 k4 M y1 y2 y3 else F_X5_isNarrow_54 k4 M y1 y2 y3 (1 : Int32)))))))))
def F_X5_isNarrow_4 : Nat → Mm → Int32 → Int32 → Int32 → Option (Int32)
  | 0 => fun _ _ _ _ => none
  | n + 1 => F_X5_isNarrowB_4 (F_X5_isNarrow_4 n)
def F_X5_isNarrow (M : Mm) (x1 : Int32) : Option (Int32) := F_X5_isNarrow_4 FU M x1 (0 : Int32) (0 : Int32)
def F_X5_narrowB_23 (k23 : Mm → Int32 → Int32 → Option (Int32 × Mm)) (M : Mm) (y2 : Int32) (y3 : Int32) : Option (Int32 × Mm) := (ck (1 : Int32) 74 <| (if (M 0 (1 : Int32).toNatClampNeg) ≤ y3 then some (y2, M) else (b1 (F_X5_isNarrow M y3) fun u3 => (if u3 = 0 then k23 M (y2 ||| (0 : Int32)) (y3 + 1) else k23 M (y2 ||| ((1 : Int32) <<< (y3 &&& 31))) (y3 + 1)))))
def F_X5_narrow_23 : Nat → Mm → Int32 → Int32 → Option (Int32 × Mm)
  | 0 => fun _ _ _ => none
  | n + 1 => F_X5_narrowB_23 (F_X5_narrow_23 n)
def F_X5_narrow (M : Mm) (x1 : Int32) : Option (Int32 × Mm) := (b1 (F_X5_in x1 (0 : Int32) (15 : Int32)) fun u1 => (if u1 = 0 then some ((-1000001 : Int32), M) else (b2 (F_X5_comes M x1) fun u4 M5 => F_X5_narrow_23 FU M5 (0 : Int32) (0 : Int32))))
def F_X5_wanting (M : Mm) (x1 : Int32) (x2 : Int32) (x3 : Int32) : Option (Int32 × Mm) := (b1 (F_X5_in x1 (0 : Int32) (15 : Int32)) fun u1 => (if u1 = 0 then some ((-1000001 : Int32), M) else (b1 (F_X5_isPlace M x2) fun u4 => (if u4 = 0 then some ((-1000001 : Int32), M) else (b1 (F_X5_in x3 (0 : Int32) x1) fun u7 => (if u7 = 0 then some ((-1000001 : Int32), M) else (b2 (F_X5_comes M x1) fun u10 M11 => (ck (((16 : Int32) * x2) + x3) 96 <| (if (M11 9 (((16 : Int32) * x2) + x3).toNatClampNeg) < 0 then some ((0 : Int32), M11) else some ((1 : Int32), M11))))))))))
def F_X5_dearest_84 (k31 : Mm → Int32 → Int32 → Int32 → Int32 → Int32 → Option (Int32 × Mm)) (M : Mm) (y1 : Int32) (y2 : Int32) (y4 : Int32) (y5 : Int32) (y6 : Int32) (y7 : Int32) (s0 : Int32) : Option (Int32 × Mm) := (if y7 = 0 then k31 M y1 y2 s0 y4 (y5 + 1) else k31 M y1 y2 s0 y6 (y5 + 1))
def F_X5_dearest_71 (k31 : Mm → Int32 → Int32 → Int32 → Int32 → Int32 → Option (Int32 × Mm)) (M : Mm) (y1 : Int32) (y2 : Int32) (y3 : Int32) (y4 : Int32) (y5 : Int32) (y6 : Int32) (s0 : Int32) : Option (Int32 × Mm) := (if s0 = 0 then F_X5_dearest_84 k31 M y1 y2 y4 y5 y6 s0 y3 else F_X5_dearest_84 k31 M y1 y2 y4 y5 y6 s0 y5)
def F_X5_dearest_66 (k31 : Mm → Int32 → Int32 → Int32 → Int32 → Int32 → Option (Int32 × Mm)) (M : Mm) (y1 : Int32) (y2 : Int32) (y3 : Int32) (y4 : Int32) (y5 : Int32) (y6 : Int32) : Option (Int32 × Mm) := F_X5_dearest_71 k31 M y1 y2 y3 y4 y5 y6 (1 : Int32)
def F_X5_dearestB_31 (k31 : Mm → Int32 → Int32 → Int32 → Int32 → Int32 → Option (Int32 × Mm)) (M : Mm) (y1 : Int32) (y2 : Int32) (y3 : Int32) (y4 : Int32) (y5 : Int32) : Option (Int32 × Mm) := (ck (1 : Int32) 74 <| (if (M 0 (1 : Int32).toNatClampNeg) ≤ y5 then (b1 (F_X5_asIs M) fun M3 => (if y2 = 0 then some (y3, M3) else (if 0 ≤ y3 then some (y4, M3) else some (y3, M3)))) else (sv (va_up M 12 (upd (M 12) 7 y5)) fun M7 => (b2 (F_X5_comes M7 y1) fun u9 M10 => (if y3 < 0 then F_X5_dearest_66 k31 M10 y1 y2 y3 y4 y5 u9 else (if y4 ≤ u9 then F_X5_dearest_71 k31 M10 y1 y2 y3 y4 y5 u9 (0 : Int32) else F_X5_dearest_66 k31 M10 y1 y2 y3 y4 y5 u9))))))
def F_X5_dearest_31 : Nat → Mm → Int32 → Int32 → Int32 → Int32 → Int32 → Option (Int32 × Mm)
  | 0 => fun _ _ _ _ _ _ => none
  | n + 1 => F_X5_dearestB_31 (F_X5_dearest_31 n)
def F_X5_dearest (M : Mm) (x1 : Int32) (x2 : Int32) : Option (Int32 × Mm) := (b1 (F_X5_in x1 (0 : Int32) (15 : Int32)) fun u1 => (if u1 = 0 then some ((-1000001 : Int32), M) else (b1 (F_X5_in x2 (0 : Int32) (1 : Int32)) fun u4 => (if u4 = 0 then some ((-1000001 : Int32), M) else F_X5_dearest_31 FU M x1 x2 (-1000004 : Int32) (0 : Int32) (0 : Int32)))))
def F_X5_helpful_78 (k38 : Mm → Int32 → Int32 → Int32 → Int32 → Int32 → Int32 → Option (Int32 × Mm)) (M : Mm) (y1 : Int32) (y2 : Int32) (y3 : Int32) (y5 : Int32) (y6 : Int32) (y7 : Int32) (s0 : Int32) : Option (Int32 × Mm) := (if y7 ≤ y5 then k38 M y1 y2 y3 s0 y5 (y6 + 1) else k38 M y1 y2 y3 s0 y7 (y6 + 1))
def F_X5_helpfulB_38 (k38 : Mm → Int32 → Int32 → Int32 → Int32 → Int32 → Int32 → Option (Int32 × Mm)) (M : Mm) (y1 : Int32) (y2 : Int32) (y3 : Int32) (y4 : Int32) (y5 : Int32) (y6 : Int32) : Option (Int32 × Mm) := (ck (1 : Int32) 74 <| (if (M 0 (1 : Int32).toNatClampNeg) ≤ y6 then (b1 (F_X5_asIs M) fun M3 => (if y2 = 0 then some (y4, M3) else (if 0 ≤ y4 then some (y5, M3) else some (y4, M3)))) else (sv (va_up M 12 (upd (M 12) 8 y6)) fun M7 => (b2 (F_X5_comes M7 y1) fun u9 M10 => (if (u9 - y3) ≤ y5 then F_X5_helpful_78 k38 M10 y1 y2 y3 y5 y6 (u9 - y3) y4 else F_X5_helpful_78 k38 M10 y1 y2 y3 y5 y6 (u9 - y3) y6)))))
def F_X5_helpful_38 : Nat → Mm → Int32 → Int32 → Int32 → Int32 → Int32 → Int32 → Option (Int32 × Mm)
  | 0 => fun _ _ _ _ _ _ _ => none
  | n + 1 => F_X5_helpfulB_38 (F_X5_helpful_38 n)
def F_X5_helpful (M : Mm) (x1 : Int32) (x2 : Int32) : Option (Int32 × Mm) := (b1 (F_X5_in x1 (0 : Int32) (15 : Int32)) fun u1 => (if u1 = 0 then some ((-1000001 : Int32), M) else (b1 (F_X5_in x2 (0 : Int32) (1 : Int32)) fun u4 => (if u4 = 0 then some ((-1000001 : Int32), M) else (b2 (F_X5_comes M x1) fun u7 M8 => F_X5_helpful_38 FU M8 x1 x2 u7 (-1000004 : Int32) (0 : Int32) (0 : Int32))))))
def F_X5_withOneMore (M : Mm) (x1 : Int32) (x2 : Int32) : Option (Int32 × Mm) := (b1 (F_X5_in x1 (0 : Int32) (15 : Int32)) fun u1 => (if u1 = 0 then some ((-1000001 : Int32), M) else (b1 (F_X5_isPlace M x2) fun u4 => (if u4 = 0 then some ((-1000001 : Int32), M) else (sv (va_up M 12 (upd (M 12) 9 x2)) fun M7 => (b2 (F_X5_comes M7 x1) fun u9 M10 => (b1 (F_X5_asIs M10) fun M12 => some (u9, M12))))))))
def F_X5_boundsB_4 (k4 : Mm → Int32 → Int32 → Option (Int32)) (M : Mm) (y1 : Int32) (y2 : Int32) : Option (Int32) := (ck (1 : Int32) 74 <| (if (M 0 (1 : Int32).toNatClampNeg) ≤ y2 then some (y1) else (b1 (F_X5_pi M y2 (3 : Int32)) fun u3 => k4 M (y1 + u3) (y2 + 1))))
def F_X5_bounds_4 : Nat → Mm → Int32 → Int32 → Option (Int32)
  | 0 => fun _ _ _ => none
  | n + 1 => F_X5_boundsB_4 (F_X5_bounds_4 n)
def F_X5_bounds (M : Mm) : Option (Int32) := F_X5_bounds_4 FU M (0 : Int32) (0 : Int32)
def F_X5_count (M : Mm) (x1 : Int32) : Option (Int32) := (if x1 = (0 : Int32) then (ck x1 74 <| some ((M 0 x1.toNatClampNeg))) else (if x1 = (1 : Int32) then (ck x1 74 <| some ((M 0 x1.toNatClampNeg))) else (if x1 = (2 : Int32) then (b1 (F_X5_all M) fun u6 => some (u6)) else (if x1 = (3 : Int32) then (b1 (F_X5_bounds M) fun u9 => some (u9)) else (if x1 = (4 : Int32) then some ((M 12 0)) else (if x1 = (5 : Int32) then some ((M 12 1)) else some ((-1000001 : Int32))))))))
def F_X5_undoB_22 (k22 : Mm → Int32 → Option (Int32 × Mm)) (M : Mm) (y1 : Int32) : Option (Int32 × Mm) := (if (74 : Int32) ≤ y1 then some ((M 12 0), M) else (ck (((74 : Int32) * (M 12 0)) + y1) 296 <| (ck y1 74 <| (sv (va_up M 0 (upd (M 0) y1.toNatClampNeg (M 1 (((74 : Int32) * (M 12 0)) + y1).toNatClampNeg))) fun M4 => k22 M4 (y1 + 1)))))
def F_X5_undo_22 : Nat → Mm → Int32 → Option (Int32 × Mm)
  | 0 => fun _ _ => none
  | n + 1 => F_X5_undoB_22 (F_X5_undo_22 n)
def F_X5_undo (M : Mm) : Option (Int32 × Mm) := (if (M 12 0) = 0 then some ((-1000002 : Int32), M) else (sv (va_up M 12 (upd (M 12) 0 ((M 12 0) - (1 : Int32)))) fun M2 => F_X5_undo_22 FU M2 (0 : Int32)))
def F_X5_type (M : Mm) (x1 : Int32) : Option (Int32 × Mm) := (b1 (F_X5_in x1 (32 : Int32) (126 : Int32)) fun u1 => (if u1 = 0 then some ((-1000001 : Int32), M) else (if (M 12 1) = (60 : Int32) then some ((-1000003 : Int32), M) else (ck (M 12 1) 60 <| (sv (va_up M 4 (upd (M 4) (M 12 1).toNatClampNeg (vp_nar .char ((x1.toUInt32 % 65536).toInt32)))) fun M6 => (sv (va_up M6 12 (upd (M6 12) 1 ((M6 12 1) + (1 : Int32)))) fun M8 => some ((M8 12 1), M8)))))))
def F_X5_clearText (M : Mm) : Option (Int32 × Mm) := (sv (va_up M 12 (upd (M 12) 1 (0 : Int32))) fun M1 => some ((M 12 1), M1))
def F_X5_sign (M : Mm) : Option (Int32) := (if (M 12 1) ≤ (M 12 2) then some ((-1 : Int32)) else (ck (M 12 2) 60 <| some ((M 4 (M 12 2).toNatClampNeg))))
def F_X5_readsNumber_72 (M : Mm) (y2 : Int32) : Option (Int32 × Mm) := (if (M 12 2) ≤ y2 then some ((0 : Int32), M) else some ((1 : Int32), M))
def F_X5_readsNumberB_12 (k12 : Mm → Int32 → Int32 → Option (Int32 × Mm)) (M : Mm) (y1 : Int32) (y2 : Int32) : Option (Int32 × Mm) := (b1 (F_X5_sign M) fun u1 => (b1 (F_X5_in u1 (48 : Int32) (57 : Int32)) fun u3 => (if u3 = 0 then F_X5_readsNumber_72 M y2 else (if (y2 + (2 : Int32)) ≤ (M 12 2) then F_X5_readsNumber_72 M y2 else (ck y1 4 <| (b1 (F_X5_sign M) fun u8 => (ck y1 4 <| (sv (va_up M 5 (upd (M 5) y1.toNatClampNeg ((((10 : Int32) * (M 5 y1.toNatClampNeg)) + u8) - (48 : Int32)))) fun M11 => (sv (va_up M11 12 (upd (M11 12) 2 ((M11 12 2) + (1 : Int32)))) fun M13 => k12 M13 y1 y2)))))))))
def F_X5_readsNumber_12 : Nat → Mm → Int32 → Int32 → Option (Int32 × Mm)
  | 0 => fun _ _ _ => none
  | n + 1 => F_X5_readsNumberB_12 (F_X5_readsNumber_12 n)
def F_X5_readsNumber (M : Mm) (x1 : Int32) : Option (Int32 × Mm) := (ck x1 4 <| (sv (va_up M 5 (upd (M 5) x1.toNatClampNeg (0 : Int32))) fun M2 => F_X5_readsNumber_12 FU M2 x1 (M 12 2)))
def F_X5_reads_77 (M : Mm) (y2 : Int32) (s0 : Int32) (s1 : Int32) : Option (Int32 × Mm) := (sv (va_up M 12 (upd (M 12) 2 (s1 + s0))) fun M1 => (cz y2 <| some (y2, M1)))
def F_X5_reads_62 (M : Mm) (s0 : Int32) : Option (Int32 × Mm) := (if s0 = 0 then F_X5_reads_77 M s0 (0 : Int32) (M 12 2) else F_X5_reads_77 M s0 (1 : Int32) (M 12 2))
def F_X5_reads_32 (k2 : Mm → Int32 → Int32 → Option (Int32 × Mm)) (M : Mm) (y1 : Int32) (y2 : Int32) : Option (Int32 × Mm) := (b2 (F_X5_readsNumber M y2) fun u1 M2 => (if u1 = 0 then some ((0 : Int32), M2) else k2 M2 y1 (y2 + 1)))
def F_X5_readsB_2 (k2 : Mm → Int32 → Int32 → Option (Int32 × Mm)) (M : Mm) (y1 : Int32) (y2 : Int32) : Option (Int32 × Mm) := (if y1 ≤ y2 then (b1 (F_X5_sign M) fun u2 => (if u2 = (59 : Int32) then F_X5_reads_62 M (1 : Int32) else F_X5_reads_62 M (0 : Int32))) else (if y2 ≤ 0 then F_X5_reads_32 k2 M y1 y2 else (b1 (F_X5_sign M) fun u6 => (if u6 = (44 : Int32) then (sv (va_up M 12 (upd (M 12) 2 ((M 12 2) + (1 : Int32)))) fun M9 => F_X5_reads_32 k2 M9 y1 y2) else some ((0 : Int32), M)))))
def F_X5_reads_2 : Nat → Mm → Int32 → Int32 → Option (Int32 × Mm)
  | 0 => fun _ _ _ => none
  | n + 1 => F_X5_readsB_2 (F_X5_reads_2 n)
def F_X5_reads (M : Mm) (x1 : Int32) : Option (Int32 × Mm) := F_X5_reads_2 FU M x1 (0 : Int32)
def F_X5_isRight_57 (M : Mm) (s0 : Int32) (s1 : Int32) (s2 : Int32) : Option (Int32) := (b1 (F_X5_in s2 s1 s0) fun u1 => (cz u1 <| some (u1)))
def F_X5_isRight_117 (M : Mm) (s0 : Int32) (s1 : Int32) (s2 : Int32) : Option (Int32) := (b1 (F_X5_in s2 s1 s0) fun u1 => (cz u1 <| some (u1)))
def F_X5_isRight (M : Mm) (x1 : Int32) (x2 : Int32) : Option (Int32) := (ck x2 4 <| (if x1 = (104 : Int32) then (if x2 = 0 then F_X5_isRight_57 M (20 : Int32) (0 : Int32) (M 5 x2.toNatClampNeg) else F_X5_isRight_57 M (40 : Int32) (0 : Int32) (M 5 x2.toNatClampNeg)) else (if x1 = (111 : Int32) then (if x2 = 0 then (b1 (F_X5_isPipe M (M 5 x2.toNatClampNeg)) fun u9 => (cz u9 <| some (u9))) else (b1 (F_X5_in (M 5 x2.toNatClampNeg) (0 : Int32) (15 : Int32)) fun u6 => (cz u6 <| some (u6)))) else (if x1 = (112 : Int32) then (if x2 = 0 then (b1 (F_X5_isPlace M (M 5 x2.toNatClampNeg)) fun u21 => (cz u21 <| some (u21))) else (if x2 = (1 : Int32) then (b1 (F_X5_isPlace M (M 5 x2.toNatClampNeg)) fun u16 => (if u16 = 0 then some ((0 : Int32)) else (ck (0 : Int32) 4 <| (if (M 5 x2.toNatClampNeg) = (M 5 (0 : Int32).toNatClampNeg) then some ((0 : Int32)) else some ((1 : Int32)))))) else (if x2 = (2 : Int32) then F_X5_isRight_117 M (4 : Int32) (1 : Int32) (M 5 x2.toNatClampNeg) else F_X5_isRight_117 M (9 : Int32) (1 : Int32) (M 5 x2.toNatClampNeg)))) else (if x2 = 0 then (b1 (F_X5_isPlace M (M 5 x2.toNatClampNeg)) fun u28 => (cz u28 <| some (u28))) else (b1 (F_X5_in (M 5 x2.toNatClampNeg) (0 : Int32) (20 : Int32)) fun u25 => (cz u25 <| some (u25))))))))
def F_X5_does (M : Mm) (x1 : Int32) : Option (Int32 × Mm) := (if x1 = (104 : Int32) then (ck (0 : Int32) 4 <| (ck (1 : Int32) 4 <| (b2 (F_X5_adds M (M 5 (0 : Int32).toNatClampNeg) (M 5 (1 : Int32).toNatClampNeg)) fun u4 M5 => some (u4, M5)))) else (if x1 = (111 : Int32) then (ck (0 : Int32) 4 <| (ck (1 : Int32) 4 <| (ck (2 : Int32) 4 <| (b2 (F_X5_opens M (M 5 (0 : Int32).toNatClampNeg) (M 5 (1 : Int32).toNatClampNeg) (M 5 (2 : Int32).toNatClampNeg)) fun u11 M12 => some (u11, M12))))) else (if x1 = (112 : Int32) then (ck (0 : Int32) 4 <| (ck (1 : Int32) 4 <| (ck (2 : Int32) 4 <| (ck (3 : Int32) 4 <| (b2 (F_X5_lays M (M 5 (0 : Int32).toNatClampNeg) (M 5 (1 : Int32).toNatClampNeg) (M 5 (2 : Int32).toNatClampNeg) (M 5 (3 : Int32).toNatClampNeg)) fun u19 M20 => some (u19, M20)))))) else (ck (0 : Int32) 4 <| (ck (1 : Int32) 4 <| (b2 (F_X5_becomes M ((2 : Int32) + ((2 : Int32) * (M 5 (0 : Int32).toNatClampNeg))) (M 5 (1 : Int32).toNatClampNeg)) fun u24 M25 => some (u24, M25)))))))
def F_X5_doesNext_78 (M : Mm) (y1 : Int32) : Option (Int32 × Mm) := (sv (va_up M 12 (upd (M 12) 4 ((M 12 2) - y1))) fun M1 => some ((1 : Int32), M1))
def F_X5_doesNextB_93 (k93 : Mm → Int32 → Int32 → Int32 → Option (Int32 × Mm)) (M : Mm) (y2 : Int32) (y3 : Int32) (y4 : Int32) : Option (Int32 × Mm) := (if y3 ≤ y4 then (sv (va_up M 12 (upd (M 12) 4 (-1000004 : Int32))) fun M2 => (b2 (F_X5_does M2 y2) fun u4 M5 => (if u4 = (-1000003 : Int32) then some ((3 : Int32), M5) else some ((0 : Int32), M5)))) else (b1 (F_X5_isRight M y2 y4) fun u8 => (if u8 = 0 then (sv (va_up M 12 (upd (M 12) 4 y4)) fun M11 => some ((2 : Int32), M11)) else k93 M y2 y3 (y4 + 1))))
def F_X5_doesNext_93 : Nat → Mm → Int32 → Int32 → Int32 → Option (Int32 × Mm)
  | 0 => fun _ _ _ _ => none
  | n + 1 => F_X5_doesNextB_93 (F_X5_doesNext_93 n)
def F_X5_doesNext_62 (M : Mm) (y1 : Int32) (y2 : Int32) (y3 : Int32) (s0 : Int32) (s1 : Int32) : Option (Int32 × Mm) := (sv (va_up M 12 (upd (M 12) 2 (s1 + s0))) fun M1 => (if y3 = 0 then F_X5_doesNext_78 M1 y1 else (b2 (F_X5_reads M1 y3) fun u4 M5 => (if u4 = 0 then F_X5_doesNext_78 M5 y1 else F_X5_doesNext_93 FU M5 y2 y3 (0 : Int32)))))
def F_X5_doesNext_47 (M : Mm) (y1 : Int32) (y2 : Int32) (s0 : Int32) : Option (Int32 × Mm) := (if s0 ≤ 0 then F_X5_doesNext_62 M y1 y2 s0 (0 : Int32) (M 12 2) else F_X5_doesNext_62 M y1 y2 s0 (1 : Int32) (M 12 2))
def F_X5_doesNext_22 (M : Mm) (y1 : Int32) (y2 : Int32) : Option (Int32 × Mm) := F_X5_doesNext_47 M y1 y2 (2 : Int32)
def F_X5_doesNext (M : Mm) : Option (Int32 × Mm) := (b1 (F_X5_sign M) fun u1 => (if u1 = (104 : Int32) then F_X5_doesNext_22 M (M 12 2) u1 else (if u1 = (117 : Int32) then F_X5_doesNext_22 M (M 12 2) u1 else (if u1 = (111 : Int32) then F_X5_doesNext_47 M (M 12 2) u1 (3 : Int32) else (if u1 = (112 : Int32) then F_X5_doesNext_47 M (M 12 2) u1 (4 : Int32) else F_X5_doesNext_47 M (M 12 2) u1 (0 : Int32))))))
def F_X5_faultyB_82 (k82 : Mm → Int32 → Int32 → Option (Int32 × Mm)) (M : Mm) (y1 : Int32) (y2 : Int32) : Option (Int32 × Mm) := (if (74 : Int32) ≤ y2 then some (y1, M) else (ck y2 74 <| (ck y2 74 <| (sv (va_up M 0 (upd (M 0) y2.toNatClampNeg (M 3 y2.toNatClampNeg))) fun M4 => k82 M4 y1 (y2 + 1)))))
def F_X5_faulty_82 : Nat → Mm → Int32 → Int32 → Option (Int32 × Mm)
  | 0 => fun _ _ _ => none
  | n + 1 => F_X5_faultyB_82 (F_X5_faulty_82 n)
def F_X5_faultyB_34 (k34 : Mm → Int32 → Option (Int32 × Mm)) (M : Mm) (y1 : Int32) : Option (Int32 × Mm) := (if (M 12 1) ≤ (M 12 2) then F_X5_faulty_82 FU M y1 (0 : Int32) else (if y1 = (-1000004 : Int32) then (b2 (F_X5_doesNext M) fun u3 M4 => (sv (va_up M4 12 (upd (M4 12) 3 u3)) fun M6 => (if (M6 12 3) ≤ 0 then k34 M6 y1 else k34 M6 (M 12 2)))) else F_X5_faulty_82 FU M y1 (0 : Int32)))
def F_X5_faulty_34 : Nat → Mm → Int32 → Option (Int32 × Mm)
  | 0 => fun _ _ => none
  | n + 1 => F_X5_faultyB_34 (F_X5_faulty_34 n)
def F_X5_faultyB_2 (k2 : Mm → Int32 → Option (Int32 × Mm)) (M : Mm) (y1 : Int32) : Option (Int32 × Mm) := (if (74 : Int32) ≤ y1 then (sv (va_up M 12 (upd (M 12) 2 (0 : Int32))) fun M2 => F_X5_faulty_34 FU M2 (-1000004 : Int32)) else (ck y1 74 <| (ck y1 74 <| (sv (va_up M 3 (upd (M 3) y1.toNatClampNeg (M 0 y1.toNatClampNeg))) fun M6 => k2 M6 (y1 + 1)))))
def F_X5_faulty_2 : Nat → Mm → Int32 → Option (Int32 × Mm)
  | 0 => fun _ _ => none
  | n + 1 => F_X5_faultyB_2 (F_X5_faulty_2 n)
def F_X5_faulty (M : Mm) : Option (Int32 × Mm) := F_X5_faulty_2 FU M (0 : Int32)
def F_X5_fault (M : Mm) (x1 : Int32) : Option (Int32 × Mm) := (b1 (F_X5_in x1 (0 : Int32) (2 : Int32)) fun u1 => (if u1 = 0 then some ((-1000001 : Int32), M) else (b2 (F_X5_faulty M) fun u4 M5 => (if u4 = (-1000004 : Int32) then some (u4, M5) else (if x1 = 0 then some (u4, M5) else (if x1 = (1 : Int32) then some ((M5 12 3), M5) else some ((M5 12 4), M5)))))))
def F_X5_playB_23 (k23 : Mm → Int32 → Option (Int32 × Mm)) (M : Mm) (y1 : Int32) : Option (Int32 × Mm) := (if (M 12 1) ≤ (M 12 2) then (b2 (F_X5_acted M y1) fun u2 M3 => some (u2, M3)) else (b2 (F_X5_doesNext M) fun u5 M6 => (if u5 = 0 then k23 M6 (y1 + (1 : Int32)) else k23 M6 (y1 + (0 : Int32)))))
def F_X5_play_23 : Nat → Mm → Int32 → Option (Int32 × Mm)
  | 0 => fun _ _ => none
  | n + 1 => F_X5_playB_23 (F_X5_play_23 n)
def F_X5_play (M : Mm) : Option (Int32 × Mm) := (b2 (F_X5_faulty M) fun u1 M2 => (if u1 = (-1000004 : Int32) then (b1 (F_X5_keeps M2) fun M5 => (sv (va_up M5 12 (upd (M5 12) 2 (0 : Int32))) fun M7 => F_X5_play_23 FU M7 (0 : Int32))) else some ((-1000002 : Int32), M2)))
end
section
theorem dX5_in_0 : decode cX5_in 0 = .ok (.iload_n 0, 1) := by decide +kernel
theorem dX5_in_1 : decode cX5_in 1 = .ok (.iload_n 1, 1) := by decide +kernel
theorem dX5_in_2 : decode cX5_in 2 = .ok (.if_icmp .lt 12, 3) := by decide +kernel
theorem dX5_in_5 : decode cX5_in 5 = .ok (.iload_n 0, 1) := by decide +kernel
theorem dX5_in_6 : decode cX5_in 6 = .ok (.iload_n 2, 1) := by decide +kernel
theorem dX5_in_7 : decode cX5_in 7 = .ok (.if_icmp .gt 7, 3) := by decide +kernel
theorem dX5_in_10 : decode cX5_in 10 = .ok (.iconst 1, 1) := by decide +kernel
theorem dX5_in_11 : decode cX5_in 11 = .ok (.goto 4, 3) := by decide +kernel
theorem dX5_in_14 : decode cX5_in 14 = .ok (.iconst 0, 1) := by decide +kernel
theorem dX5_in_15 : decode cX5_in 15 = .ok (.ireturn, 1) := by decide +kernel
set_option maxHeartbeats 4000000 in
set_option maxRecDepth 100000 in
theorem c_X5_in (l : Launch) (D : va_G) (cI cC cO : ClassId) (x0 x1 x2 : Int32) (res : Int32) (sz : Nat) (h : F_X5_in x0 x1 x2 = some res) : Met l yX5_in (Cond.code yX5_in cX5_in 3 (Option.some Jvm.ClassFile.FieldType.boolean) :: lw_g) ({ frames := 0, cells := 0, slots := 0, locals := 0 } : Room) (va_Pc [.int x0, .int x1, .int x2] (pS D cI cC cO sz ([] : va_W))) (QI D cI cC cO (va_A ([] : va_W) sz) ([] : va_W) res) 0 0 (va_A ([] : va_W) sz) := by
  refine Met.ofW (cc := cX5_in) (maxL := 3) (ret := (Option.some Jvm.ClassFile.FieldType.boolean)) (by decide) rfl ?_
  intro p e s m args below meth c s₁ B hml hv
  obtain ⟨rfl, rfl, hP, hK, hD0, hN⟩ := hv
  have hx := B.exec
  have hb := B.bytes
  have hr := B.returns
  have ht : ∀ w ∈ lw_g, w.before ([.int x0, .int x1, .int x2] : List Value).toArray s = true := fun w hw => atoms_spec (ws := Cond.code yX5_in cX5_in 3 (Option.some Jvm.ClassFile.FieldType.boolean) :: lw_g) B.pre w (List.mem_cons_of_mem _ hw)
  have hown : s.vm.findClass RX5 = some m.cls := findClass_of_methodNamed B.named
  have hlocks := B.notSynchronized
  have hD := hD0.self (sz := s.heap.size)
  generalize hAe : va_A ([] : va_W) s.heap.size = A at hD ⊢
  have hA : ∀ q : Nat, s.heap.size ≤ q → A q := fun q hq => by rw [← hAe]; exact Or.inr hq
  have hS : va_S A s.heap s.heap [] := va_S.rf
  have hl := lv_entry ([.int x0, .int x1, .int x2]) (n := 3) (Nat.le_of_ble_eq_true rfl)
  rw [lg_entry_eq]
  generalize (lg_sl ([.int x0, .int x1, .int x2]) ++ List.replicate (3 - (lg_sl ([.int x0, .int x1, .int x2])).length) Slot.unset).toArray = ls at hl ⊢
  have hl : lv_has ls 3 [(0, .int x0), (1, .int x1), (2, .int x2)] := hl
  unfold F_X5_in at h
  refine lv_iload_n hx hb dX5_in_0 rfl (lv_at hl 0 rfl) ?_
  refine lv_iload_n hx hb dX5_in_1 rfl (lv_at hl 1 rfl) ?_
  refine lv_icmp_lt (tgt := 14) hx hb dX5_in_2 (by decide) (fun c1 => ?_) (fun c1 => ?_)
  · replace h := fp c1 h
    refine lv_iconst (v := (0 : Int32)) hx hb dX5_in_14 (by decide) ?_
    cases h
    exact rt_z (v := (0 : Int32)) hx hb hr rfl hlocks hS hP hK hD dX5_in_15
  · replace h := fn c1 h
    refine lv_iload_n hx hb dX5_in_5 rfl (lv_at hl 0 rfl) ?_
    refine lv_iload_n hx hb dX5_in_6 rfl (lv_at hl 2 rfl) ?_
    refine lv_icmp_gt (tgt := 14) hx hb dX5_in_7 (by decide) (fun c2 => ?_) (fun c2 => ?_)
    · replace h := fp c2 h
      refine lv_iconst (v := (0 : Int32)) hx hb dX5_in_14 (by decide) ?_
      cases h
      exact rt_z (v := (0 : Int32)) hx hb hr rfl hlocks hS hP hK hD dX5_in_15
    · replace h := fn c2 h
      refine lv_iconst (v := (1 : Int32)) hx hb dX5_in_10 (by decide) ?_
      refine lv_goto (tgt := 15) hx hb dX5_in_11 (by decide) ?_
      cases h
      exact rt_z (v := (1 : Int32)) hx hb hr rfl hlocks hS hP hK hD dX5_in_15
theorem dX5_asIs_0 : decode cX5_asIs 0 = .ok (.aload_n 0, 1) := by decide +kernel
theorem dX5_asIs_1 : decode cX5_asIs 1 = .ok (.iconst (-1), 1) := by decide +kernel
theorem dX5_asIs_2 : decode cX5_asIs 2 = .ok (.putfield 50, 3) := by decide +kernel
theorem dX5_asIs_5 : decode cX5_asIs 5 = .ok (.aload_n 0, 1) := by decide +kernel
theorem dX5_asIs_6 : decode cX5_asIs 6 = .ok (.iconst (-1), 1) := by decide +kernel
theorem dX5_asIs_7 : decode cX5_asIs 7 = .ok (.putfield 54, 3) := by decide +kernel
theorem dX5_asIs_10 : decode cX5_asIs 10 = .ok (.aload_n 0, 1) := by decide +kernel
theorem dX5_asIs_11 : decode cX5_asIs 11 = .ok (.iconst (-1), 1) := by decide +kernel
theorem dX5_asIs_12 : decode cX5_asIs 12 = .ok (.putfield 57, 3) := by decide +kernel
theorem dX5_asIs_15 : decode cX5_asIs 15 = .ok (.aload_n 0, 1) := by decide +kernel
theorem dX5_asIs_16 : decode cX5_asIs 16 = .ok (.iconst (-1), 1) := by decide +kernel
theorem dX5_asIs_17 : decode cX5_asIs 17 = .ok (.putfield 60, 3) := by decide +kernel
theorem dX5_asIs_20 : decode cX5_asIs 20 = .ok (.return_, 1) := by decide +kernel
set_option maxHeartbeats 4000000 in
set_option maxRecDepth 100000 in
theorem c_X5_asIs (l : Launch) (D : va_G) (cI cC cO : ClassId) (a : Nat → Nat) (M : Mm) (res : Mm) (sz : Nat) (h : F_X5_asIs M = some res) : Met l yX5_asIs (Cond.code yX5_asIs cX5_asIs 1 (Option.none : Option Jvm.ClassFile.FieldType) :: lw_g) ({ frames := 0, cells := 0, slots := 0, locals := 0 } : Room) (va_Pc [.ref (a 0)] (pS D cI cC cO sz (wX5 a cI cC cO M))) (QV D cI cC cO (va_A (wX5 a cI cC cO M) sz) (wX5 a cI cC cO res)) 0 0 (va_A (wX5 a cI cC cO M) sz) := by
  refine Met.ofW (cc := cX5_asIs) (maxL := 1) (ret := (Option.none : Option Jvm.ClassFile.FieldType)) (by decide) rfl ?_
  intro p e s m args below meth c s₁ B hml hv
  obtain ⟨rfl, rfl, hP, hK, hD0, hN⟩ := hv
  have hx := B.exec
  have hb := B.bytes
  have hr := B.returns
  have ht : ∀ w ∈ lw_g, w.before ([.ref (a 0)] : List Value).toArray s = true := fun w hw => atoms_spec (ws := Cond.code yX5_asIs cX5_asIs 1 (Option.none : Option Jvm.ClassFile.FieldType) :: lw_g) B.pre w (List.mem_cons_of_mem _ hw)
  have hown : s.vm.findClass RX5 = some m.cls := findClass_of_methodNamed B.named
  have hlocks := B.notSynchronized
  have hD := hD0.self (sz := s.heap.size)
  generalize hAe : va_A (wX5 a cI cC cO M) s.heap.size = A at hD ⊢
  have hA : ∀ q : Nat, s.heap.size ≤ q → A q := fun q hq => by rw [← hAe]; exact Or.inr hq
  have hS : va_S A s.heap s.heap [] := va_S.rf
  have hl := lv_entry ([.ref (a 0)]) (n := 1) (Nat.le_of_ble_eq_true rfl)
  rw [lg_entry_eq]
  generalize (lg_sl ([.ref (a 0)]) ++ List.replicate (1 - (lg_sl ([.ref (a 0)])).length) Slot.unset).toArray = ls at hl ⊢
  have hl : lv_has ls 1 [(0, .ref (a 0))] := hl
  unfold F_X5_asIs at h
  refine lv_aload_n hx hb dX5_asIs_0 rfl (lv_at hl 0 rfl) ?_
  refine lv_iconst (v := (-1 : Int32)) hx hb dX5_asIs_1 (by decide) ?_
  refine va_put (D := D) (ci := 5) (v := .int (-1 : Int32)) (ty := .int) (C := RX5) (T := TX5) (N := 23) hx hb ht i_X5 tyX5 tyX5_ok nmX5 hown hK hP hD hS 0 rfl rfl 19 (by decide) (ht _ wd_555) (fun _ h9 => h9) rfl (by decide +kernel) rfl rfl (Nat.le_of_ble_eq_true rfl) dX5_asIs_2 (fun H locs hP hD hS => ?_)
  obtain ⟨M1, e2, h⟩ := sv_ok h
  have hP : va_P D classes (wX5 a cI cC cO M1) H := by rw [← e2]; exact hP
  have hD : va_D A (wX5 a cI cC cO M1) := by rw [← e2]; exact hD
  refine lv_aload_n hx hb dX5_asIs_5 rfl (lv_at hl 0 rfl) ?_
  refine lv_iconst (v := (-1 : Int32)) hx hb dX5_asIs_6 (by decide) ?_
  refine va_put (D := D) (ci := 5) (v := .int (-1 : Int32)) (ty := .int) (C := RX5) (T := TX5) (N := 23) hx hb ht i_X5 tyX5 tyX5_ok nmX5 hown hK hP hD hS 0 rfl rfl 20 (by decide) (ht _ wd_556) (fun _ h9 => h9) rfl (by decide +kernel) rfl rfl (Nat.le_of_ble_eq_true rfl) dX5_asIs_7 (fun H locs hP hD hS => ?_)
  obtain ⟨M3, e4, h⟩ := sv_ok h
  have hP : va_P D classes (wX5 a cI cC cO M3) H := by rw [← e4]; exact hP
  have hD : va_D A (wX5 a cI cC cO M3) := by rw [← e4]; exact hD
  refine lv_aload_n hx hb dX5_asIs_10 rfl (lv_at hl 0 rfl) ?_
  refine lv_iconst (v := (-1 : Int32)) hx hb dX5_asIs_11 (by decide) ?_
  refine va_put (D := D) (ci := 5) (v := .int (-1 : Int32)) (ty := .int) (C := RX5) (T := TX5) (N := 23) hx hb ht i_X5 tyX5 tyX5_ok nmX5 hown hK hP hD hS 0 rfl rfl 21 (by decide) (ht _ wd_557) (fun _ h9 => h9) rfl (by decide +kernel) rfl rfl (Nat.le_of_ble_eq_true rfl) dX5_asIs_12 (fun H locs hP hD hS => ?_)
  obtain ⟨M5, e6, h⟩ := sv_ok h
  have hP : va_P D classes (wX5 a cI cC cO M5) H := by rw [← e6]; exact hP
  have hD : va_D A (wX5 a cI cC cO M5) := by rw [← e6]; exact hD
  refine lv_aload_n hx hb dX5_asIs_15 rfl (lv_at hl 0 rfl) ?_
  refine lv_iconst (v := (-1 : Int32)) hx hb dX5_asIs_16 (by decide) ?_
  refine va_put (D := D) (ci := 5) (v := .int (-1 : Int32)) (ty := .int) (C := RX5) (T := TX5) (N := 23) hx hb ht i_X5 tyX5 tyX5_ok nmX5 hown hK hP hD hS 0 rfl rfl 22 (by decide) (ht _ wd_558) (fun _ h9 => h9) rfl (by decide +kernel) rfl rfl (Nat.le_of_ble_eq_true rfl) dX5_asIs_17 (fun H locs hP hD hS => ?_)
  obtain ⟨M7, e8, h⟩ := sv_ok h
  have hP : va_P D classes (wX5 a cI cC cO M7) H := by rw [← e8]; exact hP
  have hD : va_D A (wX5 a cI cC cO M7) := by rw [← e8]; exact hD
  cases h
  exact rt_v hx hb hr hlocks hS hP hK hD dX5_asIs_20
theorem dX5_isPlace_0 : decode cX5_isPlace 0 = .ok (.iload_n 1, 1) := by decide +kernel
theorem dX5_isPlace_1 : decode cX5_isPlace 1 = .ok (.iconst 0, 1) := by decide +kernel
theorem dX5_isPlace_2 : decode cX5_isPlace 2 = .ok (.aload_n 0, 1) := by decide +kernel
theorem dX5_isPlace_3 : decode cX5_isPlace 3 = .ok (.getfield 7, 3) := by decide +kernel
theorem dX5_isPlace_6 : decode cX5_isPlace 6 = .ok (.iconst 0, 1) := by decide +kernel
theorem dX5_isPlace_7 : decode cX5_isPlace 7 = .ok (.iaload, 1) := by decide +kernel
theorem dX5_isPlace_8 : decode cX5_isPlace 8 = .ok (.iconst 1, 1) := by decide +kernel
theorem dX5_isPlace_9 : decode cX5_isPlace 9 = .ok (.isub, 1) := by decide +kernel
theorem dX5_isPlace_10 : decode cX5_isPlace 10 = .ok (.invokestatic 63, 3) := by decide +kernel
theorem dX5_isPlace_13 : decode cX5_isPlace 13 = .ok (.ireturn, 1) := by decide +kernel
set_option maxHeartbeats 4000000 in
set_option maxRecDepth 100000 in
theorem c_X5_isPlace (l : Launch) (D : va_G) (cI cC cO : ClassId) (a : Nat → Nat) (M : Mm) (x1 : Int32) (res : Int32) (sz : Nat) (h : F_X5_isPlace M x1 = some res) : Met l yX5_isPlace (Cond.code yX5_isPlace cX5_isPlace 2 (Option.some Jvm.ClassFile.FieldType.boolean) :: lw_g) ({ frames := 1, cells := 0, slots := 0, locals := 22 } : Room) (va_Pc [.ref (a 0), .int x1] (pS D cI cC cO sz (wX5 a cI cC cO M))) (QI D cI cC cO (va_A (wX5 a cI cC cO M) sz) (wX5 a cI cC cO M) res) 0 0 (va_A (wX5 a cI cC cO M) sz) := by
  refine Met.ofW (cc := cX5_isPlace) (maxL := 2) (ret := (Option.some Jvm.ClassFile.FieldType.boolean)) (by decide) rfl ?_
  intro p e s m args below meth c s₁ B hml hv
  obtain ⟨rfl, rfl, hP, hK, hD0, hN⟩ := hv
  have hx := B.exec
  have hb := B.bytes
  have hr := B.returns
  have ht : ∀ w ∈ lw_g, w.before ([.ref (a 0), .int x1] : List Value).toArray s = true := fun w hw => atoms_spec (ws := Cond.code yX5_isPlace cX5_isPlace 2 (Option.some Jvm.ClassFile.FieldType.boolean) :: lw_g) B.pre w (List.mem_cons_of_mem _ hw)
  have hown : s.vm.findClass RX5 = some m.cls := findClass_of_methodNamed B.named
  have hlocks := B.notSynchronized
  have hD := hD0.self (sz := s.heap.size)
  generalize hAe : va_A (wX5 a cI cC cO M) s.heap.size = A at hD ⊢
  have hA : ∀ q : Nat, s.heap.size ≤ q → A q := fun q hq => by rw [← hAe]; exact Or.inr hq
  have hS : va_S A s.heap s.heap [] := va_S.rf
  have hl := lv_entry ([.ref (a 0), .int x1]) (n := 2) (Nat.le_of_ble_eq_true rfl)
  rw [lg_entry_eq]
  generalize (lg_sl ([.ref (a 0), .int x1]) ++ List.replicate (2 - (lg_sl ([.ref (a 0), .int x1])).length) Slot.unset).toArray = ls at hl ⊢
  have hl : lv_has ls 2 [(0, .ref (a 0)), (1, .int x1)] := hl
  unfold F_X5_isPlace at h
  refine lv_iload_n hx hb dX5_isPlace_0 rfl (lv_at hl 1 rfl) ?_
  refine lv_iconst (v := (0 : Int32)) hx hb dX5_isPlace_1 (by decide) ?_
  refine lv_aload_n hx hb dX5_isPlace_2 rfl (lv_at hl 0 rfl) ?_
  refine va_get (D := D) (ci := 5) (v := .ref (a 1)) (C := RX5) (T := TX5) (N := 23) hx hb ht i_X5 hown hK hP 0 rfl rfl 0 (by decide) (ht _ wd_536) (fun _ h9 => h9) rfl dX5_isPlace_3 ?_
  refine lv_iconst (v := (0 : Int32)) hx hb dX5_isPlace_6 (by decide) ?_
  obtain ⟨i1, h⟩ := ck_ok h
  refine va_iald hx hb hK hP 1 0 rfl rfl i1 dX5_isPlace_7 ?_
  refine lv_iconst (v := (1 : Int32)) hx hb dX5_isPlace_8 (by decide) ?_
  refine lv_isub hx hb dX5_isPlace_9 ?_
  obtain ⟨u2, e3, h⟩ := b1_ok h
  refine cl_Si (ws' := (wX5 a cI cC cO M)) ⟨hx, hb, hml, hown, ht⟩ (c_X5_in l D cI cC cO x1 (0 : Int32) ((M 0 (0 : Int32).toNatClampNeg) - (1 : Int32)) _ _ e3) (cwst 3 ht wd_612 wd_6 wd_610 wd_611 (by decide +kernel) rfl rfl ⟨Nat.le_of_ble_eq_true rfl, Nat.le_of_ble_eq_true rfl⟩) hK hP hD hS hA hN [] [0, 1, 2, 3, 4, 5, 6, 7, 8, 9, 10, 11, 12] [0, 1, 2, 3, 4, 5, 6, 7, 8, 9, 10, 11, 12] (by decide) rfl rfl (by decide) (by decide) rfl (by decide) rfl hl.1 rfl (Nat.le_of_ble_eq_true rfl) dX5_isPlace_10 ⟨Nat.le_of_ble_eq_true rfl, Nat.le_of_ble_eq_true rfl⟩ (fun H locs hP hD hS => ?_)
  obtain ⟨z4, h⟩ := cz_ok h
  cases h
  exact rt_z hx hb hr (nz z4) hlocks hS hP hK hD dX5_isPlace_13
theorem dX5_isPipe_0 : decode cX5_isPipe 0 = .ok (.iload_n 1, 1) := by decide +kernel
theorem dX5_isPipe_1 : decode cX5_isPipe 1 = .ok (.iconst 0, 1) := by decide +kernel
theorem dX5_isPipe_2 : decode cX5_isPipe 2 = .ok (.aload_n 0, 1) := by decide +kernel
theorem dX5_isPipe_3 : decode cX5_isPipe 3 = .ok (.getfield 7, 3) := by decide +kernel
theorem dX5_isPipe_6 : decode cX5_isPipe 6 = .ok (.iconst 1, 1) := by decide +kernel
theorem dX5_isPipe_7 : decode cX5_isPipe 7 = .ok (.iaload, 1) := by decide +kernel
theorem dX5_isPipe_8 : decode cX5_isPipe 8 = .ok (.iconst 1, 1) := by decide +kernel
theorem dX5_isPipe_9 : decode cX5_isPipe 9 = .ok (.isub, 1) := by decide +kernel
theorem dX5_isPipe_10 : decode cX5_isPipe 10 = .ok (.invokestatic 63, 3) := by decide +kernel
theorem dX5_isPipe_13 : decode cX5_isPipe 13 = .ok (.ireturn, 1) := by decide +kernel
set_option maxHeartbeats 4000000 in
set_option maxRecDepth 100000 in
theorem c_X5_isPipe (l : Launch) (D : va_G) (cI cC cO : ClassId) (a : Nat → Nat) (M : Mm) (x1 : Int32) (res : Int32) (sz : Nat) (h : F_X5_isPipe M x1 = some res) : Met l yX5_isPipe (Cond.code yX5_isPipe cX5_isPipe 2 (Option.some Jvm.ClassFile.FieldType.boolean) :: lw_g) ({ frames := 1, cells := 0, slots := 0, locals := 22 } : Room) (va_Pc [.ref (a 0), .int x1] (pS D cI cC cO sz (wX5 a cI cC cO M))) (QI D cI cC cO (va_A (wX5 a cI cC cO M) sz) (wX5 a cI cC cO M) res) 0 0 (va_A (wX5 a cI cC cO M) sz) := by
  refine Met.ofW (cc := cX5_isPipe) (maxL := 2) (ret := (Option.some Jvm.ClassFile.FieldType.boolean)) (by decide) rfl ?_
  intro p e s m args below meth c s₁ B hml hv
  obtain ⟨rfl, rfl, hP, hK, hD0, hN⟩ := hv
  have hx := B.exec
  have hb := B.bytes
  have hr := B.returns
  have ht : ∀ w ∈ lw_g, w.before ([.ref (a 0), .int x1] : List Value).toArray s = true := fun w hw => atoms_spec (ws := Cond.code yX5_isPipe cX5_isPipe 2 (Option.some Jvm.ClassFile.FieldType.boolean) :: lw_g) B.pre w (List.mem_cons_of_mem _ hw)
  have hown : s.vm.findClass RX5 = some m.cls := findClass_of_methodNamed B.named
  have hlocks := B.notSynchronized
  have hD := hD0.self (sz := s.heap.size)
  generalize hAe : va_A (wX5 a cI cC cO M) s.heap.size = A at hD ⊢
  have hA : ∀ q : Nat, s.heap.size ≤ q → A q := fun q hq => by rw [← hAe]; exact Or.inr hq
  have hS : va_S A s.heap s.heap [] := va_S.rf
  have hl := lv_entry ([.ref (a 0), .int x1]) (n := 2) (Nat.le_of_ble_eq_true rfl)
  rw [lg_entry_eq]
  generalize (lg_sl ([.ref (a 0), .int x1]) ++ List.replicate (2 - (lg_sl ([.ref (a 0), .int x1])).length) Slot.unset).toArray = ls at hl ⊢
  have hl : lv_has ls 2 [(0, .ref (a 0)), (1, .int x1)] := hl
  unfold F_X5_isPipe at h
  refine lv_iload_n hx hb dX5_isPipe_0 rfl (lv_at hl 1 rfl) ?_
  refine lv_iconst (v := (0 : Int32)) hx hb dX5_isPipe_1 (by decide) ?_
  refine lv_aload_n hx hb dX5_isPipe_2 rfl (lv_at hl 0 rfl) ?_
  refine va_get (D := D) (ci := 5) (v := .ref (a 1)) (C := RX5) (T := TX5) (N := 23) hx hb ht i_X5 hown hK hP 0 rfl rfl 0 (by decide) (ht _ wd_536) (fun _ h9 => h9) rfl dX5_isPipe_3 ?_
  refine lv_iconst (v := (1 : Int32)) hx hb dX5_isPipe_6 (by decide) ?_
  obtain ⟨i1, h⟩ := ck_ok h
  refine va_iald hx hb hK hP 1 0 rfl rfl i1 dX5_isPipe_7 ?_
  refine lv_iconst (v := (1 : Int32)) hx hb dX5_isPipe_8 (by decide) ?_
  refine lv_isub hx hb dX5_isPipe_9 ?_
  obtain ⟨u2, e3, h⟩ := b1_ok h
  refine cl_Si (ws' := (wX5 a cI cC cO M)) ⟨hx, hb, hml, hown, ht⟩ (c_X5_in l D cI cC cO x1 (0 : Int32) ((M 0 (1 : Int32).toNatClampNeg) - (1 : Int32)) _ _ e3) (cwst 3 ht wd_612 wd_6 wd_610 wd_611 (by decide +kernel) rfl rfl ⟨Nat.le_of_ble_eq_true rfl, Nat.le_of_ble_eq_true rfl⟩) hK hP hD hS hA hN [] [0, 1, 2, 3, 4, 5, 6, 7, 8, 9, 10, 11, 12] [0, 1, 2, 3, 4, 5, 6, 7, 8, 9, 10, 11, 12] (by decide) rfl rfl (by decide) (by decide) rfl (by decide) rfl hl.1 rfl (Nat.le_of_ble_eq_true rfl) dX5_isPipe_10 ⟨Nat.le_of_ble_eq_true rfl, Nat.le_of_ble_eq_true rfl⟩ (fun H locs hP hD hS => ?_)
  obtain ⟨z4, h⟩ := cz_ok h
  cases h
  exact rt_z hx hb hr (nz z4) hlocks hS hP hK hD dX5_isPipe_13
theorem dX5_pi_0 : decode cX5_pi 0 = .ok (.aload_n 0, 1) := by decide +kernel
theorem dX5_pi_1 : decode cX5_pi 1 = .ok (.getfield 7, 3) := by decide +kernel
theorem dX5_pi_4 : decode cX5_pi 4 = .ok (.bipush 14, 2) := by decide +kernel
theorem dX5_pi_6 : decode cX5_pi 6 = .ok (.bipush 6, 2) := by decide +kernel
theorem dX5_pi_8 : decode cX5_pi 8 = .ok (.iload_n 1, 1) := by decide +kernel
theorem dX5_pi_9 : decode cX5_pi 9 = .ok (.imul, 1) := by decide +kernel
theorem dX5_pi_10 : decode cX5_pi 10 = .ok (.iadd, 1) := by decide +kernel
theorem dX5_pi_11 : decode cX5_pi 11 = .ok (.iload_n 2, 1) := by decide +kernel
theorem dX5_pi_12 : decode cX5_pi 12 = .ok (.iadd, 1) := by decide +kernel
theorem dX5_pi_13 : decode cX5_pi 13 = .ok (.iaload, 1) := by decide +kernel
theorem dX5_pi_14 : decode cX5_pi 14 = .ok (.ireturn, 1) := by decide +kernel
set_option maxHeartbeats 4000000 in
set_option maxRecDepth 100000 in
theorem c_X5_pi (l : Launch) (D : va_G) (cI cC cO : ClassId) (a : Nat → Nat) (M : Mm) (x1 x2 : Int32) (res : Int32) (sz : Nat) (h : F_X5_pi M x1 x2 = some res) : Met l yX5_pi (Cond.code yX5_pi cX5_pi 3 (Option.some Jvm.ClassFile.FieldType.int) :: lw_g) ({ frames := 0, cells := 0, slots := 0, locals := 0 } : Room) (va_Pc [.ref (a 0), .int x1, .int x2] (pS D cI cC cO sz (wX5 a cI cC cO M))) (QI D cI cC cO (va_A (wX5 a cI cC cO M) sz) (wX5 a cI cC cO M) res) 0 0 (va_A (wX5 a cI cC cO M) sz) := by
  refine Met.ofW (cc := cX5_pi) (maxL := 3) (ret := (Option.some Jvm.ClassFile.FieldType.int)) (by decide) rfl ?_
  intro p e s m args below meth c s₁ B hml hv
  obtain ⟨rfl, rfl, hP, hK, hD0, hN⟩ := hv
  have hx := B.exec
  have hb := B.bytes
  have hr := B.returns
  have ht : ∀ w ∈ lw_g, w.before ([.ref (a 0), .int x1, .int x2] : List Value).toArray s = true := fun w hw => atoms_spec (ws := Cond.code yX5_pi cX5_pi 3 (Option.some Jvm.ClassFile.FieldType.int) :: lw_g) B.pre w (List.mem_cons_of_mem _ hw)
  have hown : s.vm.findClass RX5 = some m.cls := findClass_of_methodNamed B.named
  have hlocks := B.notSynchronized
  have hD := hD0.self (sz := s.heap.size)
  generalize hAe : va_A (wX5 a cI cC cO M) s.heap.size = A at hD ⊢
  have hA : ∀ q : Nat, s.heap.size ≤ q → A q := fun q hq => by rw [← hAe]; exact Or.inr hq
  have hS : va_S A s.heap s.heap [] := va_S.rf
  have hl := lv_entry ([.ref (a 0), .int x1, .int x2]) (n := 3) (Nat.le_of_ble_eq_true rfl)
  rw [lg_entry_eq]
  generalize (lg_sl ([.ref (a 0), .int x1, .int x2]) ++ List.replicate (3 - (lg_sl ([.ref (a 0), .int x1, .int x2])).length) Slot.unset).toArray = ls at hl ⊢
  have hl : lv_has ls 3 [(0, .ref (a 0)), (1, .int x1), (2, .int x2)] := hl
  unfold F_X5_pi at h
  refine lv_aload_n hx hb dX5_pi_0 rfl (lv_at hl 0 rfl) ?_
  refine va_get (D := D) (ci := 5) (v := .ref (a 1)) (C := RX5) (T := TX5) (N := 23) hx hb ht i_X5 hown hK hP 0 rfl rfl 0 (by decide) (ht _ wd_536) (fun _ h9 => h9) rfl dX5_pi_1 ?_
  refine lv_bipush (v := (14 : Int32)) hx hb dX5_pi_4 (by decide) ?_
  refine lv_bipush (v := (6 : Int32)) hx hb dX5_pi_6 (by decide) ?_
  refine lv_iload_n hx hb dX5_pi_8 rfl (lv_at hl 1 rfl) ?_
  refine lv_imul hx hb dX5_pi_9 ?_
  refine lv_iadd hx hb dX5_pi_10 ?_
  refine lv_iload_n hx hb dX5_pi_11 rfl (lv_at hl 2 rfl) ?_
  refine lv_iadd hx hb dX5_pi_12 ?_
  obtain ⟨i1, h⟩ := ck_ok h
  refine va_iald hx hb hK hP 1 0 rfl rfl i1 dX5_pi_13 ?_
  cases h
  exact rt_i hx hb hr hlocks hS hP hK hD dX5_pi_14
theorem dX5_keeps_0 : decode cX5_keeps 0 = .ok (.iconst 0, 1) := by decide +kernel
theorem dX5_keeps_1 : decode cX5_keeps 1 = .ok (.istore_n 1, 1) := by decide +kernel
theorem dX5_keeps_2 : decode cX5_keeps 2 = .ok (.iload_n 1, 1) := by decide +kernel
theorem dX5_keeps_3 : decode cX5_keeps 3 = .ok (.bipush 74, 2) := by decide +kernel
theorem dX5_keeps_5 : decode cX5_keeps 5 = .ok (.if_icmp .ge 21, 3) := by decide +kernel
theorem dX5_keeps_8 : decode cX5_keeps 8 = .ok (.aload_n 0, 1) := by decide +kernel
theorem dX5_keeps_9 : decode cX5_keeps 9 = .ok (.getfield 16, 3) := by decide +kernel
theorem dX5_keeps_12 : decode cX5_keeps 12 = .ok (.iload_n 1, 1) := by decide +kernel
theorem dX5_keeps_13 : decode cX5_keeps 13 = .ok (.aload_n 0, 1) := by decide +kernel
theorem dX5_keeps_14 : decode cX5_keeps 14 = .ok (.getfield 7, 3) := by decide +kernel
theorem dX5_keeps_17 : decode cX5_keeps 17 = .ok (.iload_n 1, 1) := by decide +kernel
theorem dX5_keeps_18 : decode cX5_keeps 18 = .ok (.iaload, 1) := by decide +kernel
theorem dX5_keeps_19 : decode cX5_keeps 19 = .ok (.iastore, 1) := by decide +kernel
theorem dX5_keeps_20 : decode cX5_keeps 20 = .ok (.iinc 1 1, 3) := by decide +kernel
theorem dX5_keeps_23 : decode cX5_keeps 23 = .ok (.goto (-21), 3) := by decide +kernel
theorem dX5_keeps_26 : decode cX5_keeps 26 = .ok (.return_, 1) := by decide +kernel
set_option maxHeartbeats 4000000 in
set_option maxRecDepth 100000 in
theorem c_X5_keeps (l : Launch) (D : va_G) (cI cC cO : ClassId) (a : Nat → Nat) (M : Mm) (res : Mm) (sz : Nat) (h : F_X5_keeps M = some res) : Met l yX5_keeps (Cond.code yX5_keeps cX5_keeps 2 (Option.none : Option Jvm.ClassFile.FieldType) :: lw_g) ({ frames := 0, cells := 0, slots := 0, locals := 0 } : Room) (va_Pc [.ref (a 0)] (pS D cI cC cO sz (wX5 a cI cC cO M))) (QV D cI cC cO (va_A (wX5 a cI cC cO M) sz) (wX5 a cI cC cO res)) 0 0 (va_A (wX5 a cI cC cO M) sz) := by
  refine Met.ofW (cc := cX5_keeps) (maxL := 2) (ret := (Option.none : Option Jvm.ClassFile.FieldType)) (by decide) rfl ?_
  intro p e s m args below meth c s₁ B hml hv
  obtain ⟨rfl, rfl, hP, hK, hD0, hN⟩ := hv
  have hx := B.exec
  have hb := B.bytes
  have hr := B.returns
  have ht : ∀ w ∈ lw_g, w.before ([.ref (a 0)] : List Value).toArray s = true := fun w hw => atoms_spec (ws := Cond.code yX5_keeps cX5_keeps 2 (Option.none : Option Jvm.ClassFile.FieldType) :: lw_g) B.pre w (List.mem_cons_of_mem _ hw)
  have hown : s.vm.findClass RX5 = some m.cls := findClass_of_methodNamed B.named
  have hlocks := B.notSynchronized
  have hD := hD0.self (sz := s.heap.size)
  generalize hAe : va_A (wX5 a cI cC cO M) s.heap.size = A at hD ⊢
  have hA : ∀ q : Nat, s.heap.size ≤ q → A q := fun q hq => by rw [← hAe]; exact Or.inr hq
  have hS : va_S A s.heap s.heap [] := va_S.rf
  have hl := lv_entry ([.ref (a 0)]) (n := 2) (Nat.le_of_ble_eq_true rfl)
  rw [lg_entry_eq]
  generalize (lg_sl ([.ref (a 0)]) ++ List.replicate (2 - (lg_sl ([.ref (a 0)])).length) Slot.unset).toArray = ls at hl ⊢
  have hl : lv_has ls 2 [(0, .ref (a 0))] := hl
  have w2 : ∀ (n2 : Nat) (M : Mm) (y1 : Int32) (H : Heap) (locs : List Loc) (ls : Array Slot), F_X5_keeps_2 n2 M y1 = some res → va_P D classes (wX5 a cI cC cO M) H → va_D A (wX5 a cI cC cO M) → va_S A s.heap H locs → lv_has ls 2 [(0, .ref (a 0)), (1, .int y1)] → W p l e ({ frames := 0, cells := 0, slots := 0, locals := 0 } : Room) s m ([.ref (a 0)] : List Value).toArray below meth c H locs 0 0 (MQ below (QV D cI cC cO A (wX5 a cI cC cO res)) ([.ref (a 0)] : List Value).toArray s 0 0 A) (F0 m 2 ls []) := by
    intro n2
    induction n2 with
    | zero => intro M y1 H locs ls h hP hD hS hl; exact absurd (show (none : Option (Mm)) = some res from h) (by simp)
    | succ n2 ih2 =>
      intro M y1 H locs ls h hP hD hS hl
      have h : F_X5_keepsB_2 (F_X5_keeps_2 n2) M y1 = some res := h
      unfold F_X5_keepsB_2 at h
      refine lv_iload_n hx hb dX5_keeps_2 rfl (lv_at hl 1 rfl) ?_
      refine lv_bipush (v := (74 : Int32)) hx hb dX5_keeps_3 (by decide) ?_
      refine lv_icmp_ge (tgt := 26) hx hb dX5_keeps_5 (by decide) (fun c1 => ?_) (fun c1 => ?_)
      · replace h := fp c1 h
        cases h
        exact rt_v hx hb hr hlocks hS hP hK hD dX5_keeps_26
      · replace h := fn c1 h
        refine lv_aload_n hx hb dX5_keeps_8 rfl (lv_at hl 0 rfl) ?_
        refine va_get (D := D) (ci := 5) (v := .ref (a 3)) (C := RX5) (T := TX5) (N := 23) hx hb ht i_X5 hown hK hP 0 rfl rfl 2 (by decide) (ht _ wd_538) (fun _ h9 => h9) rfl dX5_keeps_9 ?_
        refine lv_iload_n hx hb dX5_keeps_12 rfl (lv_at hl 1 rfl) ?_
        refine lv_aload_n hx hb dX5_keeps_13 rfl (lv_at hl 0 rfl) ?_
        refine va_get (D := D) (ci := 5) (v := .ref (a 1)) (C := RX5) (T := TX5) (N := 23) hx hb ht i_X5 hown hK hP 0 rfl rfl 0 (by decide) (ht _ wd_536) (fun _ h9 => h9) rfl dX5_keeps_14 ?_
        refine lv_iload_n hx hb dX5_keeps_17 rfl (lv_at hl 1 rfl) ?_
        obtain ⟨i2, h⟩ := ck_ok h
        refine va_iald hx hb hK hP 1 0 rfl rfl i2 dX5_keeps_18 ?_
        obtain ⟨i3, h⟩ := ck_ok h
        refine va_iast hx hb hK hP hD hS 3 0 rfl rfl i3 dX5_keeps_19 (fun H locs hP hD hS => ?_)
        obtain ⟨M4, e5, h⟩ := sv_ok h
        have hP : va_P D classes (wX5 a cI cC cO M4) H := by rw [← e5]; exact hP
        have hD : va_D A (wX5 a cI cC cO M4) := by rw [← e5]; exact hD
        refine lv_iinc (v := (y1 + 1)) (lv' := [(1, .int (y1 + 1)), (0, .ref (a 0))]) hx hb dX5_keeps_20 hl (k := 1) rfl rfl (by decide) rfl (fun ls hl => ?_)
        refine lv_goto (tgt := 2) hx hb dX5_keeps_23 (by decide) ?_
        exact ih2 M4 (y1 + 1) _ _ ls h hP hD hS (lv_sub hl [1, 0] rfl)
  unfold F_X5_keeps at h
  refine lv_iconst (v := (0 : Int32)) hx hb dX5_keeps_0 (by decide) ?_
  refine lv_istore_n (lv' := [(1, .int (0 : Int32)), (0, .ref (a 0))]) hx hb dX5_keeps_1 rfl hl (by decide) rfl (fun ls hl => ?_)
  exact w2 FU M (0 : Int32) _ _ ls h hP hD hS (lv_sub hl [1, 0] rfl)
theorem dX5_acted_0 : decode cX5_acted 0 = .ok (.iload_n 1, 1) := by decide +kernel
theorem dX5_acted_1 : decode cX5_acted 1 = .ok (.ldc 67, 2) := by decide +kernel
theorem dX5_acted_3 : decode cX5_acted 3 = .ok (.if_icmp .le 95, 3) := by decide +kernel
theorem dX5_acted_6 : decode cX5_acted 6 = .ok (.aload_n 0, 1) := by decide +kernel
theorem dX5_acted_7 : decode cX5_acted 7 = .ok (.getfield 68, 3) := by decide +kernel
theorem dX5_acted_10 : decode cX5_acted 10 = .ok (.iconst 4, 1) := by decide +kernel
theorem dX5_acted_11 : decode cX5_acted 11 = .ok (.if_icmp .ne 43, 3) := by decide +kernel
theorem dX5_acted_14 : decode cX5_acted 14 = .ok (.iconst 0, 1) := by decide +kernel
theorem dX5_acted_15 : decode cX5_acted 15 = .ok (.istore_n 2, 1) := by decide +kernel
theorem dX5_acted_16 : decode cX5_acted 16 = .ok (.iload_n 2, 1) := by decide +kernel
theorem dX5_acted_17 : decode cX5_acted 17 = .ok (.sipush 222, 3) := by decide +kernel
theorem dX5_acted_20 : decode cX5_acted 20 = .ok (.if_icmp .ge 24, 3) := by decide +kernel
theorem dX5_acted_23 : decode cX5_acted 23 = .ok (.aload_n 0, 1) := by decide +kernel
theorem dX5_acted_24 : decode cX5_acted 24 = .ok (.getfield 13, 3) := by decide +kernel
theorem dX5_acted_27 : decode cX5_acted 27 = .ok (.iload_n 2, 1) := by decide +kernel
theorem dX5_acted_28 : decode cX5_acted 28 = .ok (.aload_n 0, 1) := by decide +kernel
theorem dX5_acted_29 : decode cX5_acted 29 = .ok (.getfield 13, 3) := by decide +kernel
theorem dX5_acted_32 : decode cX5_acted 32 = .ok (.iload_n 2, 1) := by decide +kernel
theorem dX5_acted_33 : decode cX5_acted 33 = .ok (.bipush 74, 2) := by decide +kernel
theorem dX5_acted_35 : decode cX5_acted 35 = .ok (.iadd, 1) := by decide +kernel
theorem dX5_acted_36 : decode cX5_acted 36 = .ok (.iaload, 1) := by decide +kernel
theorem dX5_acted_37 : decode cX5_acted 37 = .ok (.iastore, 1) := by decide +kernel
theorem dX5_acted_38 : decode cX5_acted 38 = .ok (.iinc 2 1, 3) := by decide +kernel
theorem dX5_acted_41 : decode cX5_acted 41 = .ok (.goto (-25), 3) := by decide +kernel
theorem dX5_acted_44 : decode cX5_acted 44 = .ok (.aload_n 0, 1) := by decide +kernel
theorem dX5_acted_45 : decode cX5_acted 45 = .ok (.dup, 1) := by decide +kernel
theorem dX5_acted_46 : decode cX5_acted 46 = .ok (.getfield 68, 3) := by decide +kernel
theorem dX5_acted_49 : decode cX5_acted 49 = .ok (.iconst 1, 1) := by decide +kernel
theorem dX5_acted_50 : decode cX5_acted 50 = .ok (.isub, 1) := by decide +kernel
theorem dX5_acted_51 : decode cX5_acted 51 = .ok (.putfield 68, 3) := by decide +kernel
theorem dX5_acted_54 : decode cX5_acted 54 = .ok (.iconst 0, 1) := by decide +kernel
theorem dX5_acted_55 : decode cX5_acted 55 = .ok (.istore_n 2, 1) := by decide +kernel
theorem dX5_acted_56 : decode cX5_acted 56 = .ok (.iload_n 2, 1) := by decide +kernel
theorem dX5_acted_57 : decode cX5_acted 57 = .ok (.bipush 74, 2) := by decide +kernel
theorem dX5_acted_59 : decode cX5_acted 59 = .ok (.if_icmp .ge 29, 3) := by decide +kernel
theorem dX5_acted_62 : decode cX5_acted 62 = .ok (.aload_n 0, 1) := by decide +kernel
theorem dX5_acted_63 : decode cX5_acted 63 = .ok (.getfield 13, 3) := by decide +kernel
theorem dX5_acted_66 : decode cX5_acted 66 = .ok (.bipush 74, 2) := by decide +kernel
theorem dX5_acted_68 : decode cX5_acted 68 = .ok (.aload_n 0, 1) := by decide +kernel
theorem dX5_acted_69 : decode cX5_acted 69 = .ok (.getfield 68, 3) := by decide +kernel
theorem dX5_acted_72 : decode cX5_acted 72 = .ok (.imul, 1) := by decide +kernel
theorem dX5_acted_73 : decode cX5_acted 73 = .ok (.iload_n 2, 1) := by decide +kernel
theorem dX5_acted_74 : decode cX5_acted 74 = .ok (.iadd, 1) := by decide +kernel
theorem dX5_acted_75 : decode cX5_acted 75 = .ok (.aload_n 0, 1) := by decide +kernel
theorem dX5_acted_76 : decode cX5_acted 76 = .ok (.getfield 16, 3) := by decide +kernel
theorem dX5_acted_79 : decode cX5_acted 79 = .ok (.iload_n 2, 1) := by decide +kernel
theorem dX5_acted_80 : decode cX5_acted 80 = .ok (.iaload, 1) := by decide +kernel
theorem dX5_acted_81 : decode cX5_acted 81 = .ok (.iastore, 1) := by decide +kernel
theorem dX5_acted_82 : decode cX5_acted 82 = .ok (.iinc 2 1, 3) := by decide +kernel
theorem dX5_acted_85 : decode cX5_acted 85 = .ok (.goto (-29), 3) := by decide +kernel
theorem dX5_acted_88 : decode cX5_acted 88 = .ok (.aload_n 0, 1) := by decide +kernel
theorem dX5_acted_89 : decode cX5_acted 89 = .ok (.dup, 1) := by decide +kernel
theorem dX5_acted_90 : decode cX5_acted 90 = .ok (.getfield 68, 3) := by decide +kernel
theorem dX5_acted_93 : decode cX5_acted 93 = .ok (.iconst 1, 1) := by decide +kernel
theorem dX5_acted_94 : decode cX5_acted 94 = .ok (.iadd, 1) := by decide +kernel
theorem dX5_acted_95 : decode cX5_acted 95 = .ok (.putfield 68, 3) := by decide +kernel
theorem dX5_acted_98 : decode cX5_acted 98 = .ok (.iload_n 1, 1) := by decide +kernel
theorem dX5_acted_99 : decode cX5_acted 99 = .ok (.ireturn, 1) := by decide +kernel
set_option maxHeartbeats 4000000 in
set_option maxRecDepth 100000 in
theorem c_X5_acted (l : Launch) (D : va_G) (cI cC cO : ClassId) (a : Nat → Nat) (M : Mm) (x1 : Int32) (res : Int32 × Mm) (sz : Nat) (h : F_X5_acted M x1 = some res) : Met l yX5_acted (Cond.code yX5_acted cX5_acted 3 (Option.some Jvm.ClassFile.FieldType.int) :: lw_g) ({ frames := 0, cells := 0, slots := 0, locals := 0 } : Room) (va_Pc [.ref (a 0), .int x1] (pS D cI cC cO sz (wX5 a cI cC cO M))) (QI D cI cC cO (va_A (wX5 a cI cC cO M) sz) (wX5 a cI cC cO res.2) res.1) 0 0 (va_A (wX5 a cI cC cO M) sz) := by
  refine Met.ofW (cc := cX5_acted) (maxL := 3) (ret := (Option.some Jvm.ClassFile.FieldType.int)) (by decide) rfl ?_
  intro p e s m args below meth c s₁ B hml hv
  obtain ⟨rfl, rfl, hP, hK, hD0, hN⟩ := hv
  have hx := B.exec
  have hb := B.bytes
  have hr := B.returns
  have ht : ∀ w ∈ lw_g, w.before ([.ref (a 0), .int x1] : List Value).toArray s = true := fun w hw => atoms_spec (ws := Cond.code yX5_acted cX5_acted 3 (Option.some Jvm.ClassFile.FieldType.int) :: lw_g) B.pre w (List.mem_cons_of_mem _ hw)
  have hown : s.vm.findClass RX5 = some m.cls := findClass_of_methodNamed B.named
  have hlocks := B.notSynchronized
  have hD := hD0.self (sz := s.heap.size)
  generalize hAe : va_A (wX5 a cI cC cO M) s.heap.size = A at hD ⊢
  have hA : ∀ q : Nat, s.heap.size ≤ q → A q := fun q hq => by rw [← hAe]; exact Or.inr hq
  have hS : va_S A s.heap s.heap [] := va_S.rf
  have hl := lv_entry ([.ref (a 0), .int x1]) (n := 3) (Nat.le_of_ble_eq_true rfl)
  rw [lg_entry_eq]
  generalize (lg_sl ([.ref (a 0), .int x1]) ++ List.replicate (3 - (lg_sl ([.ref (a 0), .int x1])).length) Slot.unset).toArray = ls at hl ⊢
  have hl : lv_has ls 3 [(0, .ref (a 0)), (1, .int x1)] := hl
  have w56 : ∀ (n56 : Nat) (M : Mm) (y1 y2 : Int32) (H : Heap) (locs : List Loc) (ls : Array Slot), F_X5_acted_56 n56 M y1 y2 = some res → va_P D classes (wX5 a cI cC cO M) H → va_D A (wX5 a cI cC cO M) → va_S A s.heap H locs → lv_has ls 3 [(0, .ref (a 0)), (1, .int y1), (2, .int y2)] → W p l e ({ frames := 0, cells := 0, slots := 0, locals := 0 } : Room) s m ([.ref (a 0), .int x1] : List Value).toArray below meth c H locs 0 0 (MQ below (QI D cI cC cO A (wX5 a cI cC cO res.2) res.1) ([.ref (a 0), .int x1] : List Value).toArray s 0 0 A) (F0 m 56 ls []) := by
    intro n56
    induction n56 with
    | zero => intro M y1 y2 H locs ls h hP hD hS hl; exact absurd (show (none : Option (Int32 × Mm)) = some res from h) (by simp)
    | succ n56 ih56 =>
      intro M y1 y2 H locs ls h hP hD hS hl
      have h : F_X5_actedB_56 (F_X5_acted_56 n56) M y1 y2 = some res := h
      unfold F_X5_actedB_56 at h
      refine lv_iload_n hx hb dX5_acted_56 rfl (lv_at hl 2 rfl) ?_
      refine lv_bipush (v := (74 : Int32)) hx hb dX5_acted_57 (by decide) ?_
      refine lv_icmp_ge (tgt := 88) hx hb dX5_acted_59 (by decide) (fun c1 => ?_) (fun c1 => ?_)
      · replace h := fp c1 h
        refine lv_aload_n hx hb dX5_acted_88 rfl (lv_at hl 0 rfl) ?_
        refine lv_dup hx hb dX5_acted_89 rfl ?_
        refine va_get (D := D) (ci := 5) (v := .int (M 12 0)) (C := RX5) (T := TX5) (N := 23) hx hb ht i_X5 hown hK hP 0 rfl rfl 4 (by decide) (ht _ wd_540) (fun _ h9 => h9) rfl dX5_acted_90 ?_
        refine lv_iconst (v := (1 : Int32)) hx hb dX5_acted_93 (by decide) ?_
        refine lv_iadd hx hb dX5_acted_94 ?_
        refine va_put (D := D) (ci := 5) (v := .int ((M 12 0) + (1 : Int32))) (ty := .int) (C := RX5) (T := TX5) (N := 23) hx hb ht i_X5 tyX5 tyX5_ok nmX5 hown hK hP hD hS 0 rfl rfl 4 (by decide) (ht _ wd_540) (fun _ h9 => h9) rfl (by decide +kernel) rfl rfl (Nat.le_of_ble_eq_true rfl) dX5_acted_95 (fun H locs hP hD hS => ?_)
        obtain ⟨M2, e3, h⟩ := sv_ok h
        have hP : va_P D classes (wX5 a cI cC cO M2) H := by rw [← e3]; exact hP
        have hD : va_D A (wX5 a cI cC cO M2) := by rw [← e3]; exact hD
        refine lv_iload_n hx hb dX5_acted_98 rfl (lv_at hl 1 rfl) ?_
        cases h
        exact rt_i hx hb hr hlocks hS hP hK hD dX5_acted_99
      · replace h := fn c1 h
        refine lv_aload_n hx hb dX5_acted_62 rfl (lv_at hl 0 rfl) ?_
        refine va_get (D := D) (ci := 5) (v := .ref (a 2)) (C := RX5) (T := TX5) (N := 23) hx hb ht i_X5 hown hK hP 0 rfl rfl 1 (by decide) (ht _ wd_537) (fun _ h9 => h9) rfl dX5_acted_63 ?_
        refine lv_bipush (v := (74 : Int32)) hx hb dX5_acted_66 (by decide) ?_
        refine lv_aload_n hx hb dX5_acted_68 rfl (lv_at hl 0 rfl) ?_
        refine va_get (D := D) (ci := 5) (v := .int (M 12 0)) (C := RX5) (T := TX5) (N := 23) hx hb ht i_X5 hown hK hP 0 rfl rfl 4 (by decide) (ht _ wd_540) (fun _ h9 => h9) rfl dX5_acted_69 ?_
        refine lv_imul hx hb dX5_acted_72 ?_
        refine lv_iload_n hx hb dX5_acted_73 rfl (lv_at hl 2 rfl) ?_
        refine lv_iadd hx hb dX5_acted_74 ?_
        refine lv_aload_n hx hb dX5_acted_75 rfl (lv_at hl 0 rfl) ?_
        refine va_get (D := D) (ci := 5) (v := .ref (a 3)) (C := RX5) (T := TX5) (N := 23) hx hb ht i_X5 hown hK hP 0 rfl rfl 2 (by decide) (ht _ wd_538) (fun _ h9 => h9) rfl dX5_acted_76 ?_
        refine lv_iload_n hx hb dX5_acted_79 rfl (lv_at hl 2 rfl) ?_
        obtain ⟨i4, h⟩ := ck_ok h
        refine va_iald hx hb hK hP 3 0 rfl rfl i4 dX5_acted_80 ?_
        obtain ⟨i5, h⟩ := ck_ok h
        refine va_iast hx hb hK hP hD hS 2 0 rfl rfl i5 dX5_acted_81 (fun H locs hP hD hS => ?_)
        obtain ⟨M6, e7, h⟩ := sv_ok h
        have hP : va_P D classes (wX5 a cI cC cO M6) H := by rw [← e7]; exact hP
        have hD : va_D A (wX5 a cI cC cO M6) := by rw [← e7]; exact hD
        refine lv_iinc (v := (y2 + 1)) (lv' := [(2, .int (y2 + 1)), (0, .ref (a 0)), (1, .int y1)]) hx hb dX5_acted_82 hl (k := 2) rfl rfl (by decide) rfl (fun ls hl => ?_)
        refine lv_goto (tgt := 56) hx hb dX5_acted_85 (by decide) ?_
        exact ih56 M6 y1 (y2 + 1) _ _ ls h hP hD hS (lv_sub hl [1, 2, 0] rfl)
  have w16 : ∀ (n16 : Nat) (M : Mm) (y1 y2 : Int32) (H : Heap) (locs : List Loc) (ls : Array Slot), F_X5_acted_16 n16 M y1 y2 = some res → va_P D classes (wX5 a cI cC cO M) H → va_D A (wX5 a cI cC cO M) → va_S A s.heap H locs → lv_has ls 3 [(0, .ref (a 0)), (1, .int y1), (2, .int y2)] → W p l e ({ frames := 0, cells := 0, slots := 0, locals := 0 } : Room) s m ([.ref (a 0), .int x1] : List Value).toArray below meth c H locs 0 0 (MQ below (QI D cI cC cO A (wX5 a cI cC cO res.2) res.1) ([.ref (a 0), .int x1] : List Value).toArray s 0 0 A) (F0 m 16 ls []) := by
    intro n16
    induction n16 with
    | zero => intro M y1 y2 H locs ls h hP hD hS hl; exact absurd (show (none : Option (Int32 × Mm)) = some res from h) (by simp)
    | succ n16 ih16 =>
      intro M y1 y2 H locs ls h hP hD hS hl
      have h : F_X5_actedB_16 (F_X5_acted_16 n16) M y1 y2 = some res := h
      unfold F_X5_actedB_16 at h
      refine lv_iload_n hx hb dX5_acted_16 rfl (lv_at hl 2 rfl) ?_
      refine lv_sipush (v := (222 : Int32)) hx hb dX5_acted_17 (by decide) ?_
      refine lv_icmp_ge (tgt := 44) hx hb dX5_acted_20 (by decide) (fun c1 => ?_) (fun c1 => ?_)
      · replace h := fp c1 h
        refine lv_aload_n hx hb dX5_acted_44 rfl (lv_at hl 0 rfl) ?_
        refine lv_dup hx hb dX5_acted_45 rfl ?_
        refine va_get (D := D) (ci := 5) (v := .int (M 12 0)) (C := RX5) (T := TX5) (N := 23) hx hb ht i_X5 hown hK hP 0 rfl rfl 4 (by decide) (ht _ wd_540) (fun _ h9 => h9) rfl dX5_acted_46 ?_
        refine lv_iconst (v := (1 : Int32)) hx hb dX5_acted_49 (by decide) ?_
        refine lv_isub hx hb dX5_acted_50 ?_
        refine va_put (D := D) (ci := 5) (v := .int ((M 12 0) - (1 : Int32))) (ty := .int) (C := RX5) (T := TX5) (N := 23) hx hb ht i_X5 tyX5 tyX5_ok nmX5 hown hK hP hD hS 0 rfl rfl 4 (by decide) (ht _ wd_540) (fun _ h9 => h9) rfl (by decide +kernel) rfl rfl (Nat.le_of_ble_eq_true rfl) dX5_acted_51 (fun H locs hP hD hS => ?_)
        obtain ⟨M2, e3, h⟩ := sv_ok h
        have hP : va_P D classes (wX5 a cI cC cO M2) H := by rw [← e3]; exact hP
        have hD : va_D A (wX5 a cI cC cO M2) := by rw [← e3]; exact hD
        refine lv_iconst (v := (0 : Int32)) hx hb dX5_acted_54 (by decide) ?_
        refine lv_istore_n (lv' := [(2, .int (0 : Int32)), (0, .ref (a 0)), (1, .int y1)]) hx hb dX5_acted_55 rfl hl (by decide) rfl (fun ls hl => ?_)
        exact w56 FU M2 y1 (0 : Int32) _ _ ls h hP hD hS (lv_sub hl [1, 2, 0] rfl)
      · replace h := fn c1 h
        refine lv_aload_n hx hb dX5_acted_23 rfl (lv_at hl 0 rfl) ?_
        refine va_get (D := D) (ci := 5) (v := .ref (a 2)) (C := RX5) (T := TX5) (N := 23) hx hb ht i_X5 hown hK hP 0 rfl rfl 1 (by decide) (ht _ wd_537) (fun _ h9 => h9) rfl dX5_acted_24 ?_
        refine lv_iload_n hx hb dX5_acted_27 rfl (lv_at hl 2 rfl) ?_
        refine lv_aload_n hx hb dX5_acted_28 rfl (lv_at hl 0 rfl) ?_
        refine va_get (D := D) (ci := 5) (v := .ref (a 2)) (C := RX5) (T := TX5) (N := 23) hx hb ht i_X5 hown hK hP 0 rfl rfl 1 (by decide) (ht _ wd_537) (fun _ h9 => h9) rfl dX5_acted_29 ?_
        refine lv_iload_n hx hb dX5_acted_32 rfl (lv_at hl 2 rfl) ?_
        refine lv_bipush (v := (74 : Int32)) hx hb dX5_acted_33 (by decide) ?_
        refine lv_iadd hx hb dX5_acted_35 ?_
        obtain ⟨i4, h⟩ := ck_ok h
        refine va_iald hx hb hK hP 2 0 rfl rfl i4 dX5_acted_36 ?_
        obtain ⟨i5, h⟩ := ck_ok h
        refine va_iast hx hb hK hP hD hS 2 0 rfl rfl i5 dX5_acted_37 (fun H locs hP hD hS => ?_)
        obtain ⟨M6, e7, h⟩ := sv_ok h
        have hP : va_P D classes (wX5 a cI cC cO M6) H := by rw [← e7]; exact hP
        have hD : va_D A (wX5 a cI cC cO M6) := by rw [← e7]; exact hD
        refine lv_iinc (v := (y2 + 1)) (lv' := [(2, .int (y2 + 1)), (0, .ref (a 0)), (1, .int y1)]) hx hb dX5_acted_38 hl (k := 2) rfl rfl (by decide) rfl (fun ls hl => ?_)
        refine lv_goto (tgt := 16) hx hb dX5_acted_41 (by decide) ?_
        exact ih16 M6 y1 (y2 + 1) _ _ ls h hP hD hS (lv_sub hl [1, 2, 0] rfl)
  unfold F_X5_acted at h
  refine lv_iload_n hx hb dX5_acted_0 rfl (lv_at hl 1 rfl) ?_
  refine lv_ldc hx hb hown (ht _ wd_613) dX5_acted_1 ?_
  refine lv_icmp_le (tgt := 98) hx hb dX5_acted_3 (by decide) (fun c1 => ?_) (fun c1 => ?_)
  · replace h := fp c1 h
    refine lv_iload_n hx hb dX5_acted_98 rfl (lv_at hl 1 rfl) ?_
    cases h
    exact rt_i hx hb hr hlocks hS hP hK hD dX5_acted_99
  · replace h := fn c1 h
    refine lv_aload_n hx hb dX5_acted_6 rfl (lv_at hl 0 rfl) ?_
    refine va_get (D := D) (ci := 5) (v := .int (M 12 0)) (C := RX5) (T := TX5) (N := 23) hx hb ht i_X5 hown hK hP 0 rfl rfl 4 (by decide) (ht _ wd_540) (fun _ h9 => h9) rfl dX5_acted_7 ?_
    refine lv_iconst (v := (4 : Int32)) hx hb dX5_acted_10 (by decide) ?_
    refine lv_icmp_ne (tgt := 54) hx hb dX5_acted_11 (by decide) (fun c2 => ?_) (fun c2 => ?_)
    · replace h := fn c2 h
      refine lv_iconst (v := (0 : Int32)) hx hb dX5_acted_54 (by decide) ?_
      refine lv_istore_n (lv' := [(2, .int (0 : Int32)), (0, .ref (a 0)), (1, .int x1)]) hx hb dX5_acted_55 rfl hl (by decide) rfl (fun ls hl => ?_)
      exact w56 FU M x1 (0 : Int32) _ _ ls h hP hD hS (lv_sub hl [1, 2, 0] rfl)
    · replace h := fp c2 h
      refine lv_iconst (v := (0 : Int32)) hx hb dX5_acted_14 (by decide) ?_
      refine lv_istore_n (lv' := [(2, .int (0 : Int32)), (0, .ref (a 0)), (1, .int x1)]) hx hb dX5_acted_15 rfl hl (by decide) rfl (fun ls hl => ?_)
      exact w16 FU M x1 (0 : Int32) _ _ ls h hP hD hS (lv_sub hl [1, 2, 0] rfl)
theorem dX5_adds_0 : decode cX5_adds 0 = .ok (.aload_n 0, 1) := by decide +kernel
theorem dX5_adds_1 : decode cX5_adds 1 = .ok (.getfield 7, 3) := by decide +kernel
theorem dX5_adds_4 : decode cX5_adds 4 = .ok (.iconst 0, 1) := by decide +kernel
theorem dX5_adds_5 : decode cX5_adds 5 = .ok (.iaload, 1) := by decide +kernel
theorem dX5_adds_6 : decode cX5_adds 6 = .ok (.bipush 6, 2) := by decide +kernel
theorem dX5_adds_8 : decode cX5_adds 8 = .ok (.if_icmp .ne 6, 3) := by decide +kernel
theorem dX5_adds_11 : decode cX5_adds 11 = .ok (.ldc 71, 2) := by decide +kernel
theorem dX5_adds_13 : decode cX5_adds 13 = .ok (.ireturn, 1) := by decide +kernel
theorem dX5_adds_14 : decode cX5_adds 14 = .ok (.aload_n 0, 1) := by decide +kernel
theorem dX5_adds_15 : decode cX5_adds 15 = .ok (.getfield 7, 3) := by decide +kernel
theorem dX5_adds_18 : decode cX5_adds 18 = .ok (.iconst 2, 1) := by decide +kernel
theorem dX5_adds_19 : decode cX5_adds 19 = .ok (.iconst 2, 1) := by decide +kernel
theorem dX5_adds_20 : decode cX5_adds 20 = .ok (.aload_n 0, 1) := by decide +kernel
theorem dX5_adds_21 : decode cX5_adds 21 = .ok (.getfield 7, 3) := by decide +kernel
theorem dX5_adds_24 : decode cX5_adds 24 = .ok (.iconst 0, 1) := by decide +kernel
theorem dX5_adds_25 : decode cX5_adds 25 = .ok (.iaload, 1) := by decide +kernel
theorem dX5_adds_26 : decode cX5_adds 26 = .ok (.imul, 1) := by decide +kernel
theorem dX5_adds_27 : decode cX5_adds 27 = .ok (.iadd, 1) := by decide +kernel
theorem dX5_adds_28 : decode cX5_adds 28 = .ok (.iload_n 1, 1) := by decide +kernel
theorem dX5_adds_29 : decode cX5_adds 29 = .ok (.iastore, 1) := by decide +kernel
theorem dX5_adds_30 : decode cX5_adds 30 = .ok (.aload_n 0, 1) := by decide +kernel
theorem dX5_adds_31 : decode cX5_adds 31 = .ok (.getfield 7, 3) := by decide +kernel
theorem dX5_adds_34 : decode cX5_adds 34 = .ok (.iconst 2, 1) := by decide +kernel
theorem dX5_adds_35 : decode cX5_adds 35 = .ok (.iconst 2, 1) := by decide +kernel
theorem dX5_adds_36 : decode cX5_adds 36 = .ok (.aload_n 0, 1) := by decide +kernel
theorem dX5_adds_37 : decode cX5_adds 37 = .ok (.getfield 7, 3) := by decide +kernel
theorem dX5_adds_40 : decode cX5_adds 40 = .ok (.iconst 0, 1) := by decide +kernel
theorem dX5_adds_41 : decode cX5_adds 41 = .ok (.iaload, 1) := by decide +kernel
theorem dX5_adds_42 : decode cX5_adds 42 = .ok (.imul, 1) := by decide +kernel
theorem dX5_adds_43 : decode cX5_adds 43 = .ok (.iadd, 1) := by decide +kernel
theorem dX5_adds_44 : decode cX5_adds 44 = .ok (.iconst 1, 1) := by decide +kernel
theorem dX5_adds_45 : decode cX5_adds 45 = .ok (.iadd, 1) := by decide +kernel
theorem dX5_adds_46 : decode cX5_adds 46 = .ok (.iload_n 2, 1) := by decide +kernel
theorem dX5_adds_47 : decode cX5_adds 47 = .ok (.iastore, 1) := by decide +kernel
theorem dX5_adds_48 : decode cX5_adds 48 = .ok (.aload_n 0, 1) := by decide +kernel
theorem dX5_adds_49 : decode cX5_adds 49 = .ok (.getfield 7, 3) := by decide +kernel
theorem dX5_adds_52 : decode cX5_adds 52 = .ok (.iconst 0, 1) := by decide +kernel
theorem dX5_adds_53 : decode cX5_adds 53 = .ok (.dup2, 1) := by decide +kernel
theorem dX5_adds_54 : decode cX5_adds 54 = .ok (.iaload, 1) := by decide +kernel
theorem dX5_adds_55 : decode cX5_adds 55 = .ok (.iconst 1, 1) := by decide +kernel
theorem dX5_adds_56 : decode cX5_adds 56 = .ok (.iadd, 1) := by decide +kernel
theorem dX5_adds_57 : decode cX5_adds 57 = .ok (.iastore, 1) := by decide +kernel
theorem dX5_adds_58 : decode cX5_adds 58 = .ok (.aload_n 0, 1) := by decide +kernel
theorem dX5_adds_59 : decode cX5_adds 59 = .ok (.getfield 7, 3) := by decide +kernel
theorem dX5_adds_62 : decode cX5_adds 62 = .ok (.iconst 0, 1) := by decide +kernel
theorem dX5_adds_63 : decode cX5_adds 63 = .ok (.iaload, 1) := by decide +kernel
theorem dX5_adds_64 : decode cX5_adds 64 = .ok (.iconst 1, 1) := by decide +kernel
theorem dX5_adds_65 : decode cX5_adds 65 = .ok (.isub, 1) := by decide +kernel
theorem dX5_adds_66 : decode cX5_adds 66 = .ok (.ireturn, 1) := by decide +kernel
set_option maxHeartbeats 4000000 in
set_option maxRecDepth 100000 in
theorem c_X5_adds (l : Launch) (D : va_G) (cI cC cO : ClassId) (a : Nat → Nat) (M : Mm) (x1 x2 : Int32) (res : Int32 × Mm) (sz : Nat) (h : F_X5_adds M x1 x2 = some res) : Met l yX5_adds (Cond.code yX5_adds cX5_adds 3 (Option.some Jvm.ClassFile.FieldType.int) :: lw_g) ({ frames := 0, cells := 0, slots := 0, locals := 0 } : Room) (va_Pc [.ref (a 0), .int x1, .int x2] (pS D cI cC cO sz (wX5 a cI cC cO M))) (QI D cI cC cO (va_A (wX5 a cI cC cO M) sz) (wX5 a cI cC cO res.2) res.1) 0 0 (va_A (wX5 a cI cC cO M) sz) := by
  refine Met.ofW (cc := cX5_adds) (maxL := 3) (ret := (Option.some Jvm.ClassFile.FieldType.int)) (by decide) rfl ?_
  intro p e s m args below meth c s₁ B hml hv
  obtain ⟨rfl, rfl, hP, hK, hD0, hN⟩ := hv
  have hx := B.exec
  have hb := B.bytes
  have hr := B.returns
  have ht : ∀ w ∈ lw_g, w.before ([.ref (a 0), .int x1, .int x2] : List Value).toArray s = true := fun w hw => atoms_spec (ws := Cond.code yX5_adds cX5_adds 3 (Option.some Jvm.ClassFile.FieldType.int) :: lw_g) B.pre w (List.mem_cons_of_mem _ hw)
  have hown : s.vm.findClass RX5 = some m.cls := findClass_of_methodNamed B.named
  have hlocks := B.notSynchronized
  have hD := hD0.self (sz := s.heap.size)
  generalize hAe : va_A (wX5 a cI cC cO M) s.heap.size = A at hD ⊢
  have hA : ∀ q : Nat, s.heap.size ≤ q → A q := fun q hq => by rw [← hAe]; exact Or.inr hq
  have hS : va_S A s.heap s.heap [] := va_S.rf
  have hl := lv_entry ([.ref (a 0), .int x1, .int x2]) (n := 3) (Nat.le_of_ble_eq_true rfl)
  rw [lg_entry_eq]
  generalize (lg_sl ([.ref (a 0), .int x1, .int x2]) ++ List.replicate (3 - (lg_sl ([.ref (a 0), .int x1, .int x2])).length) Slot.unset).toArray = ls at hl ⊢
  have hl : lv_has ls 3 [(0, .ref (a 0)), (1, .int x1), (2, .int x2)] := hl
  unfold F_X5_adds at h
  refine lv_aload_n hx hb dX5_adds_0 rfl (lv_at hl 0 rfl) ?_
  refine va_get (D := D) (ci := 5) (v := .ref (a 1)) (C := RX5) (T := TX5) (N := 23) hx hb ht i_X5 hown hK hP 0 rfl rfl 0 (by decide) (ht _ wd_536) (fun _ h9 => h9) rfl dX5_adds_1 ?_
  refine lv_iconst (v := (0 : Int32)) hx hb dX5_adds_4 (by decide) ?_
  obtain ⟨i1, h⟩ := ck_ok h
  refine va_iald hx hb hK hP 1 0 rfl rfl i1 dX5_adds_5 ?_
  refine lv_bipush (v := (6 : Int32)) hx hb dX5_adds_6 (by decide) ?_
  refine lv_icmp_ne (tgt := 14) hx hb dX5_adds_8 (by decide) (fun c2 => ?_) (fun c2 => ?_)
  · replace h := fn c2 h
    refine lv_aload_n hx hb dX5_adds_14 rfl (lv_at hl 0 rfl) ?_
    refine va_get (D := D) (ci := 5) (v := .ref (a 1)) (C := RX5) (T := TX5) (N := 23) hx hb ht i_X5 hown hK hP 0 rfl rfl 0 (by decide) (ht _ wd_536) (fun _ h9 => h9) rfl dX5_adds_15 ?_
    refine lv_iconst (v := (2 : Int32)) hx hb dX5_adds_18 (by decide) ?_
    refine lv_iconst (v := (2 : Int32)) hx hb dX5_adds_19 (by decide) ?_
    refine lv_aload_n hx hb dX5_adds_20 rfl (lv_at hl 0 rfl) ?_
    refine va_get (D := D) (ci := 5) (v := .ref (a 1)) (C := RX5) (T := TX5) (N := 23) hx hb ht i_X5 hown hK hP 0 rfl rfl 0 (by decide) (ht _ wd_536) (fun _ h9 => h9) rfl dX5_adds_21 ?_
    refine lv_iconst (v := (0 : Int32)) hx hb dX5_adds_24 (by decide) ?_
    obtain ⟨i3, h⟩ := ck_ok h
    refine va_iald hx hb hK hP 1 0 rfl rfl i3 dX5_adds_25 ?_
    refine lv_imul hx hb dX5_adds_26 ?_
    refine lv_iadd hx hb dX5_adds_27 ?_
    refine lv_iload_n hx hb dX5_adds_28 rfl (lv_at hl 1 rfl) ?_
    obtain ⟨i4, h⟩ := ck_ok h
    refine va_iast hx hb hK hP hD hS 1 0 rfl rfl i4 dX5_adds_29 (fun H locs hP hD hS => ?_)
    obtain ⟨M5, e6, h⟩ := sv_ok h
    have hP : va_P D classes (wX5 a cI cC cO M5) H := by rw [← e6]; exact hP
    have hD : va_D A (wX5 a cI cC cO M5) := by rw [← e6]; exact hD
    refine lv_aload_n hx hb dX5_adds_30 rfl (lv_at hl 0 rfl) ?_
    refine va_get (D := D) (ci := 5) (v := .ref (a 1)) (C := RX5) (T := TX5) (N := 23) hx hb ht i_X5 hown hK hP 0 rfl rfl 0 (by decide) (ht _ wd_536) (fun _ h9 => h9) rfl dX5_adds_31 ?_
    refine lv_iconst (v := (2 : Int32)) hx hb dX5_adds_34 (by decide) ?_
    refine lv_iconst (v := (2 : Int32)) hx hb dX5_adds_35 (by decide) ?_
    refine lv_aload_n hx hb dX5_adds_36 rfl (lv_at hl 0 rfl) ?_
    refine va_get (D := D) (ci := 5) (v := .ref (a 1)) (C := RX5) (T := TX5) (N := 23) hx hb ht i_X5 hown hK hP 0 rfl rfl 0 (by decide) (ht _ wd_536) (fun _ h9 => h9) rfl dX5_adds_37 ?_
    refine lv_iconst (v := (0 : Int32)) hx hb dX5_adds_40 (by decide) ?_
    obtain ⟨i7, h⟩ := ck_ok h
    refine va_iald hx hb hK hP 1 0 rfl rfl i7 dX5_adds_41 ?_
    refine lv_imul hx hb dX5_adds_42 ?_
    refine lv_iadd hx hb dX5_adds_43 ?_
    refine lv_iconst (v := (1 : Int32)) hx hb dX5_adds_44 (by decide) ?_
    refine lv_iadd hx hb dX5_adds_45 ?_
    refine lv_iload_n hx hb dX5_adds_46 rfl (lv_at hl 2 rfl) ?_
    obtain ⟨i8, h⟩ := ck_ok h
    refine va_iast hx hb hK hP hD hS 1 0 rfl rfl i8 dX5_adds_47 (fun H locs hP hD hS => ?_)
    obtain ⟨M9, e10, h⟩ := sv_ok h
    have hP : va_P D classes (wX5 a cI cC cO M9) H := by rw [← e10]; exact hP
    have hD : va_D A (wX5 a cI cC cO M9) := by rw [← e10]; exact hD
    refine lv_aload_n hx hb dX5_adds_48 rfl (lv_at hl 0 rfl) ?_
    refine va_get (D := D) (ci := 5) (v := .ref (a 1)) (C := RX5) (T := TX5) (N := 23) hx hb ht i_X5 hown hK hP 0 rfl rfl 0 (by decide) (ht _ wd_536) (fun _ h9 => h9) rfl dX5_adds_49 ?_
    refine lv_iconst (v := (0 : Int32)) hx hb dX5_adds_52 (by decide) ?_
    refine lv_dup2_11 hx hb dX5_adds_53 rfl rfl ?_
    obtain ⟨i11, h⟩ := ck_ok h
    refine va_iald hx hb hK hP 1 0 rfl rfl i11 dX5_adds_54 ?_
    refine lv_iconst (v := (1 : Int32)) hx hb dX5_adds_55 (by decide) ?_
    refine lv_iadd hx hb dX5_adds_56 ?_
    obtain ⟨i12, h⟩ := ck_ok h
    refine va_iast hx hb hK hP hD hS 1 0 rfl rfl i12 dX5_adds_57 (fun H locs hP hD hS => ?_)
    obtain ⟨M13, e14, h⟩ := sv_ok h
    have hP : va_P D classes (wX5 a cI cC cO M13) H := by rw [← e14]; exact hP
    have hD : va_D A (wX5 a cI cC cO M13) := by rw [← e14]; exact hD
    refine lv_aload_n hx hb dX5_adds_58 rfl (lv_at hl 0 rfl) ?_
    refine va_get (D := D) (ci := 5) (v := .ref (a 1)) (C := RX5) (T := TX5) (N := 23) hx hb ht i_X5 hown hK hP 0 rfl rfl 0 (by decide) (ht _ wd_536) (fun _ h9 => h9) rfl dX5_adds_59 ?_
    refine lv_iconst (v := (0 : Int32)) hx hb dX5_adds_62 (by decide) ?_
    obtain ⟨i15, h⟩ := ck_ok h
    refine va_iald hx hb hK hP 1 0 rfl rfl i15 dX5_adds_63 ?_
    refine lv_iconst (v := (1 : Int32)) hx hb dX5_adds_64 (by decide) ?_
    refine lv_isub hx hb dX5_adds_65 ?_
    cases h
    exact rt_i hx hb hr hlocks hS hP hK hD dX5_adds_66
  · replace h := fp c2 h
    refine lv_ldc hx hb hown (ht _ wd_622) dX5_adds_11 ?_
    cases h
    exact rt_i hx hb hr hlocks hS hP hK hD dX5_adds_13
theorem dX5_place_0 : decode cX5_place 0 = .ok (.iload_n 1, 1) := by decide +kernel
theorem dX5_place_1 : decode cX5_place 1 = .ok (.iconst 0, 1) := by decide +kernel
theorem dX5_place_2 : decode cX5_place 2 = .ok (.bipush 20, 2) := by decide +kernel
theorem dX5_place_4 : decode cX5_place 4 = .ok (.invokestatic 63, 3) := by decide +kernel
theorem dX5_place_7 : decode cX5_place 7 = .ok (.ifCond .eq 13, 3) := by decide +kernel
theorem dX5_place_10 : decode cX5_place 10 = .ok (.iload_n 2, 1) := by decide +kernel
theorem dX5_place_11 : decode cX5_place 11 = .ok (.iconst 0, 1) := by decide +kernel
theorem dX5_place_12 : decode cX5_place 12 = .ok (.bipush 40, 2) := by decide +kernel
theorem dX5_place_14 : decode cX5_place 14 = .ok (.invokestatic 63, 3) := by decide +kernel
theorem dX5_place_17 : decode cX5_place 17 = .ok (.ifCond .ne 6, 3) := by decide +kernel
theorem dX5_place_20 : decode cX5_place 20 = .ok (.ldc 67, 2) := by decide +kernel
theorem dX5_place_22 : decode cX5_place 22 = .ok (.ireturn, 1) := by decide +kernel
theorem dX5_place_23 : decode cX5_place 23 = .ok (.aload_n 0, 1) := by decide +kernel
theorem dX5_place_24 : decode cX5_place 24 = .ok (.invokevirtual 72, 3) := by decide +kernel
theorem dX5_place_27 : decode cX5_place 27 = .ok (.aload_n 0, 1) := by decide +kernel
theorem dX5_place_28 : decode cX5_place 28 = .ok (.aload_n 0, 1) := by decide +kernel
theorem dX5_place_29 : decode cX5_place 29 = .ok (.iload_n 1, 1) := by decide +kernel
theorem dX5_place_30 : decode cX5_place 30 = .ok (.iload_n 2, 1) := by decide +kernel
theorem dX5_place_31 : decode cX5_place 31 = .ok (.invokevirtual 75, 3) := by decide +kernel
theorem dX5_place_34 : decode cX5_place 34 = .ok (.invokevirtual 79, 3) := by decide +kernel
theorem dX5_place_37 : decode cX5_place 37 = .ok (.ireturn, 1) := by decide +kernel
set_option maxHeartbeats 4000000 in
set_option maxRecDepth 100000 in
theorem c_X5_place (l : Launch) (D : va_G) (cI cC cO : ClassId) (a : Nat → Nat) (M : Mm) (x1 x2 : Int32) (res : Int32 × Mm) (sz : Nat) (h : F_X5_place M x1 x2 = some res) : Met l yX5_place (Cond.code yX5_place cX5_place 3 (Option.some Jvm.ClassFile.FieldType.int) :: lw_g) ({ frames := 1, cells := 0, slots := 0, locals := 22 } : Room) (va_Pc [.ref (a 0), .int x1, .int x2] (pS D cI cC cO sz (wX5 a cI cC cO M))) (QI D cI cC cO (va_A (wX5 a cI cC cO M) sz) (wX5 a cI cC cO res.2) res.1) 0 0 (va_A (wX5 a cI cC cO M) sz) := by
  refine Met.ofW (cc := cX5_place) (maxL := 3) (ret := (Option.some Jvm.ClassFile.FieldType.int)) (by decide) rfl ?_
  intro p e s m args below meth c s₁ B hml hv
  obtain ⟨rfl, rfl, hP, hK, hD0, hN⟩ := hv
  have hx := B.exec
  have hb := B.bytes
  have hr := B.returns
  have ht : ∀ w ∈ lw_g, w.before ([.ref (a 0), .int x1, .int x2] : List Value).toArray s = true := fun w hw => atoms_spec (ws := Cond.code yX5_place cX5_place 3 (Option.some Jvm.ClassFile.FieldType.int) :: lw_g) B.pre w (List.mem_cons_of_mem _ hw)
  have hown : s.vm.findClass RX5 = some m.cls := findClass_of_methodNamed B.named
  have hlocks := B.notSynchronized
  have hD := hD0.self (sz := s.heap.size)
  generalize hAe : va_A (wX5 a cI cC cO M) s.heap.size = A at hD ⊢
  have hA : ∀ q : Nat, s.heap.size ≤ q → A q := fun q hq => by rw [← hAe]; exact Or.inr hq
  have hS : va_S A s.heap s.heap [] := va_S.rf
  have hl := lv_entry ([.ref (a 0), .int x1, .int x2]) (n := 3) (Nat.le_of_ble_eq_true rfl)
  rw [lg_entry_eq]
  generalize (lg_sl ([.ref (a 0), .int x1, .int x2]) ++ List.replicate (3 - (lg_sl ([.ref (a 0), .int x1, .int x2])).length) Slot.unset).toArray = ls at hl ⊢
  have hl : lv_has ls 3 [(0, .ref (a 0)), (1, .int x1), (2, .int x2)] := hl
  unfold F_X5_place at h
  refine lv_iload_n hx hb dX5_place_0 rfl (lv_at hl 1 rfl) ?_
  refine lv_iconst (v := (0 : Int32)) hx hb dX5_place_1 (by decide) ?_
  refine lv_bipush (v := (20 : Int32)) hx hb dX5_place_2 (by decide) ?_
  obtain ⟨u1, e2, h⟩ := b1_ok h
  refine cl_Si (ws' := (wX5 a cI cC cO M)) ⟨hx, hb, hml, hown, ht⟩ (c_X5_in l D cI cC cO x1 (0 : Int32) (20 : Int32) _ _ e2) (cwst 3 ht wd_612 wd_6 wd_610 wd_611 (by decide +kernel) rfl rfl ⟨Nat.le_of_ble_eq_true rfl, Nat.le_of_ble_eq_true rfl⟩) hK hP hD hS hA hN [] [0, 1, 2, 3, 4, 5, 6, 7, 8, 9, 10, 11, 12] [0, 1, 2, 3, 4, 5, 6, 7, 8, 9, 10, 11, 12] (by decide) rfl rfl (by decide) (by decide) rfl (by decide) rfl hl.1 rfl (Nat.le_of_ble_eq_true rfl) dX5_place_4 ⟨Nat.le_of_ble_eq_true rfl, Nat.le_of_ble_eq_true rfl⟩ (fun H locs hP hD hS => ?_)
  refine lv_if_eq (tgt := 20) hx hb dX5_place_7 (by decide) (fun c3 => ?_) (fun c3 => ?_)
  · replace h := fp c3 h
    refine lv_ldc hx hb hown (ht _ wd_613) dX5_place_20 ?_
    cases h
    exact rt_i hx hb hr hlocks hS hP hK hD dX5_place_22
  · replace h := fn c3 h
    refine lv_iload_n hx hb dX5_place_10 rfl (lv_at hl 2 rfl) ?_
    refine lv_iconst (v := (0 : Int32)) hx hb dX5_place_11 (by decide) ?_
    refine lv_bipush (v := (40 : Int32)) hx hb dX5_place_12 (by decide) ?_
    obtain ⟨u4, e5, h⟩ := b1_ok h
    refine cl_Si (ws' := (wX5 a cI cC cO M)) ⟨hx, hb, hml, hown, ht⟩ (c_X5_in l D cI cC cO x2 (0 : Int32) (40 : Int32) _ _ e5) (cwst 3 ht wd_612 wd_6 wd_610 wd_611 (by decide +kernel) rfl rfl ⟨Nat.le_of_ble_eq_true rfl, Nat.le_of_ble_eq_true rfl⟩) hK hP hD hS hA hN [] [0, 1, 2, 3, 4, 5, 6, 7, 8, 9, 10, 11, 12] [0, 1, 2, 3, 4, 5, 6, 7, 8, 9, 10, 11, 12] (by decide) rfl rfl (by decide) (by decide) rfl (by decide) rfl hl.1 rfl (Nat.le_of_ble_eq_true rfl) dX5_place_14 ⟨Nat.le_of_ble_eq_true rfl, Nat.le_of_ble_eq_true rfl⟩ (fun H locs hP hD hS => ?_)
    refine lv_if_ne (tgt := 23) hx hb dX5_place_17 (by decide) (fun c6 => ?_) (fun c6 => ?_)
    · replace h := fn c6 h
      refine lv_aload_n hx hb dX5_place_23 rfl (lv_at hl 0 rfl) ?_
      obtain ⟨M7, e8, h⟩ := b1_ok h
      refine cl_Vv (ws' := (wX5 a cI cC cO M7)) ⟨hx, hb, hml, hown, ht⟩ (c_X5_keeps l D cI cC cO a M _ _ e8) (cwv 0 ht wd_617 wd_6 wd_614 wd_616 ws_20 (by decide +kernel) rfl rfl ⟨Nat.le_of_ble_eq_true rfl, Nat.le_of_ble_eq_true rfl⟩) 5 0 rfl rfl rfl hK hP hD hS hA hN [0, 1, 2, 3, 4, 5, 6, 7, 8, 9, 10, 11, 12] [] [0, 1, 2, 3, 4, 5, 6, 7, 8, 9, 10, 11, 12] (by decide) rfl rfl (by decide) (by decide) rfl (by decide) rfl hl.1 rfl (Nat.le_of_ble_eq_true rfl) dX5_place_24 ⟨Nat.le_of_ble_eq_true rfl, Nat.le_of_ble_eq_true rfl⟩ (fun H locs hP hD hS => ?_)
      refine lv_aload_n hx hb dX5_place_27 rfl (lv_at hl 0 rfl) ?_
      refine lv_aload_n hx hb dX5_place_28 rfl (lv_at hl 0 rfl) ?_
      refine lv_iload_n hx hb dX5_place_29 rfl (lv_at hl 1 rfl) ?_
      refine lv_iload_n hx hb dX5_place_30 rfl (lv_at hl 2 rfl) ?_
      obtain ⟨u9, M10, e11, h⟩ := b2_ok h
      refine cl_Vi (ws' := (wX5 a cI cC cO M10)) ⟨hx, hb, hml, hown, ht⟩ (c_X5_adds l D cI cC cO a M7 x1 x2 _ _ e11) (cwv 2 ht wd_621 wd_6 wd_618 wd_620 ws_21 (by decide +kernel) rfl rfl ⟨Nat.le_of_ble_eq_true rfl, Nat.le_of_ble_eq_true rfl⟩) 5 0 rfl rfl rfl hK hP hD hS hA hN [0, 1, 2, 3, 4, 5, 6, 7, 8, 9, 10, 11, 12] [] [0, 1, 2, 3, 4, 5, 6, 7, 8, 9, 10, 11, 12] (by decide) rfl rfl (by decide) (by decide) rfl (by decide) rfl hl.1 rfl (Nat.le_of_ble_eq_true rfl) dX5_place_31 ⟨Nat.le_of_ble_eq_true rfl, Nat.le_of_ble_eq_true rfl⟩ (fun H locs hP hD hS => ?_)
      obtain ⟨u12, M13, e14, h⟩ := b2_ok h
      refine cl_Vi (ws' := (wX5 a cI cC cO M13)) ⟨hx, hb, hml, hown, ht⟩ (c_X5_acted l D cI cC cO a M10 u9 _ _ e14) (cwv 1 ht wd_626 wd_6 wd_623 wd_625 ws_22 (by decide +kernel) rfl rfl ⟨Nat.le_of_ble_eq_true rfl, Nat.le_of_ble_eq_true rfl⟩) 5 0 rfl rfl rfl hK hP hD hS hA hN [0, 1, 2, 3, 4, 5, 6, 7, 8, 9, 10, 11, 12] [] [0, 1, 2, 3, 4, 5, 6, 7, 8, 9, 10, 11, 12] (by decide) rfl rfl (by decide) (by decide) rfl (by decide) rfl hl.1 rfl (Nat.le_of_ble_eq_true rfl) dX5_place_34 ⟨Nat.le_of_ble_eq_true rfl, Nat.le_of_ble_eq_true rfl⟩ (fun H locs hP hD hS => ?_)
      cases h
      exact rt_i hx hb hr hlocks hS hP hK hD dX5_place_37
    · replace h := fp c6 h
      refine lv_ldc hx hb hown (ht _ wd_613) dX5_place_20 ?_
      cases h
      exact rt_i hx hb hr hlocks hS hP hK hD dX5_place_22
theorem dX5_lays_0 : decode cX5_lays 0 = .ok (.aload_n 0, 1) := by decide +kernel
theorem dX5_lays_1 : decode cX5_lays 1 = .ok (.getfield 7, 3) := by decide +kernel
theorem dX5_lays_4 : decode cX5_lays 4 = .ok (.iconst 1, 1) := by decide +kernel
theorem dX5_lays_5 : decode cX5_lays 5 = .ok (.iaload, 1) := by decide +kernel
theorem dX5_lays_6 : decode cX5_lays 6 = .ok (.bipush 10, 2) := by decide +kernel
theorem dX5_lays_8 : decode cX5_lays 8 = .ok (.if_icmp .ne 6, 3) := by decide +kernel
theorem dX5_lays_11 : decode cX5_lays 11 = .ok (.ldc 71, 2) := by decide +kernel
theorem dX5_lays_13 : decode cX5_lays 13 = .ok (.ireturn, 1) := by decide +kernel
theorem dX5_lays_14 : decode cX5_lays 14 = .ok (.bipush 14, 2) := by decide +kernel
theorem dX5_lays_16 : decode cX5_lays 16 = .ok (.bipush 6, 2) := by decide +kernel
theorem dX5_lays_18 : decode cX5_lays 18 = .ok (.aload_n 0, 1) := by decide +kernel
theorem dX5_lays_19 : decode cX5_lays 19 = .ok (.getfield 7, 3) := by decide +kernel
theorem dX5_lays_22 : decode cX5_lays 22 = .ok (.iconst 1, 1) := by decide +kernel
theorem dX5_lays_23 : decode cX5_lays 23 = .ok (.iaload, 1) := by decide +kernel
theorem dX5_lays_24 : decode cX5_lays 24 = .ok (.imul, 1) := by decide +kernel
theorem dX5_lays_25 : decode cX5_lays 25 = .ok (.iadd, 1) := by decide +kernel
theorem dX5_lays_26 : decode cX5_lays 26 = .ok (.istore 5, 2) := by decide +kernel
theorem dX5_lays_28 : decode cX5_lays 28 = .ok (.aload_n 0, 1) := by decide +kernel
theorem dX5_lays_29 : decode cX5_lays 29 = .ok (.getfield 7, 3) := by decide +kernel
theorem dX5_lays_32 : decode cX5_lays 32 = .ok (.iload 5, 2) := by decide +kernel
theorem dX5_lays_34 : decode cX5_lays 34 = .ok (.iload_n 1, 1) := by decide +kernel
theorem dX5_lays_35 : decode cX5_lays 35 = .ok (.iastore, 1) := by decide +kernel
theorem dX5_lays_36 : decode cX5_lays 36 = .ok (.aload_n 0, 1) := by decide +kernel
theorem dX5_lays_37 : decode cX5_lays 37 = .ok (.getfield 7, 3) := by decide +kernel
theorem dX5_lays_40 : decode cX5_lays 40 = .ok (.iload 5, 2) := by decide +kernel
theorem dX5_lays_42 : decode cX5_lays 42 = .ok (.iconst 1, 1) := by decide +kernel
theorem dX5_lays_43 : decode cX5_lays 43 = .ok (.iadd, 1) := by decide +kernel
theorem dX5_lays_44 : decode cX5_lays 44 = .ok (.iload_n 2, 1) := by decide +kernel
theorem dX5_lays_45 : decode cX5_lays 45 = .ok (.iastore, 1) := by decide +kernel
theorem dX5_lays_46 : decode cX5_lays 46 = .ok (.aload_n 0, 1) := by decide +kernel
theorem dX5_lays_47 : decode cX5_lays 47 = .ok (.getfield 7, 3) := by decide +kernel
theorem dX5_lays_50 : decode cX5_lays 50 = .ok (.iload 5, 2) := by decide +kernel
theorem dX5_lays_52 : decode cX5_lays 52 = .ok (.iconst 2, 1) := by decide +kernel
theorem dX5_lays_53 : decode cX5_lays 53 = .ok (.iadd, 1) := by decide +kernel
theorem dX5_lays_54 : decode cX5_lays 54 = .ok (.iload_n 3, 1) := by decide +kernel
theorem dX5_lays_55 : decode cX5_lays 55 = .ok (.iastore, 1) := by decide +kernel
theorem dX5_lays_56 : decode cX5_lays 56 = .ok (.aload_n 0, 1) := by decide +kernel
theorem dX5_lays_57 : decode cX5_lays 57 = .ok (.getfield 7, 3) := by decide +kernel
theorem dX5_lays_60 : decode cX5_lays 60 = .ok (.iload 5, 2) := by decide +kernel
theorem dX5_lays_62 : decode cX5_lays 62 = .ok (.iconst 3, 1) := by decide +kernel
theorem dX5_lays_63 : decode cX5_lays 63 = .ok (.iadd, 1) := by decide +kernel
theorem dX5_lays_64 : decode cX5_lays 64 = .ok (.iload 4, 2) := by decide +kernel
theorem dX5_lays_66 : decode cX5_lays 66 = .ok (.iastore, 1) := by decide +kernel
theorem dX5_lays_67 : decode cX5_lays 67 = .ok (.aload_n 0, 1) := by decide +kernel
theorem dX5_lays_68 : decode cX5_lays 68 = .ok (.getfield 7, 3) := by decide +kernel
theorem dX5_lays_71 : decode cX5_lays 71 = .ok (.iload 5, 2) := by decide +kernel
theorem dX5_lays_73 : decode cX5_lays 73 = .ok (.iconst 4, 1) := by decide +kernel
theorem dX5_lays_74 : decode cX5_lays 74 = .ok (.iadd, 1) := by decide +kernel
theorem dX5_lays_75 : decode cX5_lays 75 = .ok (.iconst 0, 1) := by decide +kernel
theorem dX5_lays_76 : decode cX5_lays 76 = .ok (.iastore, 1) := by decide +kernel
theorem dX5_lays_77 : decode cX5_lays 77 = .ok (.aload_n 0, 1) := by decide +kernel
theorem dX5_lays_78 : decode cX5_lays 78 = .ok (.getfield 7, 3) := by decide +kernel
theorem dX5_lays_81 : decode cX5_lays 81 = .ok (.iload 5, 2) := by decide +kernel
theorem dX5_lays_83 : decode cX5_lays 83 = .ok (.iconst 5, 1) := by decide +kernel
theorem dX5_lays_84 : decode cX5_lays 84 = .ok (.iadd, 1) := by decide +kernel
theorem dX5_lays_85 : decode cX5_lays 85 = .ok (.bipush 15, 2) := by decide +kernel
theorem dX5_lays_87 : decode cX5_lays 87 = .ok (.iastore, 1) := by decide +kernel
theorem dX5_lays_88 : decode cX5_lays 88 = .ok (.aload_n 0, 1) := by decide +kernel
theorem dX5_lays_89 : decode cX5_lays 89 = .ok (.getfield 7, 3) := by decide +kernel
theorem dX5_lays_92 : decode cX5_lays 92 = .ok (.iconst 1, 1) := by decide +kernel
theorem dX5_lays_93 : decode cX5_lays 93 = .ok (.dup2, 1) := by decide +kernel
theorem dX5_lays_94 : decode cX5_lays 94 = .ok (.iaload, 1) := by decide +kernel
theorem dX5_lays_95 : decode cX5_lays 95 = .ok (.iconst 1, 1) := by decide +kernel
theorem dX5_lays_96 : decode cX5_lays 96 = .ok (.iadd, 1) := by decide +kernel
theorem dX5_lays_97 : decode cX5_lays 97 = .ok (.iastore, 1) := by decide +kernel
theorem dX5_lays_98 : decode cX5_lays 98 = .ok (.aload_n 0, 1) := by decide +kernel
theorem dX5_lays_99 : decode cX5_lays 99 = .ok (.getfield 7, 3) := by decide +kernel
theorem dX5_lays_102 : decode cX5_lays 102 = .ok (.iconst 1, 1) := by decide +kernel
theorem dX5_lays_103 : decode cX5_lays 103 = .ok (.iaload, 1) := by decide +kernel
theorem dX5_lays_104 : decode cX5_lays 104 = .ok (.iconst 1, 1) := by decide +kernel
theorem dX5_lays_105 : decode cX5_lays 105 = .ok (.isub, 1) := by decide +kernel
theorem dX5_lays_106 : decode cX5_lays 106 = .ok (.ireturn, 1) := by decide +kernel
set_option maxHeartbeats 4000000 in
set_option maxRecDepth 100000 in
theorem c_X5_lays (l : Launch) (D : va_G) (cI cC cO : ClassId) (a : Nat → Nat) (M : Mm) (x1 x2 x3 x4 : Int32) (res : Int32 × Mm) (sz : Nat) (h : F_X5_lays M x1 x2 x3 x4 = some res) : Met l yX5_lays (Cond.code yX5_lays cX5_lays 6 (Option.some Jvm.ClassFile.FieldType.int) :: lw_g) ({ frames := 0, cells := 0, slots := 0, locals := 0 } : Room) (va_Pc [.ref (a 0), .int x1, .int x2, .int x3, .int x4] (pS D cI cC cO sz (wX5 a cI cC cO M))) (QI D cI cC cO (va_A (wX5 a cI cC cO M) sz) (wX5 a cI cC cO res.2) res.1) 0 0 (va_A (wX5 a cI cC cO M) sz) := by
  refine Met.ofW (cc := cX5_lays) (maxL := 6) (ret := (Option.some Jvm.ClassFile.FieldType.int)) (by decide) rfl ?_
  intro p e s m args below meth c s₁ B hml hv
  obtain ⟨rfl, rfl, hP, hK, hD0, hN⟩ := hv
  have hx := B.exec
  have hb := B.bytes
  have hr := B.returns
  have ht : ∀ w ∈ lw_g, w.before ([.ref (a 0), .int x1, .int x2, .int x3, .int x4] : List Value).toArray s = true := fun w hw => atoms_spec (ws := Cond.code yX5_lays cX5_lays 6 (Option.some Jvm.ClassFile.FieldType.int) :: lw_g) B.pre w (List.mem_cons_of_mem _ hw)
  have hown : s.vm.findClass RX5 = some m.cls := findClass_of_methodNamed B.named
  have hlocks := B.notSynchronized
  have hD := hD0.self (sz := s.heap.size)
  generalize hAe : va_A (wX5 a cI cC cO M) s.heap.size = A at hD ⊢
  have hA : ∀ q : Nat, s.heap.size ≤ q → A q := fun q hq => by rw [← hAe]; exact Or.inr hq
  have hS : va_S A s.heap s.heap [] := va_S.rf
  have hl := lv_entry ([.ref (a 0), .int x1, .int x2, .int x3, .int x4]) (n := 6) (Nat.le_of_ble_eq_true rfl)
  rw [lg_entry_eq]
  generalize (lg_sl ([.ref (a 0), .int x1, .int x2, .int x3, .int x4]) ++ List.replicate (6 - (lg_sl ([.ref (a 0), .int x1, .int x2, .int x3, .int x4])).length) Slot.unset).toArray = ls at hl ⊢
  have hl : lv_has ls 6 [(0, .ref (a 0)), (1, .int x1), (2, .int x2), (3, .int x3), (4, .int x4)] := hl
  unfold F_X5_lays at h
  refine lv_aload_n hx hb dX5_lays_0 rfl (lv_at hl 0 rfl) ?_
  refine va_get (D := D) (ci := 5) (v := .ref (a 1)) (C := RX5) (T := TX5) (N := 23) hx hb ht i_X5 hown hK hP 0 rfl rfl 0 (by decide) (ht _ wd_536) (fun _ h9 => h9) rfl dX5_lays_1 ?_
  refine lv_iconst (v := (1 : Int32)) hx hb dX5_lays_4 (by decide) ?_
  obtain ⟨i1, h⟩ := ck_ok h
  refine va_iald hx hb hK hP 1 0 rfl rfl i1 dX5_lays_5 ?_
  refine lv_bipush (v := (10 : Int32)) hx hb dX5_lays_6 (by decide) ?_
  refine lv_icmp_ne (tgt := 14) hx hb dX5_lays_8 (by decide) (fun c2 => ?_) (fun c2 => ?_)
  · replace h := fn c2 h
    refine lv_bipush (v := (14 : Int32)) hx hb dX5_lays_14 (by decide) ?_
    refine lv_bipush (v := (6 : Int32)) hx hb dX5_lays_16 (by decide) ?_
    refine lv_aload_n hx hb dX5_lays_18 rfl (lv_at hl 0 rfl) ?_
    refine va_get (D := D) (ci := 5) (v := .ref (a 1)) (C := RX5) (T := TX5) (N := 23) hx hb ht i_X5 hown hK hP 0 rfl rfl 0 (by decide) (ht _ wd_536) (fun _ h9 => h9) rfl dX5_lays_19 ?_
    refine lv_iconst (v := (1 : Int32)) hx hb dX5_lays_22 (by decide) ?_
    obtain ⟨i3, h⟩ := ck_ok h
    refine va_iald hx hb hK hP 1 0 rfl rfl i3 dX5_lays_23 ?_
    refine lv_imul hx hb dX5_lays_24 ?_
    refine lv_iadd hx hb dX5_lays_25 ?_
    refine lv_istore (lv' := [(5, .int ((14 : Int32) + ((6 : Int32) * (M 0 (1 : Int32).toNatClampNeg)))), (0, .ref (a 0)), (1, .int x1), (2, .int x2), (3, .int x3), (4, .int x4)]) hx hb dX5_lays_26 hl (by decide) rfl (fun ls hl => ?_)
    refine lv_aload_n hx hb dX5_lays_28 rfl (lv_at hl 1 rfl) ?_
    refine va_get (D := D) (ci := 5) (v := .ref (a 1)) (C := RX5) (T := TX5) (N := 23) hx hb ht i_X5 hown hK hP 0 rfl rfl 0 (by decide) (ht _ wd_536) (fun _ h9 => h9) rfl dX5_lays_29 ?_
    refine lv_iload hx hb dX5_lays_32 (lv_at hl 0 rfl) ?_
    refine lv_iload_n hx hb dX5_lays_34 rfl (lv_at hl 2 rfl) ?_
    obtain ⟨i4, h⟩ := ck_ok h
    refine va_iast hx hb hK hP hD hS 1 0 rfl rfl i4 dX5_lays_35 (fun H locs hP hD hS => ?_)
    obtain ⟨M5, e6, h⟩ := sv_ok h
    have hP : va_P D classes (wX5 a cI cC cO M5) H := by rw [← e6]; exact hP
    have hD : va_D A (wX5 a cI cC cO M5) := by rw [← e6]; exact hD
    refine lv_aload_n hx hb dX5_lays_36 rfl (lv_at hl 1 rfl) ?_
    refine va_get (D := D) (ci := 5) (v := .ref (a 1)) (C := RX5) (T := TX5) (N := 23) hx hb ht i_X5 hown hK hP 0 rfl rfl 0 (by decide) (ht _ wd_536) (fun _ h9 => h9) rfl dX5_lays_37 ?_
    refine lv_iload hx hb dX5_lays_40 (lv_at hl 0 rfl) ?_
    refine lv_iconst (v := (1 : Int32)) hx hb dX5_lays_42 (by decide) ?_
    refine lv_iadd hx hb dX5_lays_43 ?_
    refine lv_iload_n hx hb dX5_lays_44 rfl (lv_at hl 3 rfl) ?_
    obtain ⟨i7, h⟩ := ck_ok h
    refine va_iast hx hb hK hP hD hS 1 0 rfl rfl i7 dX5_lays_45 (fun H locs hP hD hS => ?_)
    obtain ⟨M8, e9, h⟩ := sv_ok h
    have hP : va_P D classes (wX5 a cI cC cO M8) H := by rw [← e9]; exact hP
    have hD : va_D A (wX5 a cI cC cO M8) := by rw [← e9]; exact hD
    refine lv_aload_n hx hb dX5_lays_46 rfl (lv_at hl 1 rfl) ?_
    refine va_get (D := D) (ci := 5) (v := .ref (a 1)) (C := RX5) (T := TX5) (N := 23) hx hb ht i_X5 hown hK hP 0 rfl rfl 0 (by decide) (ht _ wd_536) (fun _ h9 => h9) rfl dX5_lays_47 ?_
    refine lv_iload hx hb dX5_lays_50 (lv_at hl 0 rfl) ?_
    refine lv_iconst (v := (2 : Int32)) hx hb dX5_lays_52 (by decide) ?_
    refine lv_iadd hx hb dX5_lays_53 ?_
    refine lv_iload_n hx hb dX5_lays_54 rfl (lv_at hl 4 rfl) ?_
    obtain ⟨i10, h⟩ := ck_ok h
    refine va_iast hx hb hK hP hD hS 1 0 rfl rfl i10 dX5_lays_55 (fun H locs hP hD hS => ?_)
    obtain ⟨M11, e12, h⟩ := sv_ok h
    have hP : va_P D classes (wX5 a cI cC cO M11) H := by rw [← e12]; exact hP
    have hD : va_D A (wX5 a cI cC cO M11) := by rw [← e12]; exact hD
    refine lv_aload_n hx hb dX5_lays_56 rfl (lv_at hl 1 rfl) ?_
    refine va_get (D := D) (ci := 5) (v := .ref (a 1)) (C := RX5) (T := TX5) (N := 23) hx hb ht i_X5 hown hK hP 0 rfl rfl 0 (by decide) (ht _ wd_536) (fun _ h9 => h9) rfl dX5_lays_57 ?_
    refine lv_iload hx hb dX5_lays_60 (lv_at hl 0 rfl) ?_
    refine lv_iconst (v := (3 : Int32)) hx hb dX5_lays_62 (by decide) ?_
    refine lv_iadd hx hb dX5_lays_63 ?_
    refine lv_iload hx hb dX5_lays_64 (lv_at hl 5 rfl) ?_
    obtain ⟨i13, h⟩ := ck_ok h
    refine va_iast hx hb hK hP hD hS 1 0 rfl rfl i13 dX5_lays_66 (fun H locs hP hD hS => ?_)
    obtain ⟨M14, e15, h⟩ := sv_ok h
    have hP : va_P D classes (wX5 a cI cC cO M14) H := by rw [← e15]; exact hP
    have hD : va_D A (wX5 a cI cC cO M14) := by rw [← e15]; exact hD
    refine lv_aload_n hx hb dX5_lays_67 rfl (lv_at hl 1 rfl) ?_
    refine va_get (D := D) (ci := 5) (v := .ref (a 1)) (C := RX5) (T := TX5) (N := 23) hx hb ht i_X5 hown hK hP 0 rfl rfl 0 (by decide) (ht _ wd_536) (fun _ h9 => h9) rfl dX5_lays_68 ?_
    refine lv_iload hx hb dX5_lays_71 (lv_at hl 0 rfl) ?_
    refine lv_iconst (v := (4 : Int32)) hx hb dX5_lays_73 (by decide) ?_
    refine lv_iadd hx hb dX5_lays_74 ?_
    refine lv_iconst (v := (0 : Int32)) hx hb dX5_lays_75 (by decide) ?_
    obtain ⟨i16, h⟩ := ck_ok h
    refine va_iast hx hb hK hP hD hS 1 0 rfl rfl i16 dX5_lays_76 (fun H locs hP hD hS => ?_)
    obtain ⟨M17, e18, h⟩ := sv_ok h
    have hP : va_P D classes (wX5 a cI cC cO M17) H := by rw [← e18]; exact hP
    have hD : va_D A (wX5 a cI cC cO M17) := by rw [← e18]; exact hD
    refine lv_aload_n hx hb dX5_lays_77 rfl (lv_at hl 1 rfl) ?_
    refine va_get (D := D) (ci := 5) (v := .ref (a 1)) (C := RX5) (T := TX5) (N := 23) hx hb ht i_X5 hown hK hP 0 rfl rfl 0 (by decide) (ht _ wd_536) (fun _ h9 => h9) rfl dX5_lays_78 ?_
    refine lv_iload hx hb dX5_lays_81 (lv_at hl 0 rfl) ?_
    refine lv_iconst (v := (5 : Int32)) hx hb dX5_lays_83 (by decide) ?_
    refine lv_iadd hx hb dX5_lays_84 ?_
    refine lv_bipush (v := (15 : Int32)) hx hb dX5_lays_85 (by decide) ?_
    obtain ⟨i19, h⟩ := ck_ok h
    refine va_iast hx hb hK hP hD hS 1 0 rfl rfl i19 dX5_lays_87 (fun H locs hP hD hS => ?_)
    obtain ⟨M20, e21, h⟩ := sv_ok h
    have hP : va_P D classes (wX5 a cI cC cO M20) H := by rw [← e21]; exact hP
    have hD : va_D A (wX5 a cI cC cO M20) := by rw [← e21]; exact hD
    refine lv_aload_n hx hb dX5_lays_88 rfl (lv_at hl 1 rfl) ?_
    refine va_get (D := D) (ci := 5) (v := .ref (a 1)) (C := RX5) (T := TX5) (N := 23) hx hb ht i_X5 hown hK hP 0 rfl rfl 0 (by decide) (ht _ wd_536) (fun _ h9 => h9) rfl dX5_lays_89 ?_
    refine lv_iconst (v := (1 : Int32)) hx hb dX5_lays_92 (by decide) ?_
    refine lv_dup2_11 hx hb dX5_lays_93 rfl rfl ?_
    obtain ⟨i22, h⟩ := ck_ok h
    refine va_iald hx hb hK hP 1 0 rfl rfl i22 dX5_lays_94 ?_
    refine lv_iconst (v := (1 : Int32)) hx hb dX5_lays_95 (by decide) ?_
    refine lv_iadd hx hb dX5_lays_96 ?_
    obtain ⟨i23, h⟩ := ck_ok h
    refine va_iast hx hb hK hP hD hS 1 0 rfl rfl i23 dX5_lays_97 (fun H locs hP hD hS => ?_)
    obtain ⟨M24, e25, h⟩ := sv_ok h
    have hP : va_P D classes (wX5 a cI cC cO M24) H := by rw [← e25]; exact hP
    have hD : va_D A (wX5 a cI cC cO M24) := by rw [← e25]; exact hD
    refine lv_aload_n hx hb dX5_lays_98 rfl (lv_at hl 1 rfl) ?_
    refine va_get (D := D) (ci := 5) (v := .ref (a 1)) (C := RX5) (T := TX5) (N := 23) hx hb ht i_X5 hown hK hP 0 rfl rfl 0 (by decide) (ht _ wd_536) (fun _ h9 => h9) rfl dX5_lays_99 ?_
    refine lv_iconst (v := (1 : Int32)) hx hb dX5_lays_102 (by decide) ?_
    obtain ⟨i26, h⟩ := ck_ok h
    refine va_iald hx hb hK hP 1 0 rfl rfl i26 dX5_lays_103 ?_
    refine lv_iconst (v := (1 : Int32)) hx hb dX5_lays_104 (by decide) ?_
    refine lv_isub hx hb dX5_lays_105 ?_
    cases h
    exact rt_i hx hb hr hlocks hS hP hK hD dX5_lays_106
  · replace h := fp c2 h
    refine lv_ldc hx hb hown (ht _ wd_622) dX5_lays_11 ?_
    cases h
    exact rt_i hx hb hr hlocks hS hP hK hD dX5_lays_13
theorem dX5_pipe_0 : decode cX5_pipe 0 = .ok (.aload_n 0, 1) := by decide +kernel
theorem dX5_pipe_1 : decode cX5_pipe 1 = .ok (.iload_n 1, 1) := by decide +kernel
theorem dX5_pipe_2 : decode cX5_pipe 2 = .ok (.invokevirtual 83, 3) := by decide +kernel
theorem dX5_pipe_5 : decode cX5_pipe 5 = .ok (.ifCond .eq 36, 3) := by decide +kernel
theorem dX5_pipe_8 : decode cX5_pipe 8 = .ok (.aload_n 0, 1) := by decide +kernel
theorem dX5_pipe_9 : decode cX5_pipe 9 = .ok (.iload_n 2, 1) := by decide +kernel
theorem dX5_pipe_10 : decode cX5_pipe 10 = .ok (.invokevirtual 83, 3) := by decide +kernel
theorem dX5_pipe_13 : decode cX5_pipe 13 = .ok (.ifCond .eq 28, 3) := by decide +kernel
theorem dX5_pipe_16 : decode cX5_pipe 16 = .ok (.iload_n 1, 1) := by decide +kernel
theorem dX5_pipe_17 : decode cX5_pipe 17 = .ok (.iload_n 2, 1) := by decide +kernel
theorem dX5_pipe_18 : decode cX5_pipe 18 = .ok (.if_icmp .eq 23, 3) := by decide +kernel
theorem dX5_pipe_21 : decode cX5_pipe 21 = .ok (.iload_n 3, 1) := by decide +kernel
theorem dX5_pipe_22 : decode cX5_pipe 22 = .ok (.iconst 1, 1) := by decide +kernel
theorem dX5_pipe_23 : decode cX5_pipe 23 = .ok (.iconst 4, 1) := by decide +kernel
theorem dX5_pipe_24 : decode cX5_pipe 24 = .ok (.invokestatic 63, 3) := by decide +kernel
theorem dX5_pipe_27 : decode cX5_pipe 27 = .ok (.ifCond .eq 14, 3) := by decide +kernel
theorem dX5_pipe_30 : decode cX5_pipe 30 = .ok (.iload 4, 2) := by decide +kernel
theorem dX5_pipe_32 : decode cX5_pipe 32 = .ok (.iconst 1, 1) := by decide +kernel
theorem dX5_pipe_33 : decode cX5_pipe 33 = .ok (.bipush 9, 2) := by decide +kernel
theorem dX5_pipe_35 : decode cX5_pipe 35 = .ok (.invokestatic 63, 3) := by decide +kernel
theorem dX5_pipe_38 : decode cX5_pipe 38 = .ok (.ifCond .ne 6, 3) := by decide +kernel
theorem dX5_pipe_41 : decode cX5_pipe 41 = .ok (.ldc 67, 2) := by decide +kernel
theorem dX5_pipe_43 : decode cX5_pipe 43 = .ok (.ireturn, 1) := by decide +kernel
theorem dX5_pipe_44 : decode cX5_pipe 44 = .ok (.aload_n 0, 1) := by decide +kernel
theorem dX5_pipe_45 : decode cX5_pipe 45 = .ok (.invokevirtual 72, 3) := by decide +kernel
theorem dX5_pipe_48 : decode cX5_pipe 48 = .ok (.aload_n 0, 1) := by decide +kernel
theorem dX5_pipe_49 : decode cX5_pipe 49 = .ok (.aload_n 0, 1) := by decide +kernel
theorem dX5_pipe_50 : decode cX5_pipe 50 = .ok (.iload_n 1, 1) := by decide +kernel
theorem dX5_pipe_51 : decode cX5_pipe 51 = .ok (.iload_n 2, 1) := by decide +kernel
theorem dX5_pipe_52 : decode cX5_pipe 52 = .ok (.iload_n 3, 1) := by decide +kernel
theorem dX5_pipe_53 : decode cX5_pipe 53 = .ok (.iload 4, 2) := by decide +kernel
theorem dX5_pipe_55 : decode cX5_pipe 55 = .ok (.invokevirtual 87, 3) := by decide +kernel
theorem dX5_pipe_58 : decode cX5_pipe 58 = .ok (.invokevirtual 79, 3) := by decide +kernel
theorem dX5_pipe_61 : decode cX5_pipe 61 = .ok (.ireturn, 1) := by decide +kernel
set_option maxHeartbeats 4000000 in
set_option maxRecDepth 100000 in
theorem c_X5_pipe (l : Launch) (D : va_G) (cI cC cO : ClassId) (a : Nat → Nat) (M : Mm) (x1 x2 x3 x4 : Int32) (res : Int32 × Mm) (sz : Nat) (h : F_X5_pipe M x1 x2 x3 x4 = some res) : Met l yX5_pipe (Cond.code yX5_pipe cX5_pipe 5 (Option.some Jvm.ClassFile.FieldType.int) :: lw_g) ({ frames := 2, cells := 0, slots := 0, locals := 43 } : Room) (va_Pc [.ref (a 0), .int x1, .int x2, .int x3, .int x4] (pS D cI cC cO sz (wX5 a cI cC cO M))) (QI D cI cC cO (va_A (wX5 a cI cC cO M) sz) (wX5 a cI cC cO res.2) res.1) 0 0 (va_A (wX5 a cI cC cO M) sz) := by
  refine Met.ofW (cc := cX5_pipe) (maxL := 5) (ret := (Option.some Jvm.ClassFile.FieldType.int)) (by decide) rfl ?_
  intro p e s m args below meth c s₁ B hml hv
  obtain ⟨rfl, rfl, hP, hK, hD0, hN⟩ := hv
  have hx := B.exec
  have hb := B.bytes
  have hr := B.returns
  have ht : ∀ w ∈ lw_g, w.before ([.ref (a 0), .int x1, .int x2, .int x3, .int x4] : List Value).toArray s = true := fun w hw => atoms_spec (ws := Cond.code yX5_pipe cX5_pipe 5 (Option.some Jvm.ClassFile.FieldType.int) :: lw_g) B.pre w (List.mem_cons_of_mem _ hw)
  have hown : s.vm.findClass RX5 = some m.cls := findClass_of_methodNamed B.named
  have hlocks := B.notSynchronized
  have hD := hD0.self (sz := s.heap.size)
  generalize hAe : va_A (wX5 a cI cC cO M) s.heap.size = A at hD ⊢
  have hA : ∀ q : Nat, s.heap.size ≤ q → A q := fun q hq => by rw [← hAe]; exact Or.inr hq
  have hS : va_S A s.heap s.heap [] := va_S.rf
  have hl := lv_entry ([.ref (a 0), .int x1, .int x2, .int x3, .int x4]) (n := 5) (Nat.le_of_ble_eq_true rfl)
  rw [lg_entry_eq]
  generalize (lg_sl ([.ref (a 0), .int x1, .int x2, .int x3, .int x4]) ++ List.replicate (5 - (lg_sl ([.ref (a 0), .int x1, .int x2, .int x3, .int x4])).length) Slot.unset).toArray = ls at hl ⊢
  have hl : lv_has ls 5 [(0, .ref (a 0)), (1, .int x1), (2, .int x2), (3, .int x3), (4, .int x4)] := hl
  unfold F_X5_pipe at h
  refine lv_aload_n hx hb dX5_pipe_0 rfl (lv_at hl 0 rfl) ?_
  refine lv_iload_n hx hb dX5_pipe_1 rfl (lv_at hl 1 rfl) ?_
  obtain ⟨u1, e2, h⟩ := b1_ok h
  refine cl_Vi (ws' := (wX5 a cI cC cO M)) ⟨hx, hb, hml, hown, ht⟩ (c_X5_isPlace l D cI cC cO a M x1 _ _ e2) (cwv 1 ht wd_634 wd_6 wd_631 wd_633 ws_23 (by decide +kernel) rfl rfl ⟨Nat.le_of_ble_eq_true rfl, Nat.le_of_ble_eq_true rfl⟩) 5 0 rfl rfl rfl hK hP hD hS hA hN [0, 1, 2, 3, 4, 5, 6, 7, 8, 9, 10, 11, 12] [] [0, 1, 2, 3, 4, 5, 6, 7, 8, 9, 10, 11, 12] (by decide) rfl rfl (by decide) (by decide) rfl (by decide) rfl hl.1 rfl (Nat.le_of_ble_eq_true rfl) dX5_pipe_2 ⟨Nat.le_of_ble_eq_true rfl, Nat.le_of_ble_eq_true rfl⟩ (fun H locs hP hD hS => ?_)
  refine lv_if_eq (tgt := 41) hx hb dX5_pipe_5 (by decide) (fun c3 => ?_) (fun c3 => ?_)
  · replace h := fp c3 h
    refine lv_ldc hx hb hown (ht _ wd_613) dX5_pipe_41 ?_
    cases h
    exact rt_i hx hb hr hlocks hS hP hK hD dX5_pipe_43
  · replace h := fn c3 h
    refine lv_aload_n hx hb dX5_pipe_8 rfl (lv_at hl 0 rfl) ?_
    refine lv_iload_n hx hb dX5_pipe_9 rfl (lv_at hl 2 rfl) ?_
    obtain ⟨u4, e5, h⟩ := b1_ok h
    refine cl_Vi (ws' := (wX5 a cI cC cO M)) ⟨hx, hb, hml, hown, ht⟩ (c_X5_isPlace l D cI cC cO a M x2 _ _ e5) (cwv 1 ht wd_634 wd_6 wd_631 wd_633 ws_23 (by decide +kernel) rfl rfl ⟨Nat.le_of_ble_eq_true rfl, Nat.le_of_ble_eq_true rfl⟩) 5 0 rfl rfl rfl hK hP hD hS hA hN [0, 1, 2, 3, 4, 5, 6, 7, 8, 9, 10, 11, 12] [] [0, 1, 2, 3, 4, 5, 6, 7, 8, 9, 10, 11, 12] (by decide) rfl rfl (by decide) (by decide) rfl (by decide) rfl hl.1 rfl (Nat.le_of_ble_eq_true rfl) dX5_pipe_10 ⟨Nat.le_of_ble_eq_true rfl, Nat.le_of_ble_eq_true rfl⟩ (fun H locs hP hD hS => ?_)
    refine lv_if_eq (tgt := 41) hx hb dX5_pipe_13 (by decide) (fun c6 => ?_) (fun c6 => ?_)
    · replace h := fp c6 h
      refine lv_ldc hx hb hown (ht _ wd_613) dX5_pipe_41 ?_
      cases h
      exact rt_i hx hb hr hlocks hS hP hK hD dX5_pipe_43
    · replace h := fn c6 h
      refine lv_iload_n hx hb dX5_pipe_16 rfl (lv_at hl 1 rfl) ?_
      refine lv_iload_n hx hb dX5_pipe_17 rfl (lv_at hl 2 rfl) ?_
      refine lv_icmp_eq (tgt := 41) hx hb dX5_pipe_18 (by decide) (fun c7 => ?_) (fun c7 => ?_)
      · replace h := fp c7 h
        refine lv_ldc hx hb hown (ht _ wd_613) dX5_pipe_41 ?_
        cases h
        exact rt_i hx hb hr hlocks hS hP hK hD dX5_pipe_43
      · replace h := fn c7 h
        refine lv_iload_n hx hb dX5_pipe_21 rfl (lv_at hl 3 rfl) ?_
        refine lv_iconst (v := (1 : Int32)) hx hb dX5_pipe_22 (by decide) ?_
        refine lv_iconst (v := (4 : Int32)) hx hb dX5_pipe_23 (by decide) ?_
        obtain ⟨u8, e9, h⟩ := b1_ok h
        refine cl_Si (ws' := (wX5 a cI cC cO M)) ⟨hx, hb, hml, hown, ht⟩ (c_X5_in l D cI cC cO x3 (1 : Int32) (4 : Int32) _ _ e9) (cwst 3 ht wd_612 wd_6 wd_610 wd_611 (by decide +kernel) rfl rfl ⟨Nat.le_of_ble_eq_true rfl, Nat.le_of_ble_eq_true rfl⟩) hK hP hD hS hA hN [] [0, 1, 2, 3, 4, 5, 6, 7, 8, 9, 10, 11, 12] [0, 1, 2, 3, 4, 5, 6, 7, 8, 9, 10, 11, 12] (by decide) rfl rfl (by decide) (by decide) rfl (by decide) rfl hl.1 rfl (Nat.le_of_ble_eq_true rfl) dX5_pipe_24 ⟨Nat.le_of_ble_eq_true rfl, Nat.le_of_ble_eq_true rfl⟩ (fun H locs hP hD hS => ?_)
        refine lv_if_eq (tgt := 41) hx hb dX5_pipe_27 (by decide) (fun c10 => ?_) (fun c10 => ?_)
        · replace h := fp c10 h
          refine lv_ldc hx hb hown (ht _ wd_613) dX5_pipe_41 ?_
          cases h
          exact rt_i hx hb hr hlocks hS hP hK hD dX5_pipe_43
        · replace h := fn c10 h
          refine lv_iload hx hb dX5_pipe_30 (lv_at hl 4 rfl) ?_
          refine lv_iconst (v := (1 : Int32)) hx hb dX5_pipe_32 (by decide) ?_
          refine lv_bipush (v := (9 : Int32)) hx hb dX5_pipe_33 (by decide) ?_
          obtain ⟨u11, e12, h⟩ := b1_ok h
          refine cl_Si (ws' := (wX5 a cI cC cO M)) ⟨hx, hb, hml, hown, ht⟩ (c_X5_in l D cI cC cO x4 (1 : Int32) (9 : Int32) _ _ e12) (cwst 3 ht wd_612 wd_6 wd_610 wd_611 (by decide +kernel) rfl rfl ⟨Nat.le_of_ble_eq_true rfl, Nat.le_of_ble_eq_true rfl⟩) hK hP hD hS hA hN [] [0, 1, 2, 3, 4, 5, 6, 7, 8, 9, 10, 11, 12] [0, 1, 2, 3, 4, 5, 6, 7, 8, 9, 10, 11, 12] (by decide) rfl rfl (by decide) (by decide) rfl (by decide) rfl hl.1 rfl (Nat.le_of_ble_eq_true rfl) dX5_pipe_35 ⟨Nat.le_of_ble_eq_true rfl, Nat.le_of_ble_eq_true rfl⟩ (fun H locs hP hD hS => ?_)
          refine lv_if_ne (tgt := 44) hx hb dX5_pipe_38 (by decide) (fun c13 => ?_) (fun c13 => ?_)
          · replace h := fn c13 h
            refine lv_aload_n hx hb dX5_pipe_44 rfl (lv_at hl 0 rfl) ?_
            obtain ⟨M14, e15, h⟩ := b1_ok h
            refine cl_Vv (ws' := (wX5 a cI cC cO M14)) ⟨hx, hb, hml, hown, ht⟩ (c_X5_keeps l D cI cC cO a M _ _ e15) (cwv 0 ht wd_617 wd_6 wd_614 wd_616 ws_20 (by decide +kernel) rfl rfl ⟨Nat.le_of_ble_eq_true rfl, Nat.le_of_ble_eq_true rfl⟩) 5 0 rfl rfl rfl hK hP hD hS hA hN [0, 1, 2, 3, 4, 5, 6, 7, 8, 9, 10, 11, 12] [] [0, 1, 2, 3, 4, 5, 6, 7, 8, 9, 10, 11, 12] (by decide) rfl rfl (by decide) (by decide) rfl (by decide) rfl hl.1 rfl (Nat.le_of_ble_eq_true rfl) dX5_pipe_45 ⟨Nat.le_of_ble_eq_true rfl, Nat.le_of_ble_eq_true rfl⟩ (fun H locs hP hD hS => ?_)
            refine lv_aload_n hx hb dX5_pipe_48 rfl (lv_at hl 0 rfl) ?_
            refine lv_aload_n hx hb dX5_pipe_49 rfl (lv_at hl 0 rfl) ?_
            refine lv_iload_n hx hb dX5_pipe_50 rfl (lv_at hl 1 rfl) ?_
            refine lv_iload_n hx hb dX5_pipe_51 rfl (lv_at hl 2 rfl) ?_
            refine lv_iload_n hx hb dX5_pipe_52 rfl (lv_at hl 3 rfl) ?_
            refine lv_iload hx hb dX5_pipe_53 (lv_at hl 4 rfl) ?_
            obtain ⟨u16, M17, e18, h⟩ := b2_ok h
            refine cl_Vi (ws' := (wX5 a cI cC cO M17)) ⟨hx, hb, hml, hown, ht⟩ (c_X5_lays l D cI cC cO a M14 x1 x2 x3 x4 _ _ e18) (cwv 4 ht wd_638 wd_6 wd_635 wd_637 ws_24 (by decide +kernel) rfl rfl ⟨Nat.le_of_ble_eq_true rfl, Nat.le_of_ble_eq_true rfl⟩) 5 0 rfl rfl rfl hK hP hD hS hA hN [0, 1, 2, 3, 4, 5, 6, 7, 8, 9, 10, 11, 12] [] [0, 1, 2, 3, 4, 5, 6, 7, 8, 9, 10, 11, 12] (by decide) rfl rfl (by decide) (by decide) rfl (by decide) rfl hl.1 rfl (Nat.le_of_ble_eq_true rfl) dX5_pipe_55 ⟨Nat.le_of_ble_eq_true rfl, Nat.le_of_ble_eq_true rfl⟩ (fun H locs hP hD hS => ?_)
            obtain ⟨u19, M20, e21, h⟩ := b2_ok h
            refine cl_Vi (ws' := (wX5 a cI cC cO M20)) ⟨hx, hb, hml, hown, ht⟩ (c_X5_acted l D cI cC cO a M17 u16 _ _ e21) (cwv 1 ht wd_626 wd_6 wd_623 wd_625 ws_22 (by decide +kernel) rfl rfl ⟨Nat.le_of_ble_eq_true rfl, Nat.le_of_ble_eq_true rfl⟩) 5 0 rfl rfl rfl hK hP hD hS hA hN [0, 1, 2, 3, 4, 5, 6, 7, 8, 9, 10, 11, 12] [] [0, 1, 2, 3, 4, 5, 6, 7, 8, 9, 10, 11, 12] (by decide) rfl rfl (by decide) (by decide) rfl (by decide) rfl hl.1 rfl (Nat.le_of_ble_eq_true rfl) dX5_pipe_58 ⟨Nat.le_of_ble_eq_true rfl, Nat.le_of_ble_eq_true rfl⟩ (fun H locs hP hD hS => ?_)
            cases h
            exact rt_i hx hb hr hlocks hS hP hK hD dX5_pipe_61
          · replace h := fp c13 h
            refine lv_ldc hx hb hown (ht _ wd_613) dX5_pipe_41 ?_
            cases h
            exact rt_i hx hb hr hlocks hS hP hK hD dX5_pipe_43
theorem dX5_dropPipe_0 : decode cX5_dropPipe 0 = .ok (.aload_n 0, 1) := by decide +kernel
theorem dX5_dropPipe_1 : decode cX5_dropPipe 1 = .ok (.iload_n 1, 1) := by decide +kernel
theorem dX5_dropPipe_2 : decode cX5_dropPipe 2 = .ok (.invokevirtual 91, 3) := by decide +kernel
theorem dX5_dropPipe_5 : decode cX5_dropPipe 5 = .ok (.ifCond .ne 6, 3) := by decide +kernel
theorem dX5_dropPipe_8 : decode cX5_dropPipe 8 = .ok (.ldc 67, 2) := by decide +kernel
theorem dX5_dropPipe_10 : decode cX5_dropPipe 10 = .ok (.ireturn, 1) := by decide +kernel
theorem dX5_dropPipe_11 : decode cX5_dropPipe 11 = .ok (.aload_n 0, 1) := by decide +kernel
theorem dX5_dropPipe_12 : decode cX5_dropPipe 12 = .ok (.invokevirtual 72, 3) := by decide +kernel
theorem dX5_dropPipe_15 : decode cX5_dropPipe 15 = .ok (.aload_n 0, 1) := by decide +kernel
theorem dX5_dropPipe_16 : decode cX5_dropPipe 16 = .ok (.getfield 7, 3) := by decide +kernel
theorem dX5_dropPipe_19 : decode cX5_dropPipe 19 = .ok (.iconst 1, 1) := by decide +kernel
theorem dX5_dropPipe_20 : decode cX5_dropPipe 20 = .ok (.dup2, 1) := by decide +kernel
theorem dX5_dropPipe_21 : decode cX5_dropPipe 21 = .ok (.iaload, 1) := by decide +kernel
theorem dX5_dropPipe_22 : decode cX5_dropPipe 22 = .ok (.iconst 1, 1) := by decide +kernel
theorem dX5_dropPipe_23 : decode cX5_dropPipe 23 = .ok (.isub, 1) := by decide +kernel
theorem dX5_dropPipe_24 : decode cX5_dropPipe 24 = .ok (.iastore, 1) := by decide +kernel
theorem dX5_dropPipe_25 : decode cX5_dropPipe 25 = .ok (.bipush 6, 2) := by decide +kernel
theorem dX5_dropPipe_27 : decode cX5_dropPipe 27 = .ok (.iload_n 1, 1) := by decide +kernel
theorem dX5_dropPipe_28 : decode cX5_dropPipe 28 = .ok (.imul, 1) := by decide +kernel
theorem dX5_dropPipe_29 : decode cX5_dropPipe 29 = .ok (.istore_n 2, 1) := by decide +kernel
theorem dX5_dropPipe_30 : decode cX5_dropPipe 30 = .ok (.iload_n 2, 1) := by decide +kernel
theorem dX5_dropPipe_31 : decode cX5_dropPipe 31 = .ok (.bipush 6, 2) := by decide +kernel
theorem dX5_dropPipe_33 : decode cX5_dropPipe 33 = .ok (.aload_n 0, 1) := by decide +kernel
theorem dX5_dropPipe_34 : decode cX5_dropPipe 34 = .ok (.getfield 7, 3) := by decide +kernel
theorem dX5_dropPipe_37 : decode cX5_dropPipe 37 = .ok (.iconst 1, 1) := by decide +kernel
theorem dX5_dropPipe_38 : decode cX5_dropPipe 38 = .ok (.iaload, 1) := by decide +kernel
theorem dX5_dropPipe_39 : decode cX5_dropPipe 39 = .ok (.imul, 1) := by decide +kernel
theorem dX5_dropPipe_40 : decode cX5_dropPipe 40 = .ok (.if_icmp .ge 30, 3) := by decide +kernel
theorem dX5_dropPipe_43 : decode cX5_dropPipe 43 = .ok (.aload_n 0, 1) := by decide +kernel
theorem dX5_dropPipe_44 : decode cX5_dropPipe 44 = .ok (.getfield 7, 3) := by decide +kernel
theorem dX5_dropPipe_47 : decode cX5_dropPipe 47 = .ok (.bipush 14, 2) := by decide +kernel
theorem dX5_dropPipe_49 : decode cX5_dropPipe 49 = .ok (.iload_n 2, 1) := by decide +kernel
theorem dX5_dropPipe_50 : decode cX5_dropPipe 50 = .ok (.iadd, 1) := by decide +kernel
theorem dX5_dropPipe_51 : decode cX5_dropPipe 51 = .ok (.aload_n 0, 1) := by decide +kernel
theorem dX5_dropPipe_52 : decode cX5_dropPipe 52 = .ok (.getfield 7, 3) := by decide +kernel
theorem dX5_dropPipe_55 : decode cX5_dropPipe 55 = .ok (.bipush 14, 2) := by decide +kernel
theorem dX5_dropPipe_57 : decode cX5_dropPipe 57 = .ok (.iload_n 2, 1) := by decide +kernel
theorem dX5_dropPipe_58 : decode cX5_dropPipe 58 = .ok (.iadd, 1) := by decide +kernel
theorem dX5_dropPipe_59 : decode cX5_dropPipe 59 = .ok (.bipush 6, 2) := by decide +kernel
theorem dX5_dropPipe_61 : decode cX5_dropPipe 61 = .ok (.iadd, 1) := by decide +kernel
theorem dX5_dropPipe_62 : decode cX5_dropPipe 62 = .ok (.iaload, 1) := by decide +kernel
theorem dX5_dropPipe_63 : decode cX5_dropPipe 63 = .ok (.iastore, 1) := by decide +kernel
theorem dX5_dropPipe_64 : decode cX5_dropPipe 64 = .ok (.iinc 2 1, 3) := by decide +kernel
theorem dX5_dropPipe_67 : decode cX5_dropPipe 67 = .ok (.goto (-37), 3) := by decide +kernel
theorem dX5_dropPipe_70 : decode cX5_dropPipe 70 = .ok (.aload_n 0, 1) := by decide +kernel
theorem dX5_dropPipe_71 : decode cX5_dropPipe 71 = .ok (.aload_n 0, 1) := by decide +kernel
theorem dX5_dropPipe_72 : decode cX5_dropPipe 72 = .ok (.getfield 7, 3) := by decide +kernel
theorem dX5_dropPipe_75 : decode cX5_dropPipe 75 = .ok (.iconst 1, 1) := by decide +kernel
theorem dX5_dropPipe_76 : decode cX5_dropPipe 76 = .ok (.iaload, 1) := by decide +kernel
theorem dX5_dropPipe_77 : decode cX5_dropPipe 77 = .ok (.invokevirtual 79, 3) := by decide +kernel
theorem dX5_dropPipe_80 : decode cX5_dropPipe 80 = .ok (.ireturn, 1) := by decide +kernel
set_option maxHeartbeats 4000000 in
set_option maxRecDepth 100000 in
theorem c_X5_dropPipe (l : Launch) (D : va_G) (cI cC cO : ClassId) (a : Nat → Nat) (M : Mm) (x1 : Int32) (res : Int32 × Mm) (sz : Nat) (h : F_X5_dropPipe M x1 = some res) : Met l yX5_dropPipe (Cond.code yX5_dropPipe cX5_dropPipe 3 (Option.some Jvm.ClassFile.FieldType.int) :: lw_g) ({ frames := 2, cells := 0, slots := 0, locals := 43 } : Room) (va_Pc [.ref (a 0), .int x1] (pS D cI cC cO sz (wX5 a cI cC cO M))) (QI D cI cC cO (va_A (wX5 a cI cC cO M) sz) (wX5 a cI cC cO res.2) res.1) 0 0 (va_A (wX5 a cI cC cO M) sz) := by
  refine Met.ofW (cc := cX5_dropPipe) (maxL := 3) (ret := (Option.some Jvm.ClassFile.FieldType.int)) (by decide) rfl ?_
  intro p e s m args below meth c s₁ B hml hv
  obtain ⟨rfl, rfl, hP, hK, hD0, hN⟩ := hv
  have hx := B.exec
  have hb := B.bytes
  have hr := B.returns
  have ht : ∀ w ∈ lw_g, w.before ([.ref (a 0), .int x1] : List Value).toArray s = true := fun w hw => atoms_spec (ws := Cond.code yX5_dropPipe cX5_dropPipe 3 (Option.some Jvm.ClassFile.FieldType.int) :: lw_g) B.pre w (List.mem_cons_of_mem _ hw)
  have hown : s.vm.findClass RX5 = some m.cls := findClass_of_methodNamed B.named
  have hlocks := B.notSynchronized
  have hD := hD0.self (sz := s.heap.size)
  generalize hAe : va_A (wX5 a cI cC cO M) s.heap.size = A at hD ⊢
  have hA : ∀ q : Nat, s.heap.size ≤ q → A q := fun q hq => by rw [← hAe]; exact Or.inr hq
  have hS : va_S A s.heap s.heap [] := va_S.rf
  have hl := lv_entry ([.ref (a 0), .int x1]) (n := 3) (Nat.le_of_ble_eq_true rfl)
  rw [lg_entry_eq]
  generalize (lg_sl ([.ref (a 0), .int x1]) ++ List.replicate (3 - (lg_sl ([.ref (a 0), .int x1])).length) Slot.unset).toArray = ls at hl ⊢
  have hl : lv_has ls 3 [(0, .ref (a 0)), (1, .int x1)] := hl
  have w30 : ∀ (n30 : Nat) (M : Mm) (y2 : Int32) (H : Heap) (locs : List Loc) (ls : Array Slot), F_X5_dropPipe_30 n30 M y2 = some res → va_P D classes (wX5 a cI cC cO M) H → va_D A (wX5 a cI cC cO M) → va_S A s.heap H locs → lv_has ls 3 [(0, .ref (a 0)), (2, .int y2)] → W p l e ({ frames := 2, cells := 0, slots := 0, locals := 43 } : Room) s m ([.ref (a 0), .int x1] : List Value).toArray below meth c H locs 0 0 (MQ below (QI D cI cC cO A (wX5 a cI cC cO res.2) res.1) ([.ref (a 0), .int x1] : List Value).toArray s 0 0 A) (F0 m 30 ls []) := by
    intro n30
    induction n30 with
    | zero => intro M y2 H locs ls h hP hD hS hl; exact absurd (show (none : Option (Int32 × Mm)) = some res from h) (by simp)
    | succ n30 ih30 =>
      intro M y2 H locs ls h hP hD hS hl
      have h : F_X5_dropPipeB_30 (F_X5_dropPipe_30 n30) M y2 = some res := h
      unfold F_X5_dropPipeB_30 at h
      refine lv_iload_n hx hb dX5_dropPipe_30 rfl (lv_at hl 1 rfl) ?_
      refine lv_bipush (v := (6 : Int32)) hx hb dX5_dropPipe_31 (by decide) ?_
      refine lv_aload_n hx hb dX5_dropPipe_33 rfl (lv_at hl 0 rfl) ?_
      refine va_get (D := D) (ci := 5) (v := .ref (a 1)) (C := RX5) (T := TX5) (N := 23) hx hb ht i_X5 hown hK hP 0 rfl rfl 0 (by decide) (ht _ wd_536) (fun _ h9 => h9) rfl dX5_dropPipe_34 ?_
      refine lv_iconst (v := (1 : Int32)) hx hb dX5_dropPipe_37 (by decide) ?_
      obtain ⟨i1, h⟩ := ck_ok h
      refine va_iald hx hb hK hP 1 0 rfl rfl i1 dX5_dropPipe_38 ?_
      refine lv_imul hx hb dX5_dropPipe_39 ?_
      refine lv_icmp_ge (tgt := 70) hx hb dX5_dropPipe_40 (by decide) (fun c2 => ?_) (fun c2 => ?_)
      · replace h := fp c2 h
        refine lv_aload_n hx hb dX5_dropPipe_70 rfl (lv_at hl 0 rfl) ?_
        refine lv_aload_n hx hb dX5_dropPipe_71 rfl (lv_at hl 0 rfl) ?_
        refine va_get (D := D) (ci := 5) (v := .ref (a 1)) (C := RX5) (T := TX5) (N := 23) hx hb ht i_X5 hown hK hP 0 rfl rfl 0 (by decide) (ht _ wd_536) (fun _ h9 => h9) rfl dX5_dropPipe_72 ?_
        refine lv_iconst (v := (1 : Int32)) hx hb dX5_dropPipe_75 (by decide) ?_
        obtain ⟨i3, h⟩ := ck_ok h
        refine va_iald hx hb hK hP 1 0 rfl rfl i3 dX5_dropPipe_76 ?_
        obtain ⟨u4, M5, e6, h⟩ := b2_ok h
        refine cl_Vi (ws' := (wX5 a cI cC cO M5)) ⟨hx, hb, hml, hown, ht⟩ (c_X5_acted l D cI cC cO a M (M 0 (1 : Int32).toNatClampNeg) _ _ e6) (cwv 1 ht wd_626 wd_6 wd_623 wd_625 ws_22 (by decide +kernel) rfl rfl ⟨Nat.le_of_ble_eq_true rfl, Nat.le_of_ble_eq_true rfl⟩) 5 0 rfl rfl rfl hK hP hD hS hA hN [0, 1, 2, 3, 4, 5, 6, 7, 8, 9, 10, 11, 12] [] [0, 1, 2, 3, 4, 5, 6, 7, 8, 9, 10, 11, 12] (by decide) rfl rfl (by decide) (by decide) rfl (by decide) rfl hl.1 rfl (Nat.le_of_ble_eq_true rfl) dX5_dropPipe_77 ⟨Nat.le_of_ble_eq_true rfl, Nat.le_of_ble_eq_true rfl⟩ (fun H locs hP hD hS => ?_)
        cases h
        exact rt_i hx hb hr hlocks hS hP hK hD dX5_dropPipe_80
      · replace h := fn c2 h
        refine lv_aload_n hx hb dX5_dropPipe_43 rfl (lv_at hl 0 rfl) ?_
        refine va_get (D := D) (ci := 5) (v := .ref (a 1)) (C := RX5) (T := TX5) (N := 23) hx hb ht i_X5 hown hK hP 0 rfl rfl 0 (by decide) (ht _ wd_536) (fun _ h9 => h9) rfl dX5_dropPipe_44 ?_
        refine lv_bipush (v := (14 : Int32)) hx hb dX5_dropPipe_47 (by decide) ?_
        refine lv_iload_n hx hb dX5_dropPipe_49 rfl (lv_at hl 1 rfl) ?_
        refine lv_iadd hx hb dX5_dropPipe_50 ?_
        refine lv_aload_n hx hb dX5_dropPipe_51 rfl (lv_at hl 0 rfl) ?_
        refine va_get (D := D) (ci := 5) (v := .ref (a 1)) (C := RX5) (T := TX5) (N := 23) hx hb ht i_X5 hown hK hP 0 rfl rfl 0 (by decide) (ht _ wd_536) (fun _ h9 => h9) rfl dX5_dropPipe_52 ?_
        refine lv_bipush (v := (14 : Int32)) hx hb dX5_dropPipe_55 (by decide) ?_
        refine lv_iload_n hx hb dX5_dropPipe_57 rfl (lv_at hl 1 rfl) ?_
        refine lv_iadd hx hb dX5_dropPipe_58 ?_
        refine lv_bipush (v := (6 : Int32)) hx hb dX5_dropPipe_59 (by decide) ?_
        refine lv_iadd hx hb dX5_dropPipe_61 ?_
        obtain ⟨i7, h⟩ := ck_ok h
        refine va_iald hx hb hK hP 1 0 rfl rfl i7 dX5_dropPipe_62 ?_
        obtain ⟨i8, h⟩ := ck_ok h
        refine va_iast hx hb hK hP hD hS 1 0 rfl rfl i8 dX5_dropPipe_63 (fun H locs hP hD hS => ?_)
        obtain ⟨M9, e10, h⟩ := sv_ok h
        have hP : va_P D classes (wX5 a cI cC cO M9) H := by rw [← e10]; exact hP
        have hD : va_D A (wX5 a cI cC cO M9) := by rw [← e10]; exact hD
        refine lv_iinc (v := (y2 + 1)) (lv' := [(2, .int (y2 + 1)), (0, .ref (a 0))]) hx hb dX5_dropPipe_64 hl (k := 1) rfl rfl (by decide) rfl (fun ls hl => ?_)
        refine lv_goto (tgt := 30) hx hb dX5_dropPipe_67 (by decide) ?_
        exact ih30 M9 (y2 + 1) _ _ ls h hP hD hS (lv_sub hl [1, 0] rfl)
  unfold F_X5_dropPipe at h
  refine lv_aload_n hx hb dX5_dropPipe_0 rfl (lv_at hl 0 rfl) ?_
  refine lv_iload_n hx hb dX5_dropPipe_1 rfl (lv_at hl 1 rfl) ?_
  obtain ⟨u1, e2, h⟩ := b1_ok h
  refine cl_Vi (ws' := (wX5 a cI cC cO M)) ⟨hx, hb, hml, hown, ht⟩ (c_X5_isPipe l D cI cC cO a M x1 _ _ e2) (cwv 1 ht wd_646 wd_6 wd_643 wd_645 ws_25 (by decide +kernel) rfl rfl ⟨Nat.le_of_ble_eq_true rfl, Nat.le_of_ble_eq_true rfl⟩) 5 0 rfl rfl rfl hK hP hD hS hA hN [0, 1, 2, 3, 4, 5, 6, 7, 8, 9, 10, 11, 12] [] [0, 1, 2, 3, 4, 5, 6, 7, 8, 9, 10, 11, 12] (by decide) rfl rfl (by decide) (by decide) rfl (by decide) rfl hl.1 rfl (Nat.le_of_ble_eq_true rfl) dX5_dropPipe_2 ⟨Nat.le_of_ble_eq_true rfl, Nat.le_of_ble_eq_true rfl⟩ (fun H locs hP hD hS => ?_)
  refine lv_if_ne (tgt := 11) hx hb dX5_dropPipe_5 (by decide) (fun c3 => ?_) (fun c3 => ?_)
  · replace h := fn c3 h
    refine lv_aload_n hx hb dX5_dropPipe_11 rfl (lv_at hl 0 rfl) ?_
    obtain ⟨M4, e5, h⟩ := b1_ok h
    refine cl_Vv (ws' := (wX5 a cI cC cO M4)) ⟨hx, hb, hml, hown, ht⟩ (c_X5_keeps l D cI cC cO a M _ _ e5) (cwv 0 ht wd_617 wd_6 wd_614 wd_616 ws_20 (by decide +kernel) rfl rfl ⟨Nat.le_of_ble_eq_true rfl, Nat.le_of_ble_eq_true rfl⟩) 5 0 rfl rfl rfl hK hP hD hS hA hN [0, 1, 2, 3, 4, 5, 6, 7, 8, 9, 10, 11, 12] [] [0, 1, 2, 3, 4, 5, 6, 7, 8, 9, 10, 11, 12] (by decide) rfl rfl (by decide) (by decide) rfl (by decide) rfl hl.1 rfl (Nat.le_of_ble_eq_true rfl) dX5_dropPipe_12 ⟨Nat.le_of_ble_eq_true rfl, Nat.le_of_ble_eq_true rfl⟩ (fun H locs hP hD hS => ?_)
    refine lv_aload_n hx hb dX5_dropPipe_15 rfl (lv_at hl 0 rfl) ?_
    refine va_get (D := D) (ci := 5) (v := .ref (a 1)) (C := RX5) (T := TX5) (N := 23) hx hb ht i_X5 hown hK hP 0 rfl rfl 0 (by decide) (ht _ wd_536) (fun _ h9 => h9) rfl dX5_dropPipe_16 ?_
    refine lv_iconst (v := (1 : Int32)) hx hb dX5_dropPipe_19 (by decide) ?_
    refine lv_dup2_11 hx hb dX5_dropPipe_20 rfl rfl ?_
    obtain ⟨i6, h⟩ := ck_ok h
    refine va_iald hx hb hK hP 1 0 rfl rfl i6 dX5_dropPipe_21 ?_
    refine lv_iconst (v := (1 : Int32)) hx hb dX5_dropPipe_22 (by decide) ?_
    refine lv_isub hx hb dX5_dropPipe_23 ?_
    obtain ⟨i7, h⟩ := ck_ok h
    refine va_iast hx hb hK hP hD hS 1 0 rfl rfl i7 dX5_dropPipe_24 (fun H locs hP hD hS => ?_)
    obtain ⟨M8, e9, h⟩ := sv_ok h
    have hP : va_P D classes (wX5 a cI cC cO M8) H := by rw [← e9]; exact hP
    have hD : va_D A (wX5 a cI cC cO M8) := by rw [← e9]; exact hD
    refine lv_bipush (v := (6 : Int32)) hx hb dX5_dropPipe_25 (by decide) ?_
    refine lv_iload_n hx hb dX5_dropPipe_27 rfl (lv_at hl 1 rfl) ?_
    refine lv_imul hx hb dX5_dropPipe_28 ?_
    refine lv_istore_n (lv' := [(2, .int ((6 : Int32) * x1)), (0, .ref (a 0)), (1, .int x1)]) hx hb dX5_dropPipe_29 rfl hl (by decide) rfl (fun ls hl => ?_)
    exact w30 FU M8 ((6 : Int32) * x1) _ _ ls h hP hD hS (lv_sub hl [1, 0] rfl)
  · replace h := fp c3 h
    refine lv_ldc hx hb hown (ht _ wd_613) dX5_dropPipe_8 ?_
    cases h
    exact rt_i hx hb hr hlocks hS hP hK hD dX5_dropPipe_10
theorem dX5_opens_0 : decode cX5_opens 0 = .ok (.aload_n 0, 1) := by decide +kernel
theorem dX5_opens_1 : decode cX5_opens 1 = .ok (.getfield 7, 3) := by decide +kernel
theorem dX5_opens_4 : decode cX5_opens 4 = .ok (.bipush 14, 2) := by decide +kernel
theorem dX5_opens_6 : decode cX5_opens 6 = .ok (.bipush 6, 2) := by decide +kernel
theorem dX5_opens_8 : decode cX5_opens 8 = .ok (.iload_n 1, 1) := by decide +kernel
theorem dX5_opens_9 : decode cX5_opens 9 = .ok (.imul, 1) := by decide +kernel
theorem dX5_opens_10 : decode cX5_opens 10 = .ok (.iadd, 1) := by decide +kernel
theorem dX5_opens_11 : decode cX5_opens 11 = .ok (.iconst 4, 1) := by decide +kernel
theorem dX5_opens_12 : decode cX5_opens 12 = .ok (.iadd, 1) := by decide +kernel
theorem dX5_opens_13 : decode cX5_opens 13 = .ok (.iload_n 2, 1) := by decide +kernel
theorem dX5_opens_14 : decode cX5_opens 14 = .ok (.iastore, 1) := by decide +kernel
theorem dX5_opens_15 : decode cX5_opens 15 = .ok (.aload_n 0, 1) := by decide +kernel
theorem dX5_opens_16 : decode cX5_opens 16 = .ok (.getfield 7, 3) := by decide +kernel
theorem dX5_opens_19 : decode cX5_opens 19 = .ok (.bipush 14, 2) := by decide +kernel
theorem dX5_opens_21 : decode cX5_opens 21 = .ok (.bipush 6, 2) := by decide +kernel
theorem dX5_opens_23 : decode cX5_opens 23 = .ok (.iload_n 1, 1) := by decide +kernel
theorem dX5_opens_24 : decode cX5_opens 24 = .ok (.imul, 1) := by decide +kernel
theorem dX5_opens_25 : decode cX5_opens 25 = .ok (.iadd, 1) := by decide +kernel
theorem dX5_opens_26 : decode cX5_opens 26 = .ok (.iconst 5, 1) := by decide +kernel
theorem dX5_opens_27 : decode cX5_opens 27 = .ok (.iadd, 1) := by decide +kernel
theorem dX5_opens_28 : decode cX5_opens 28 = .ok (.iload_n 3, 1) := by decide +kernel
theorem dX5_opens_29 : decode cX5_opens 29 = .ok (.iastore, 1) := by decide +kernel
theorem dX5_opens_30 : decode cX5_opens 30 = .ok (.iload_n 3, 1) := by decide +kernel
theorem dX5_opens_31 : decode cX5_opens 31 = .ok (.iload_n 2, 1) := by decide +kernel
theorem dX5_opens_32 : decode cX5_opens 32 = .ok (.if_icmp .ge 7, 3) := by decide +kernel
theorem dX5_opens_35 : decode cX5_opens 35 = .ok (.iconst 0, 1) := by decide +kernel
theorem dX5_opens_36 : decode cX5_opens 36 = .ok (.goto 8, 3) := by decide +kernel
theorem dX5_opens_39 : decode cX5_opens 39 = .ok (.iload_n 3, 1) := by decide +kernel
theorem dX5_opens_40 : decode cX5_opens 40 = .ok (.iload_n 2, 1) := by decide +kernel
theorem dX5_opens_41 : decode cX5_opens 41 = .ok (.isub, 1) := by decide +kernel
theorem dX5_opens_42 : decode cX5_opens 42 = .ok (.iconst 1, 1) := by decide +kernel
theorem dX5_opens_43 : decode cX5_opens 43 = .ok (.iadd, 1) := by decide +kernel
theorem dX5_opens_44 : decode cX5_opens 44 = .ok (.ireturn, 1) := by decide +kernel
set_option maxHeartbeats 4000000 in
set_option maxRecDepth 100000 in
theorem c_X5_opens (l : Launch) (D : va_G) (cI cC cO : ClassId) (a : Nat → Nat) (M : Mm) (x1 x2 x3 : Int32) (res : Int32 × Mm) (sz : Nat) (h : F_X5_opens M x1 x2 x3 = some res) : Met l yX5_opens (Cond.code yX5_opens cX5_opens 4 (Option.some Jvm.ClassFile.FieldType.int) :: lw_g) ({ frames := 0, cells := 0, slots := 0, locals := 0 } : Room) (va_Pc [.ref (a 0), .int x1, .int x2, .int x3] (pS D cI cC cO sz (wX5 a cI cC cO M))) (QI D cI cC cO (va_A (wX5 a cI cC cO M) sz) (wX5 a cI cC cO res.2) res.1) 0 0 (va_A (wX5 a cI cC cO M) sz) := by
  refine Met.ofW (cc := cX5_opens) (maxL := 4) (ret := (Option.some Jvm.ClassFile.FieldType.int)) (by decide) rfl ?_
  intro p e s m args below meth c s₁ B hml hv
  obtain ⟨rfl, rfl, hP, hK, hD0, hN⟩ := hv
  have hx := B.exec
  have hb := B.bytes
  have hr := B.returns
  have ht : ∀ w ∈ lw_g, w.before ([.ref (a 0), .int x1, .int x2, .int x3] : List Value).toArray s = true := fun w hw => atoms_spec (ws := Cond.code yX5_opens cX5_opens 4 (Option.some Jvm.ClassFile.FieldType.int) :: lw_g) B.pre w (List.mem_cons_of_mem _ hw)
  have hown : s.vm.findClass RX5 = some m.cls := findClass_of_methodNamed B.named
  have hlocks := B.notSynchronized
  have hD := hD0.self (sz := s.heap.size)
  generalize hAe : va_A (wX5 a cI cC cO M) s.heap.size = A at hD ⊢
  have hA : ∀ q : Nat, s.heap.size ≤ q → A q := fun q hq => by rw [← hAe]; exact Or.inr hq
  have hS : va_S A s.heap s.heap [] := va_S.rf
  have hl := lv_entry ([.ref (a 0), .int x1, .int x2, .int x3]) (n := 4) (Nat.le_of_ble_eq_true rfl)
  rw [lg_entry_eq]
  generalize (lg_sl ([.ref (a 0), .int x1, .int x2, .int x3]) ++ List.replicate (4 - (lg_sl ([.ref (a 0), .int x1, .int x2, .int x3])).length) Slot.unset).toArray = ls at hl ⊢
  have hl : lv_has ls 4 [(0, .ref (a 0)), (1, .int x1), (2, .int x2), (3, .int x3)] := hl
  unfold F_X5_opens at h
  refine lv_aload_n hx hb dX5_opens_0 rfl (lv_at hl 0 rfl) ?_
  refine va_get (D := D) (ci := 5) (v := .ref (a 1)) (C := RX5) (T := TX5) (N := 23) hx hb ht i_X5 hown hK hP 0 rfl rfl 0 (by decide) (ht _ wd_536) (fun _ h9 => h9) rfl dX5_opens_1 ?_
  refine lv_bipush (v := (14 : Int32)) hx hb dX5_opens_4 (by decide) ?_
  refine lv_bipush (v := (6 : Int32)) hx hb dX5_opens_6 (by decide) ?_
  refine lv_iload_n hx hb dX5_opens_8 rfl (lv_at hl 1 rfl) ?_
  refine lv_imul hx hb dX5_opens_9 ?_
  refine lv_iadd hx hb dX5_opens_10 ?_
  refine lv_iconst (v := (4 : Int32)) hx hb dX5_opens_11 (by decide) ?_
  refine lv_iadd hx hb dX5_opens_12 ?_
  refine lv_iload_n hx hb dX5_opens_13 rfl (lv_at hl 2 rfl) ?_
  obtain ⟨i1, h⟩ := ck_ok h
  refine va_iast hx hb hK hP hD hS 1 0 rfl rfl i1 dX5_opens_14 (fun H locs hP hD hS => ?_)
  obtain ⟨M2, e3, h⟩ := sv_ok h
  have hP : va_P D classes (wX5 a cI cC cO M2) H := by rw [← e3]; exact hP
  have hD : va_D A (wX5 a cI cC cO M2) := by rw [← e3]; exact hD
  refine lv_aload_n hx hb dX5_opens_15 rfl (lv_at hl 0 rfl) ?_
  refine va_get (D := D) (ci := 5) (v := .ref (a 1)) (C := RX5) (T := TX5) (N := 23) hx hb ht i_X5 hown hK hP 0 rfl rfl 0 (by decide) (ht _ wd_536) (fun _ h9 => h9) rfl dX5_opens_16 ?_
  refine lv_bipush (v := (14 : Int32)) hx hb dX5_opens_19 (by decide) ?_
  refine lv_bipush (v := (6 : Int32)) hx hb dX5_opens_21 (by decide) ?_
  refine lv_iload_n hx hb dX5_opens_23 rfl (lv_at hl 1 rfl) ?_
  refine lv_imul hx hb dX5_opens_24 ?_
  refine lv_iadd hx hb dX5_opens_25 ?_
  refine lv_iconst (v := (5 : Int32)) hx hb dX5_opens_26 (by decide) ?_
  refine lv_iadd hx hb dX5_opens_27 ?_
  refine lv_iload_n hx hb dX5_opens_28 rfl (lv_at hl 3 rfl) ?_
  obtain ⟨i4, h⟩ := ck_ok h
  refine va_iast hx hb hK hP hD hS 1 0 rfl rfl i4 dX5_opens_29 (fun H locs hP hD hS => ?_)
  obtain ⟨M5, e6, h⟩ := sv_ok h
  have hP : va_P D classes (wX5 a cI cC cO M5) H := by rw [← e6]; exact hP
  have hD : va_D A (wX5 a cI cC cO M5) := by rw [← e6]; exact hD
  refine lv_iload_n hx hb dX5_opens_30 rfl (lv_at hl 3 rfl) ?_
  refine lv_iload_n hx hb dX5_opens_31 rfl (lv_at hl 2 rfl) ?_
  refine lv_icmp_ge (tgt := 39) hx hb dX5_opens_32 (by decide) (fun c7 => ?_) (fun c7 => ?_)
  · replace h := fp c7 h
    refine lv_iload_n hx hb dX5_opens_39 rfl (lv_at hl 3 rfl) ?_
    refine lv_iload_n hx hb dX5_opens_40 rfl (lv_at hl 2 rfl) ?_
    refine lv_isub hx hb dX5_opens_41 ?_
    refine lv_iconst (v := (1 : Int32)) hx hb dX5_opens_42 (by decide) ?_
    refine lv_iadd hx hb dX5_opens_43 ?_
    cases h
    exact rt_i hx hb hr hlocks hS hP hK hD dX5_opens_44
  · replace h := fn c7 h
    refine lv_iconst (v := (0 : Int32)) hx hb dX5_opens_35 (by decide) ?_
    refine lv_goto (tgt := 44) hx hb dX5_opens_36 (by decide) ?_
    cases h
    exact rt_i hx hb hr hlocks hS hP hK hD dX5_opens_44
end
section
theorem dX5_open_0 : decode cX5_open 0 = .ok (.aload_n 0, 1) := by decide +kernel
theorem dX5_open_1 : decode cX5_open 1 = .ok (.iload_n 1, 1) := by decide +kernel
theorem dX5_open_2 : decode cX5_open 2 = .ok (.invokevirtual 91, 3) := by decide +kernel
theorem dX5_open_5 : decode cX5_open 5 = .ok (.ifCond .eq 23, 3) := by decide +kernel
theorem dX5_open_8 : decode cX5_open 8 = .ok (.iload_n 2, 1) := by decide +kernel
theorem dX5_open_9 : decode cX5_open 9 = .ok (.iconst 0, 1) := by decide +kernel
theorem dX5_open_10 : decode cX5_open 10 = .ok (.bipush 15, 2) := by decide +kernel
theorem dX5_open_12 : decode cX5_open 12 = .ok (.invokestatic 63, 3) := by decide +kernel
theorem dX5_open_15 : decode cX5_open 15 = .ok (.ifCond .eq 13, 3) := by decide +kernel
theorem dX5_open_18 : decode cX5_open 18 = .ok (.iload_n 3, 1) := by decide +kernel
theorem dX5_open_19 : decode cX5_open 19 = .ok (.iconst 0, 1) := by decide +kernel
theorem dX5_open_20 : decode cX5_open 20 = .ok (.bipush 15, 2) := by decide +kernel
theorem dX5_open_22 : decode cX5_open 22 = .ok (.invokestatic 63, 3) := by decide +kernel
theorem dX5_open_25 : decode cX5_open 25 = .ok (.ifCond .ne 6, 3) := by decide +kernel
theorem dX5_open_28 : decode cX5_open 28 = .ok (.ldc 67, 2) := by decide +kernel
theorem dX5_open_30 : decode cX5_open 30 = .ok (.ireturn, 1) := by decide +kernel
theorem dX5_open_31 : decode cX5_open 31 = .ok (.aload_n 0, 1) := by decide +kernel
theorem dX5_open_32 : decode cX5_open 32 = .ok (.invokevirtual 72, 3) := by decide +kernel
theorem dX5_open_35 : decode cX5_open 35 = .ok (.aload_n 0, 1) := by decide +kernel
theorem dX5_open_36 : decode cX5_open 36 = .ok (.aload_n 0, 1) := by decide +kernel
theorem dX5_open_37 : decode cX5_open 37 = .ok (.iload_n 1, 1) := by decide +kernel
theorem dX5_open_38 : decode cX5_open 38 = .ok (.iload_n 2, 1) := by decide +kernel
theorem dX5_open_39 : decode cX5_open 39 = .ok (.iload_n 3, 1) := by decide +kernel
theorem dX5_open_40 : decode cX5_open 40 = .ok (.invokevirtual 94, 3) := by decide +kernel
theorem dX5_open_43 : decode cX5_open 43 = .ok (.invokevirtual 79, 3) := by decide +kernel
theorem dX5_open_46 : decode cX5_open 46 = .ok (.ireturn, 1) := by decide +kernel
set_option maxHeartbeats 4000000 in
set_option maxRecDepth 100000 in
theorem c_X5_open (l : Launch) (D : va_G) (cI cC cO : ClassId) (a : Nat → Nat) (M : Mm) (x1 x2 x3 : Int32) (res : Int32 × Mm) (sz : Nat) (h : F_X5_open M x1 x2 x3 = some res) : Met l yX5_open (Cond.code yX5_open cX5_open 4 (Option.some Jvm.ClassFile.FieldType.int) :: lw_g) ({ frames := 2, cells := 0, slots := 0, locals := 43 } : Room) (va_Pc [.ref (a 0), .int x1, .int x2, .int x3] (pS D cI cC cO sz (wX5 a cI cC cO M))) (QI D cI cC cO (va_A (wX5 a cI cC cO M) sz) (wX5 a cI cC cO res.2) res.1) 0 0 (va_A (wX5 a cI cC cO M) sz) := by
  refine Met.ofW (cc := cX5_open) (maxL := 4) (ret := (Option.some Jvm.ClassFile.FieldType.int)) (by decide) rfl ?_
  intro p e s m args below meth c s₁ B hml hv
  obtain ⟨rfl, rfl, hP, hK, hD0, hN⟩ := hv
  have hx := B.exec
  have hb := B.bytes
  have hr := B.returns
  have ht : ∀ w ∈ lw_g, w.before ([.ref (a 0), .int x1, .int x2, .int x3] : List Value).toArray s = true := fun w hw => atoms_spec (ws := Cond.code yX5_open cX5_open 4 (Option.some Jvm.ClassFile.FieldType.int) :: lw_g) B.pre w (List.mem_cons_of_mem _ hw)
  have hown : s.vm.findClass RX5 = some m.cls := findClass_of_methodNamed B.named
  have hlocks := B.notSynchronized
  have hD := hD0.self (sz := s.heap.size)
  generalize hAe : va_A (wX5 a cI cC cO M) s.heap.size = A at hD ⊢
  have hA : ∀ q : Nat, s.heap.size ≤ q → A q := fun q hq => by rw [← hAe]; exact Or.inr hq
  have hS : va_S A s.heap s.heap [] := va_S.rf
  have hl := lv_entry ([.ref (a 0), .int x1, .int x2, .int x3]) (n := 4) (Nat.le_of_ble_eq_true rfl)
  rw [lg_entry_eq]
  generalize (lg_sl ([.ref (a 0), .int x1, .int x2, .int x3]) ++ List.replicate (4 - (lg_sl ([.ref (a 0), .int x1, .int x2, .int x3])).length) Slot.unset).toArray = ls at hl ⊢
  have hl : lv_has ls 4 [(0, .ref (a 0)), (1, .int x1), (2, .int x2), (3, .int x3)] := hl
  unfold F_X5_open at h
  refine lv_aload_n hx hb dX5_open_0 rfl (lv_at hl 0 rfl) ?_
  refine lv_iload_n hx hb dX5_open_1 rfl (lv_at hl 1 rfl) ?_
  obtain ⟨u1, e2, h⟩ := b1_ok h
  refine cl_Vi (ws' := (wX5 a cI cC cO M)) ⟨hx, hb, hml, hown, ht⟩ (c_X5_isPipe l D cI cC cO a M x1 _ _ e2) (cwv 1 ht wd_646 wd_6 wd_643 wd_645 ws_25 (by decide +kernel) rfl rfl ⟨Nat.le_of_ble_eq_true rfl, Nat.le_of_ble_eq_true rfl⟩) 5 0 rfl rfl rfl hK hP hD hS hA hN [0, 1, 2, 3, 4, 5, 6, 7, 8, 9, 10, 11, 12] [] [0, 1, 2, 3, 4, 5, 6, 7, 8, 9, 10, 11, 12] (by decide) rfl rfl (by decide) (by decide) rfl (by decide) rfl hl.1 rfl (Nat.le_of_ble_eq_true rfl) dX5_open_2 ⟨Nat.le_of_ble_eq_true rfl, Nat.le_of_ble_eq_true rfl⟩ (fun H locs hP hD hS => ?_)
  refine lv_if_eq (tgt := 28) hx hb dX5_open_5 (by decide) (fun c3 => ?_) (fun c3 => ?_)
  · replace h := fp c3 h
    refine lv_ldc hx hb hown (ht _ wd_613) dX5_open_28 ?_
    cases h
    exact rt_i hx hb hr hlocks hS hP hK hD dX5_open_30
  · replace h := fn c3 h
    refine lv_iload_n hx hb dX5_open_8 rfl (lv_at hl 2 rfl) ?_
    refine lv_iconst (v := (0 : Int32)) hx hb dX5_open_9 (by decide) ?_
    refine lv_bipush (v := (15 : Int32)) hx hb dX5_open_10 (by decide) ?_
    obtain ⟨u4, e5, h⟩ := b1_ok h
    refine cl_Si (ws' := (wX5 a cI cC cO M)) ⟨hx, hb, hml, hown, ht⟩ (c_X5_in l D cI cC cO x2 (0 : Int32) (15 : Int32) _ _ e5) (cwst 3 ht wd_612 wd_6 wd_610 wd_611 (by decide +kernel) rfl rfl ⟨Nat.le_of_ble_eq_true rfl, Nat.le_of_ble_eq_true rfl⟩) hK hP hD hS hA hN [] [0, 1, 2, 3, 4, 5, 6, 7, 8, 9, 10, 11, 12] [0, 1, 2, 3, 4, 5, 6, 7, 8, 9, 10, 11, 12] (by decide) rfl rfl (by decide) (by decide) rfl (by decide) rfl hl.1 rfl (Nat.le_of_ble_eq_true rfl) dX5_open_12 ⟨Nat.le_of_ble_eq_true rfl, Nat.le_of_ble_eq_true rfl⟩ (fun H locs hP hD hS => ?_)
    refine lv_if_eq (tgt := 28) hx hb dX5_open_15 (by decide) (fun c6 => ?_) (fun c6 => ?_)
    · replace h := fp c6 h
      refine lv_ldc hx hb hown (ht _ wd_613) dX5_open_28 ?_
      cases h
      exact rt_i hx hb hr hlocks hS hP hK hD dX5_open_30
    · replace h := fn c6 h
      refine lv_iload_n hx hb dX5_open_18 rfl (lv_at hl 3 rfl) ?_
      refine lv_iconst (v := (0 : Int32)) hx hb dX5_open_19 (by decide) ?_
      refine lv_bipush (v := (15 : Int32)) hx hb dX5_open_20 (by decide) ?_
      obtain ⟨u7, e8, h⟩ := b1_ok h
      refine cl_Si (ws' := (wX5 a cI cC cO M)) ⟨hx, hb, hml, hown, ht⟩ (c_X5_in l D cI cC cO x3 (0 : Int32) (15 : Int32) _ _ e8) (cwst 3 ht wd_612 wd_6 wd_610 wd_611 (by decide +kernel) rfl rfl ⟨Nat.le_of_ble_eq_true rfl, Nat.le_of_ble_eq_true rfl⟩) hK hP hD hS hA hN [] [0, 1, 2, 3, 4, 5, 6, 7, 8, 9, 10, 11, 12] [0, 1, 2, 3, 4, 5, 6, 7, 8, 9, 10, 11, 12] (by decide) rfl rfl (by decide) (by decide) rfl (by decide) rfl hl.1 rfl (Nat.le_of_ble_eq_true rfl) dX5_open_22 ⟨Nat.le_of_ble_eq_true rfl, Nat.le_of_ble_eq_true rfl⟩ (fun H locs hP hD hS => ?_)
      refine lv_if_ne (tgt := 31) hx hb dX5_open_25 (by decide) (fun c9 => ?_) (fun c9 => ?_)
      · replace h := fn c9 h
        refine lv_aload_n hx hb dX5_open_31 rfl (lv_at hl 0 rfl) ?_
        obtain ⟨M10, e11, h⟩ := b1_ok h
        refine cl_Vv (ws' := (wX5 a cI cC cO M10)) ⟨hx, hb, hml, hown, ht⟩ (c_X5_keeps l D cI cC cO a M _ _ e11) (cwv 0 ht wd_617 wd_6 wd_614 wd_616 ws_20 (by decide +kernel) rfl rfl ⟨Nat.le_of_ble_eq_true rfl, Nat.le_of_ble_eq_true rfl⟩) 5 0 rfl rfl rfl hK hP hD hS hA hN [0, 1, 2, 3, 4, 5, 6, 7, 8, 9, 10, 11, 12] [] [0, 1, 2, 3, 4, 5, 6, 7, 8, 9, 10, 11, 12] (by decide) rfl rfl (by decide) (by decide) rfl (by decide) rfl hl.1 rfl (Nat.le_of_ble_eq_true rfl) dX5_open_32 ⟨Nat.le_of_ble_eq_true rfl, Nat.le_of_ble_eq_true rfl⟩ (fun H locs hP hD hS => ?_)
        refine lv_aload_n hx hb dX5_open_35 rfl (lv_at hl 0 rfl) ?_
        refine lv_aload_n hx hb dX5_open_36 rfl (lv_at hl 0 rfl) ?_
        refine lv_iload_n hx hb dX5_open_37 rfl (lv_at hl 1 rfl) ?_
        refine lv_iload_n hx hb dX5_open_38 rfl (lv_at hl 2 rfl) ?_
        refine lv_iload_n hx hb dX5_open_39 rfl (lv_at hl 3 rfl) ?_
        obtain ⟨u12, M13, e14, h⟩ := b2_ok h
        refine cl_Vi (ws' := (wX5 a cI cC cO M13)) ⟨hx, hb, hml, hown, ht⟩ (c_X5_opens l D cI cC cO a M10 x1 x2 x3 _ _ e14) (cwv 3 ht wd_654 wd_6 wd_651 wd_653 ws_26 (by decide +kernel) rfl rfl ⟨Nat.le_of_ble_eq_true rfl, Nat.le_of_ble_eq_true rfl⟩) 5 0 rfl rfl rfl hK hP hD hS hA hN [0, 1, 2, 3, 4, 5, 6, 7, 8, 9, 10, 11, 12] [] [0, 1, 2, 3, 4, 5, 6, 7, 8, 9, 10, 11, 12] (by decide) rfl rfl (by decide) (by decide) rfl (by decide) rfl hl.1 rfl (Nat.le_of_ble_eq_true rfl) dX5_open_40 ⟨Nat.le_of_ble_eq_true rfl, Nat.le_of_ble_eq_true rfl⟩ (fun H locs hP hD hS => ?_)
        obtain ⟨u15, M16, e17, h⟩ := b2_ok h
        refine cl_Vi (ws' := (wX5 a cI cC cO M16)) ⟨hx, hb, hml, hown, ht⟩ (c_X5_acted l D cI cC cO a M13 u12 _ _ e17) (cwv 1 ht wd_626 wd_6 wd_623 wd_625 ws_22 (by decide +kernel) rfl rfl ⟨Nat.le_of_ble_eq_true rfl, Nat.le_of_ble_eq_true rfl⟩) 5 0 rfl rfl rfl hK hP hD hS hA hN [0, 1, 2, 3, 4, 5, 6, 7, 8, 9, 10, 11, 12] [] [0, 1, 2, 3, 4, 5, 6, 7, 8, 9, 10, 11, 12] (by decide) rfl rfl (by decide) (by decide) rfl (by decide) rfl hl.1 rfl (Nat.le_of_ble_eq_true rfl) dX5_open_43 ⟨Nat.le_of_ble_eq_true rfl, Nat.le_of_ble_eq_true rfl⟩ (fun H locs hP hD hS => ?_)
        cases h
        exact rt_i hx hb hr hlocks hS hP hK hD dX5_open_46
      · replace h := fp c9 h
        refine lv_ldc hx hb hown (ht _ wd_613) dX5_open_28 ?_
        cases h
        exact rt_i hx hb hr hlocks hS hP hK hD dX5_open_30
theorem dX5_becomes_0 : decode cX5_becomes 0 = .ok (.aload_n 0, 1) := by decide +kernel
theorem dX5_becomes_1 : decode cX5_becomes 1 = .ok (.getfield 7, 3) := by decide +kernel
theorem dX5_becomes_4 : decode cX5_becomes 4 = .ok (.iload_n 1, 1) := by decide +kernel
theorem dX5_becomes_5 : decode cX5_becomes 5 = .ok (.iaload, 1) := by decide +kernel
theorem dX5_becomes_6 : decode cX5_becomes 6 = .ok (.istore_n 3, 1) := by decide +kernel
theorem dX5_becomes_7 : decode cX5_becomes 7 = .ok (.aload_n 0, 1) := by decide +kernel
theorem dX5_becomes_8 : decode cX5_becomes 8 = .ok (.getfield 7, 3) := by decide +kernel
theorem dX5_becomes_11 : decode cX5_becomes 11 = .ok (.iload_n 1, 1) := by decide +kernel
theorem dX5_becomes_12 : decode cX5_becomes 12 = .ok (.iload_n 2, 1) := by decide +kernel
theorem dX5_becomes_13 : decode cX5_becomes 13 = .ok (.iastore, 1) := by decide +kernel
theorem dX5_becomes_14 : decode cX5_becomes 14 = .ok (.iload_n 3, 1) := by decide +kernel
theorem dX5_becomes_15 : decode cX5_becomes 15 = .ok (.ireturn, 1) := by decide +kernel
set_option maxHeartbeats 4000000 in
set_option maxRecDepth 100000 in
theorem c_X5_becomes (l : Launch) (D : va_G) (cI cC cO : ClassId) (a : Nat → Nat) (M : Mm) (x1 x2 : Int32) (res : Int32 × Mm) (sz : Nat) (h : F_X5_becomes M x1 x2 = some res) : Met l yX5_becomes (Cond.code yX5_becomes cX5_becomes 4 (Option.some Jvm.ClassFile.FieldType.int) :: lw_g) ({ frames := 0, cells := 0, slots := 0, locals := 0 } : Room) (va_Pc [.ref (a 0), .int x1, .int x2] (pS D cI cC cO sz (wX5 a cI cC cO M))) (QI D cI cC cO (va_A (wX5 a cI cC cO M) sz) (wX5 a cI cC cO res.2) res.1) 0 0 (va_A (wX5 a cI cC cO M) sz) := by
  refine Met.ofW (cc := cX5_becomes) (maxL := 4) (ret := (Option.some Jvm.ClassFile.FieldType.int)) (by decide) rfl ?_
  intro p e s m args below meth c s₁ B hml hv
  obtain ⟨rfl, rfl, hP, hK, hD0, hN⟩ := hv
  have hx := B.exec
  have hb := B.bytes
  have hr := B.returns
  have ht : ∀ w ∈ lw_g, w.before ([.ref (a 0), .int x1, .int x2] : List Value).toArray s = true := fun w hw => atoms_spec (ws := Cond.code yX5_becomes cX5_becomes 4 (Option.some Jvm.ClassFile.FieldType.int) :: lw_g) B.pre w (List.mem_cons_of_mem _ hw)
  have hown : s.vm.findClass RX5 = some m.cls := findClass_of_methodNamed B.named
  have hlocks := B.notSynchronized
  have hD := hD0.self (sz := s.heap.size)
  generalize hAe : va_A (wX5 a cI cC cO M) s.heap.size = A at hD ⊢
  have hA : ∀ q : Nat, s.heap.size ≤ q → A q := fun q hq => by rw [← hAe]; exact Or.inr hq
  have hS : va_S A s.heap s.heap [] := va_S.rf
  have hl := lv_entry ([.ref (a 0), .int x1, .int x2]) (n := 4) (Nat.le_of_ble_eq_true rfl)
  rw [lg_entry_eq]
  generalize (lg_sl ([.ref (a 0), .int x1, .int x2]) ++ List.replicate (4 - (lg_sl ([.ref (a 0), .int x1, .int x2])).length) Slot.unset).toArray = ls at hl ⊢
  have hl : lv_has ls 4 [(0, .ref (a 0)), (1, .int x1), (2, .int x2)] := hl
  unfold F_X5_becomes at h
  refine lv_aload_n hx hb dX5_becomes_0 rfl (lv_at hl 0 rfl) ?_
  refine va_get (D := D) (ci := 5) (v := .ref (a 1)) (C := RX5) (T := TX5) (N := 23) hx hb ht i_X5 hown hK hP 0 rfl rfl 0 (by decide) (ht _ wd_536) (fun _ h9 => h9) rfl dX5_becomes_1 ?_
  refine lv_iload_n hx hb dX5_becomes_4 rfl (lv_at hl 1 rfl) ?_
  obtain ⟨i1, h⟩ := ck_ok h
  refine va_iald hx hb hK hP 1 0 rfl rfl i1 dX5_becomes_5 ?_
  refine lv_istore_n (lv' := [(3, .int (M 0 x1.toNatClampNeg)), (0, .ref (a 0)), (1, .int x1), (2, .int x2)]) hx hb dX5_becomes_6 rfl hl (by decide) rfl (fun ls hl => ?_)
  refine lv_aload_n hx hb dX5_becomes_7 rfl (lv_at hl 1 rfl) ?_
  refine va_get (D := D) (ci := 5) (v := .ref (a 1)) (C := RX5) (T := TX5) (N := 23) hx hb ht i_X5 hown hK hP 0 rfl rfl 0 (by decide) (ht _ wd_536) (fun _ h9 => h9) rfl dX5_becomes_8 ?_
  refine lv_iload_n hx hb dX5_becomes_11 rfl (lv_at hl 2 rfl) ?_
  refine lv_iload_n hx hb dX5_becomes_12 rfl (lv_at hl 3 rfl) ?_
  obtain ⟨i2, h⟩ := ck_ok h
  refine va_iast hx hb hK hP hD hS 1 0 rfl rfl i2 dX5_becomes_13 (fun H locs hP hD hS => ?_)
  obtain ⟨M3, e4, h⟩ := sv_ok h
  have hP : va_P D classes (wX5 a cI cC cO M3) H := by rw [← e4]; exact hP
  have hD : va_D A (wX5 a cI cC cO M3) := by rw [← e4]; exact hD
  refine lv_iload_n hx hb dX5_becomes_14 rfl (lv_at hl 0 rfl) ?_
  cases h
  exact rt_i hx hb hr hlocks hS hP hK hD dX5_becomes_15
theorem dX5_widen_0 : decode cX5_widen 0 = .ok (.aload_n 0, 1) := by decide +kernel
theorem dX5_widen_1 : decode cX5_widen 1 = .ok (.iload_n 1, 1) := by decide +kernel
theorem dX5_widen_2 : decode cX5_widen 2 = .ok (.invokevirtual 91, 3) := by decide +kernel
theorem dX5_widen_5 : decode cX5_widen 5 = .ok (.ifCond .eq 13, 3) := by decide +kernel
theorem dX5_widen_8 : decode cX5_widen 8 = .ok (.iload_n 2, 1) := by decide +kernel
theorem dX5_widen_9 : decode cX5_widen 9 = .ok (.iconst 1, 1) := by decide +kernel
theorem dX5_widen_10 : decode cX5_widen 10 = .ok (.bipush 9, 2) := by decide +kernel
theorem dX5_widen_12 : decode cX5_widen 12 = .ok (.invokestatic 63, 3) := by decide +kernel
theorem dX5_widen_15 : decode cX5_widen 15 = .ok (.ifCond .ne 6, 3) := by decide +kernel
theorem dX5_widen_18 : decode cX5_widen 18 = .ok (.ldc 67, 2) := by decide +kernel
theorem dX5_widen_20 : decode cX5_widen 20 = .ok (.ireturn, 1) := by decide +kernel
theorem dX5_widen_21 : decode cX5_widen 21 = .ok (.aload_n 0, 1) := by decide +kernel
theorem dX5_widen_22 : decode cX5_widen 22 = .ok (.invokevirtual 72, 3) := by decide +kernel
theorem dX5_widen_25 : decode cX5_widen 25 = .ok (.aload_n 0, 1) := by decide +kernel
theorem dX5_widen_26 : decode cX5_widen 26 = .ok (.aload_n 0, 1) := by decide +kernel
theorem dX5_widen_27 : decode cX5_widen 27 = .ok (.bipush 14, 2) := by decide +kernel
theorem dX5_widen_29 : decode cX5_widen 29 = .ok (.bipush 6, 2) := by decide +kernel
theorem dX5_widen_31 : decode cX5_widen 31 = .ok (.iload_n 1, 1) := by decide +kernel
theorem dX5_widen_32 : decode cX5_widen 32 = .ok (.imul, 1) := by decide +kernel
theorem dX5_widen_33 : decode cX5_widen 33 = .ok (.iadd, 1) := by decide +kernel
theorem dX5_widen_34 : decode cX5_widen 34 = .ok (.iconst 3, 1) := by decide +kernel
theorem dX5_widen_35 : decode cX5_widen 35 = .ok (.iadd, 1) := by decide +kernel
theorem dX5_widen_36 : decode cX5_widen 36 = .ok (.iload_n 2, 1) := by decide +kernel
theorem dX5_widen_37 : decode cX5_widen 37 = .ok (.invokevirtual 98, 3) := by decide +kernel
theorem dX5_widen_40 : decode cX5_widen 40 = .ok (.invokevirtual 79, 3) := by decide +kernel
theorem dX5_widen_43 : decode cX5_widen 43 = .ok (.ireturn, 1) := by decide +kernel
set_option maxHeartbeats 4000000 in
set_option maxRecDepth 100000 in
theorem c_X5_widen (l : Launch) (D : va_G) (cI cC cO : ClassId) (a : Nat → Nat) (M : Mm) (x1 x2 : Int32) (res : Int32 × Mm) (sz : Nat) (h : F_X5_widen M x1 x2 = some res) : Met l yX5_widen (Cond.code yX5_widen cX5_widen 3 (Option.some Jvm.ClassFile.FieldType.int) :: lw_g) ({ frames := 2, cells := 0, slots := 0, locals := 43 } : Room) (va_Pc [.ref (a 0), .int x1, .int x2] (pS D cI cC cO sz (wX5 a cI cC cO M))) (QI D cI cC cO (va_A (wX5 a cI cC cO M) sz) (wX5 a cI cC cO res.2) res.1) 0 0 (va_A (wX5 a cI cC cO M) sz) := by
  refine Met.ofW (cc := cX5_widen) (maxL := 3) (ret := (Option.some Jvm.ClassFile.FieldType.int)) (by decide) rfl ?_
  intro p e s m args below meth c s₁ B hml hv
  obtain ⟨rfl, rfl, hP, hK, hD0, hN⟩ := hv
  have hx := B.exec
  have hb := B.bytes
  have hr := B.returns
  have ht : ∀ w ∈ lw_g, w.before ([.ref (a 0), .int x1, .int x2] : List Value).toArray s = true := fun w hw => atoms_spec (ws := Cond.code yX5_widen cX5_widen 3 (Option.some Jvm.ClassFile.FieldType.int) :: lw_g) B.pre w (List.mem_cons_of_mem _ hw)
  have hown : s.vm.findClass RX5 = some m.cls := findClass_of_methodNamed B.named
  have hlocks := B.notSynchronized
  have hD := hD0.self (sz := s.heap.size)
  generalize hAe : va_A (wX5 a cI cC cO M) s.heap.size = A at hD ⊢
  have hA : ∀ q : Nat, s.heap.size ≤ q → A q := fun q hq => by rw [← hAe]; exact Or.inr hq
  have hS : va_S A s.heap s.heap [] := va_S.rf
  have hl := lv_entry ([.ref (a 0), .int x1, .int x2]) (n := 3) (Nat.le_of_ble_eq_true rfl)
  rw [lg_entry_eq]
  generalize (lg_sl ([.ref (a 0), .int x1, .int x2]) ++ List.replicate (3 - (lg_sl ([.ref (a 0), .int x1, .int x2])).length) Slot.unset).toArray = ls at hl ⊢
  have hl : lv_has ls 3 [(0, .ref (a 0)), (1, .int x1), (2, .int x2)] := hl
  unfold F_X5_widen at h
  refine lv_aload_n hx hb dX5_widen_0 rfl (lv_at hl 0 rfl) ?_
  refine lv_iload_n hx hb dX5_widen_1 rfl (lv_at hl 1 rfl) ?_
  obtain ⟨u1, e2, h⟩ := b1_ok h
  refine cl_Vi (ws' := (wX5 a cI cC cO M)) ⟨hx, hb, hml, hown, ht⟩ (c_X5_isPipe l D cI cC cO a M x1 _ _ e2) (cwv 1 ht wd_646 wd_6 wd_643 wd_645 ws_25 (by decide +kernel) rfl rfl ⟨Nat.le_of_ble_eq_true rfl, Nat.le_of_ble_eq_true rfl⟩) 5 0 rfl rfl rfl hK hP hD hS hA hN [0, 1, 2, 3, 4, 5, 6, 7, 8, 9, 10, 11, 12] [] [0, 1, 2, 3, 4, 5, 6, 7, 8, 9, 10, 11, 12] (by decide) rfl rfl (by decide) (by decide) rfl (by decide) rfl hl.1 rfl (Nat.le_of_ble_eq_true rfl) dX5_widen_2 ⟨Nat.le_of_ble_eq_true rfl, Nat.le_of_ble_eq_true rfl⟩ (fun H locs hP hD hS => ?_)
  refine lv_if_eq (tgt := 18) hx hb dX5_widen_5 (by decide) (fun c3 => ?_) (fun c3 => ?_)
  · replace h := fp c3 h
    refine lv_ldc hx hb hown (ht _ wd_613) dX5_widen_18 ?_
    cases h
    exact rt_i hx hb hr hlocks hS hP hK hD dX5_widen_20
  · replace h := fn c3 h
    refine lv_iload_n hx hb dX5_widen_8 rfl (lv_at hl 2 rfl) ?_
    refine lv_iconst (v := (1 : Int32)) hx hb dX5_widen_9 (by decide) ?_
    refine lv_bipush (v := (9 : Int32)) hx hb dX5_widen_10 (by decide) ?_
    obtain ⟨u4, e5, h⟩ := b1_ok h
    refine cl_Si (ws' := (wX5 a cI cC cO M)) ⟨hx, hb, hml, hown, ht⟩ (c_X5_in l D cI cC cO x2 (1 : Int32) (9 : Int32) _ _ e5) (cwst 3 ht wd_612 wd_6 wd_610 wd_611 (by decide +kernel) rfl rfl ⟨Nat.le_of_ble_eq_true rfl, Nat.le_of_ble_eq_true rfl⟩) hK hP hD hS hA hN [] [0, 1, 2, 3, 4, 5, 6, 7, 8, 9, 10, 11, 12] [0, 1, 2, 3, 4, 5, 6, 7, 8, 9, 10, 11, 12] (by decide) rfl rfl (by decide) (by decide) rfl (by decide) rfl hl.1 rfl (Nat.le_of_ble_eq_true rfl) dX5_widen_12 ⟨Nat.le_of_ble_eq_true rfl, Nat.le_of_ble_eq_true rfl⟩ (fun H locs hP hD hS => ?_)
    refine lv_if_ne (tgt := 21) hx hb dX5_widen_15 (by decide) (fun c6 => ?_) (fun c6 => ?_)
    · replace h := fn c6 h
      refine lv_aload_n hx hb dX5_widen_21 rfl (lv_at hl 0 rfl) ?_
      obtain ⟨M7, e8, h⟩ := b1_ok h
      refine cl_Vv (ws' := (wX5 a cI cC cO M7)) ⟨hx, hb, hml, hown, ht⟩ (c_X5_keeps l D cI cC cO a M _ _ e8) (cwv 0 ht wd_617 wd_6 wd_614 wd_616 ws_20 (by decide +kernel) rfl rfl ⟨Nat.le_of_ble_eq_true rfl, Nat.le_of_ble_eq_true rfl⟩) 5 0 rfl rfl rfl hK hP hD hS hA hN [0, 1, 2, 3, 4, 5, 6, 7, 8, 9, 10, 11, 12] [] [0, 1, 2, 3, 4, 5, 6, 7, 8, 9, 10, 11, 12] (by decide) rfl rfl (by decide) (by decide) rfl (by decide) rfl hl.1 rfl (Nat.le_of_ble_eq_true rfl) dX5_widen_22 ⟨Nat.le_of_ble_eq_true rfl, Nat.le_of_ble_eq_true rfl⟩ (fun H locs hP hD hS => ?_)
      refine lv_aload_n hx hb dX5_widen_25 rfl (lv_at hl 0 rfl) ?_
      refine lv_aload_n hx hb dX5_widen_26 rfl (lv_at hl 0 rfl) ?_
      refine lv_bipush (v := (14 : Int32)) hx hb dX5_widen_27 (by decide) ?_
      refine lv_bipush (v := (6 : Int32)) hx hb dX5_widen_29 (by decide) ?_
      refine lv_iload_n hx hb dX5_widen_31 rfl (lv_at hl 1 rfl) ?_
      refine lv_imul hx hb dX5_widen_32 ?_
      refine lv_iadd hx hb dX5_widen_33 ?_
      refine lv_iconst (v := (3 : Int32)) hx hb dX5_widen_34 (by decide) ?_
      refine lv_iadd hx hb dX5_widen_35 ?_
      refine lv_iload_n hx hb dX5_widen_36 rfl (lv_at hl 2 rfl) ?_
      obtain ⟨u9, M10, e11, h⟩ := b2_ok h
      refine cl_Vi (ws' := (wX5 a cI cC cO M10)) ⟨hx, hb, hml, hown, ht⟩ (c_X5_becomes l D cI cC cO a M7 (((14 : Int32) + ((6 : Int32) * x1)) + (3 : Int32)) x2 _ _ e11) (cwv 2 ht wd_662 wd_6 wd_659 wd_661 ws_27 (by decide +kernel) rfl rfl ⟨Nat.le_of_ble_eq_true rfl, Nat.le_of_ble_eq_true rfl⟩) 5 0 rfl rfl rfl hK hP hD hS hA hN [0, 1, 2, 3, 4, 5, 6, 7, 8, 9, 10, 11, 12] [] [0, 1, 2, 3, 4, 5, 6, 7, 8, 9, 10, 11, 12] (by decide) rfl rfl (by decide) (by decide) rfl (by decide) rfl hl.1 rfl (Nat.le_of_ble_eq_true rfl) dX5_widen_37 ⟨Nat.le_of_ble_eq_true rfl, Nat.le_of_ble_eq_true rfl⟩ (fun H locs hP hD hS => ?_)
      obtain ⟨u12, M13, e14, h⟩ := b2_ok h
      refine cl_Vi (ws' := (wX5 a cI cC cO M13)) ⟨hx, hb, hml, hown, ht⟩ (c_X5_acted l D cI cC cO a M10 u9 _ _ e14) (cwv 1 ht wd_626 wd_6 wd_623 wd_625 ws_22 (by decide +kernel) rfl rfl ⟨Nat.le_of_ble_eq_true rfl, Nat.le_of_ble_eq_true rfl⟩) 5 0 rfl rfl rfl hK hP hD hS hA hN [0, 1, 2, 3, 4, 5, 6, 7, 8, 9, 10, 11, 12] [] [0, 1, 2, 3, 4, 5, 6, 7, 8, 9, 10, 11, 12] (by decide) rfl rfl (by decide) (by decide) rfl (by decide) rfl hl.1 rfl (Nat.le_of_ble_eq_true rfl) dX5_widen_40 ⟨Nat.le_of_ble_eq_true rfl, Nat.le_of_ble_eq_true rfl⟩ (fun H locs hP hD hS => ?_)
      cases h
      exact rt_i hx hb hr hlocks hS hP hK hD dX5_widen_43
    · replace h := fp c6 h
      refine lv_ldc hx hb hown (ht _ wd_613) dX5_widen_18 ?_
      cases h
      exact rt_i hx hb hr hlocks hS hP hK hD dX5_widen_20
theorem dX5_units_0 : decode cX5_units 0 = .ok (.aload_n 0, 1) := by decide +kernel
theorem dX5_units_1 : decode cX5_units 1 = .ok (.iload_n 1, 1) := by decide +kernel
theorem dX5_units_2 : decode cX5_units 2 = .ok (.invokevirtual 83, 3) := by decide +kernel
theorem dX5_units_5 : decode cX5_units 5 = .ok (.ifCond .eq 13, 3) := by decide +kernel
theorem dX5_units_8 : decode cX5_units 8 = .ok (.iload_n 2, 1) := by decide +kernel
theorem dX5_units_9 : decode cX5_units 9 = .ok (.iconst 0, 1) := by decide +kernel
theorem dX5_units_10 : decode cX5_units 10 = .ok (.bipush 20, 2) := by decide +kernel
theorem dX5_units_12 : decode cX5_units 12 = .ok (.invokestatic 63, 3) := by decide +kernel
theorem dX5_units_15 : decode cX5_units 15 = .ok (.ifCond .ne 6, 3) := by decide +kernel
theorem dX5_units_18 : decode cX5_units 18 = .ok (.ldc 67, 2) := by decide +kernel
theorem dX5_units_20 : decode cX5_units 20 = .ok (.ireturn, 1) := by decide +kernel
theorem dX5_units_21 : decode cX5_units 21 = .ok (.aload_n 0, 1) := by decide +kernel
theorem dX5_units_22 : decode cX5_units 22 = .ok (.invokevirtual 72, 3) := by decide +kernel
theorem dX5_units_25 : decode cX5_units 25 = .ok (.aload_n 0, 1) := by decide +kernel
theorem dX5_units_26 : decode cX5_units 26 = .ok (.aload_n 0, 1) := by decide +kernel
theorem dX5_units_27 : decode cX5_units 27 = .ok (.iconst 2, 1) := by decide +kernel
theorem dX5_units_28 : decode cX5_units 28 = .ok (.iconst 2, 1) := by decide +kernel
theorem dX5_units_29 : decode cX5_units 29 = .ok (.iload_n 1, 1) := by decide +kernel
theorem dX5_units_30 : decode cX5_units 30 = .ok (.imul, 1) := by decide +kernel
theorem dX5_units_31 : decode cX5_units 31 = .ok (.iadd, 1) := by decide +kernel
theorem dX5_units_32 : decode cX5_units 32 = .ok (.iload_n 2, 1) := by decide +kernel
theorem dX5_units_33 : decode cX5_units 33 = .ok (.invokevirtual 98, 3) := by decide +kernel
theorem dX5_units_36 : decode cX5_units 36 = .ok (.invokevirtual 79, 3) := by decide +kernel
theorem dX5_units_39 : decode cX5_units 39 = .ok (.ireturn, 1) := by decide +kernel
set_option maxHeartbeats 4000000 in
set_option maxRecDepth 100000 in
theorem c_X5_units (l : Launch) (D : va_G) (cI cC cO : ClassId) (a : Nat → Nat) (M : Mm) (x1 x2 : Int32) (res : Int32 × Mm) (sz : Nat) (h : F_X5_units M x1 x2 = some res) : Met l yX5_units (Cond.code yX5_units cX5_units 3 (Option.some Jvm.ClassFile.FieldType.int) :: lw_g) ({ frames := 2, cells := 0, slots := 0, locals := 43 } : Room) (va_Pc [.ref (a 0), .int x1, .int x2] (pS D cI cC cO sz (wX5 a cI cC cO M))) (QI D cI cC cO (va_A (wX5 a cI cC cO M) sz) (wX5 a cI cC cO res.2) res.1) 0 0 (va_A (wX5 a cI cC cO M) sz) := by
  refine Met.ofW (cc := cX5_units) (maxL := 3) (ret := (Option.some Jvm.ClassFile.FieldType.int)) (by decide) rfl ?_
  intro p e s m args below meth c s₁ B hml hv
  obtain ⟨rfl, rfl, hP, hK, hD0, hN⟩ := hv
  have hx := B.exec
  have hb := B.bytes
  have hr := B.returns
  have ht : ∀ w ∈ lw_g, w.before ([.ref (a 0), .int x1, .int x2] : List Value).toArray s = true := fun w hw => atoms_spec (ws := Cond.code yX5_units cX5_units 3 (Option.some Jvm.ClassFile.FieldType.int) :: lw_g) B.pre w (List.mem_cons_of_mem _ hw)
  have hown : s.vm.findClass RX5 = some m.cls := findClass_of_methodNamed B.named
  have hlocks := B.notSynchronized
  have hD := hD0.self (sz := s.heap.size)
  generalize hAe : va_A (wX5 a cI cC cO M) s.heap.size = A at hD ⊢
  have hA : ∀ q : Nat, s.heap.size ≤ q → A q := fun q hq => by rw [← hAe]; exact Or.inr hq
  have hS : va_S A s.heap s.heap [] := va_S.rf
  have hl := lv_entry ([.ref (a 0), .int x1, .int x2]) (n := 3) (Nat.le_of_ble_eq_true rfl)
  rw [lg_entry_eq]
  generalize (lg_sl ([.ref (a 0), .int x1, .int x2]) ++ List.replicate (3 - (lg_sl ([.ref (a 0), .int x1, .int x2])).length) Slot.unset).toArray = ls at hl ⊢
  have hl : lv_has ls 3 [(0, .ref (a 0)), (1, .int x1), (2, .int x2)] := hl
  unfold F_X5_units at h
  refine lv_aload_n hx hb dX5_units_0 rfl (lv_at hl 0 rfl) ?_
  refine lv_iload_n hx hb dX5_units_1 rfl (lv_at hl 1 rfl) ?_
  obtain ⟨u1, e2, h⟩ := b1_ok h
  refine cl_Vi (ws' := (wX5 a cI cC cO M)) ⟨hx, hb, hml, hown, ht⟩ (c_X5_isPlace l D cI cC cO a M x1 _ _ e2) (cwv 1 ht wd_634 wd_6 wd_631 wd_633 ws_23 (by decide +kernel) rfl rfl ⟨Nat.le_of_ble_eq_true rfl, Nat.le_of_ble_eq_true rfl⟩) 5 0 rfl rfl rfl hK hP hD hS hA hN [0, 1, 2, 3, 4, 5, 6, 7, 8, 9, 10, 11, 12] [] [0, 1, 2, 3, 4, 5, 6, 7, 8, 9, 10, 11, 12] (by decide) rfl rfl (by decide) (by decide) rfl (by decide) rfl hl.1 rfl (Nat.le_of_ble_eq_true rfl) dX5_units_2 ⟨Nat.le_of_ble_eq_true rfl, Nat.le_of_ble_eq_true rfl⟩ (fun H locs hP hD hS => ?_)
  refine lv_if_eq (tgt := 18) hx hb dX5_units_5 (by decide) (fun c3 => ?_) (fun c3 => ?_)
  · replace h := fp c3 h
    refine lv_ldc hx hb hown (ht _ wd_613) dX5_units_18 ?_
    cases h
    exact rt_i hx hb hr hlocks hS hP hK hD dX5_units_20
  · replace h := fn c3 h
    refine lv_iload_n hx hb dX5_units_8 rfl (lv_at hl 2 rfl) ?_
    refine lv_iconst (v := (0 : Int32)) hx hb dX5_units_9 (by decide) ?_
    refine lv_bipush (v := (20 : Int32)) hx hb dX5_units_10 (by decide) ?_
    obtain ⟨u4, e5, h⟩ := b1_ok h
    refine cl_Si (ws' := (wX5 a cI cC cO M)) ⟨hx, hb, hml, hown, ht⟩ (c_X5_in l D cI cC cO x2 (0 : Int32) (20 : Int32) _ _ e5) (cwst 3 ht wd_612 wd_6 wd_610 wd_611 (by decide +kernel) rfl rfl ⟨Nat.le_of_ble_eq_true rfl, Nat.le_of_ble_eq_true rfl⟩) hK hP hD hS hA hN [] [0, 1, 2, 3, 4, 5, 6, 7, 8, 9, 10, 11, 12] [0, 1, 2, 3, 4, 5, 6, 7, 8, 9, 10, 11, 12] (by decide) rfl rfl (by decide) (by decide) rfl (by decide) rfl hl.1 rfl (Nat.le_of_ble_eq_true rfl) dX5_units_12 ⟨Nat.le_of_ble_eq_true rfl, Nat.le_of_ble_eq_true rfl⟩ (fun H locs hP hD hS => ?_)
    refine lv_if_ne (tgt := 21) hx hb dX5_units_15 (by decide) (fun c6 => ?_) (fun c6 => ?_)
    · replace h := fn c6 h
      refine lv_aload_n hx hb dX5_units_21 rfl (lv_at hl 0 rfl) ?_
      obtain ⟨M7, e8, h⟩ := b1_ok h
      refine cl_Vv (ws' := (wX5 a cI cC cO M7)) ⟨hx, hb, hml, hown, ht⟩ (c_X5_keeps l D cI cC cO a M _ _ e8) (cwv 0 ht wd_617 wd_6 wd_614 wd_616 ws_20 (by decide +kernel) rfl rfl ⟨Nat.le_of_ble_eq_true rfl, Nat.le_of_ble_eq_true rfl⟩) 5 0 rfl rfl rfl hK hP hD hS hA hN [0, 1, 2, 3, 4, 5, 6, 7, 8, 9, 10, 11, 12] [] [0, 1, 2, 3, 4, 5, 6, 7, 8, 9, 10, 11, 12] (by decide) rfl rfl (by decide) (by decide) rfl (by decide) rfl hl.1 rfl (Nat.le_of_ble_eq_true rfl) dX5_units_22 ⟨Nat.le_of_ble_eq_true rfl, Nat.le_of_ble_eq_true rfl⟩ (fun H locs hP hD hS => ?_)
      refine lv_aload_n hx hb dX5_units_25 rfl (lv_at hl 0 rfl) ?_
      refine lv_aload_n hx hb dX5_units_26 rfl (lv_at hl 0 rfl) ?_
      refine lv_iconst (v := (2 : Int32)) hx hb dX5_units_27 (by decide) ?_
      refine lv_iconst (v := (2 : Int32)) hx hb dX5_units_28 (by decide) ?_
      refine lv_iload_n hx hb dX5_units_29 rfl (lv_at hl 1 rfl) ?_
      refine lv_imul hx hb dX5_units_30 ?_
      refine lv_iadd hx hb dX5_units_31 ?_
      refine lv_iload_n hx hb dX5_units_32 rfl (lv_at hl 2 rfl) ?_
      obtain ⟨u9, M10, e11, h⟩ := b2_ok h
      refine cl_Vi (ws' := (wX5 a cI cC cO M10)) ⟨hx, hb, hml, hown, ht⟩ (c_X5_becomes l D cI cC cO a M7 ((2 : Int32) + ((2 : Int32) * x1)) x2 _ _ e11) (cwv 2 ht wd_662 wd_6 wd_659 wd_661 ws_27 (by decide +kernel) rfl rfl ⟨Nat.le_of_ble_eq_true rfl, Nat.le_of_ble_eq_true rfl⟩) 5 0 rfl rfl rfl hK hP hD hS hA hN [0, 1, 2, 3, 4, 5, 6, 7, 8, 9, 10, 11, 12] [] [0, 1, 2, 3, 4, 5, 6, 7, 8, 9, 10, 11, 12] (by decide) rfl rfl (by decide) (by decide) rfl (by decide) rfl hl.1 rfl (Nat.le_of_ble_eq_true rfl) dX5_units_33 ⟨Nat.le_of_ble_eq_true rfl, Nat.le_of_ble_eq_true rfl⟩ (fun H locs hP hD hS => ?_)
      obtain ⟨u12, M13, e14, h⟩ := b2_ok h
      refine cl_Vi (ws' := (wX5 a cI cC cO M13)) ⟨hx, hb, hml, hown, ht⟩ (c_X5_acted l D cI cC cO a M10 u9 _ _ e14) (cwv 1 ht wd_626 wd_6 wd_623 wd_625 ws_22 (by decide +kernel) rfl rfl ⟨Nat.le_of_ble_eq_true rfl, Nat.le_of_ble_eq_true rfl⟩) 5 0 rfl rfl rfl hK hP hD hS hA hN [0, 1, 2, 3, 4, 5, 6, 7, 8, 9, 10, 11, 12] [] [0, 1, 2, 3, 4, 5, 6, 7, 8, 9, 10, 11, 12] (by decide) rfl rfl (by decide) (by decide) rfl (by decide) rfl hl.1 rfl (Nat.le_of_ble_eq_true rfl) dX5_units_36 ⟨Nat.le_of_ble_eq_true rfl, Nat.le_of_ble_eq_true rfl⟩ (fun H locs hP hD hS => ?_)
      cases h
      exact rt_i hx hb hr hlocks hS hP hK hD dX5_units_39
    · replace h := fp c6 h
      refine lv_ldc hx hb hown (ht _ wd_613) dX5_units_18 ?_
      cases h
      exact rt_i hx hb hr hlocks hS hP hK hD dX5_units_20
theorem dX5_room_0 : decode cX5_room 0 = .ok (.aload_n 0, 1) := by decide +kernel
theorem dX5_room_1 : decode cX5_room 1 = .ok (.iload_n 1, 1) := by decide +kernel
theorem dX5_room_2 : decode cX5_room 2 = .ok (.invokevirtual 83, 3) := by decide +kernel
theorem dX5_room_5 : decode cX5_room 5 = .ok (.ifCond .eq 13, 3) := by decide +kernel
theorem dX5_room_8 : decode cX5_room 8 = .ok (.iload_n 2, 1) := by decide +kernel
theorem dX5_room_9 : decode cX5_room 9 = .ok (.iconst 0, 1) := by decide +kernel
theorem dX5_room_10 : decode cX5_room 10 = .ok (.bipush 40, 2) := by decide +kernel
theorem dX5_room_12 : decode cX5_room 12 = .ok (.invokestatic 63, 3) := by decide +kernel
theorem dX5_room_15 : decode cX5_room 15 = .ok (.ifCond .ne 6, 3) := by decide +kernel
theorem dX5_room_18 : decode cX5_room 18 = .ok (.ldc 67, 2) := by decide +kernel
theorem dX5_room_20 : decode cX5_room 20 = .ok (.ireturn, 1) := by decide +kernel
theorem dX5_room_21 : decode cX5_room 21 = .ok (.aload_n 0, 1) := by decide +kernel
theorem dX5_room_22 : decode cX5_room 22 = .ok (.invokevirtual 72, 3) := by decide +kernel
theorem dX5_room_25 : decode cX5_room 25 = .ok (.aload_n 0, 1) := by decide +kernel
theorem dX5_room_26 : decode cX5_room 26 = .ok (.aload_n 0, 1) := by decide +kernel
theorem dX5_room_27 : decode cX5_room 27 = .ok (.iconst 2, 1) := by decide +kernel
theorem dX5_room_28 : decode cX5_room 28 = .ok (.iconst 2, 1) := by decide +kernel
theorem dX5_room_29 : decode cX5_room 29 = .ok (.iload_n 1, 1) := by decide +kernel
theorem dX5_room_30 : decode cX5_room 30 = .ok (.imul, 1) := by decide +kernel
theorem dX5_room_31 : decode cX5_room 31 = .ok (.iadd, 1) := by decide +kernel
theorem dX5_room_32 : decode cX5_room 32 = .ok (.iconst 1, 1) := by decide +kernel
theorem dX5_room_33 : decode cX5_room 33 = .ok (.iadd, 1) := by decide +kernel
theorem dX5_room_34 : decode cX5_room 34 = .ok (.iload_n 2, 1) := by decide +kernel
theorem dX5_room_35 : decode cX5_room 35 = .ok (.invokevirtual 98, 3) := by decide +kernel
theorem dX5_room_38 : decode cX5_room 38 = .ok (.invokevirtual 79, 3) := by decide +kernel
theorem dX5_room_41 : decode cX5_room 41 = .ok (.ireturn, 1) := by decide +kernel
set_option maxHeartbeats 4000000 in
set_option maxRecDepth 100000 in
theorem c_X5_room (l : Launch) (D : va_G) (cI cC cO : ClassId) (a : Nat → Nat) (M : Mm) (x1 x2 : Int32) (res : Int32 × Mm) (sz : Nat) (h : F_X5_room M x1 x2 = some res) : Met l yX5_room (Cond.code yX5_room cX5_room 3 (Option.some Jvm.ClassFile.FieldType.int) :: lw_g) ({ frames := 2, cells := 0, slots := 0, locals := 43 } : Room) (va_Pc [.ref (a 0), .int x1, .int x2] (pS D cI cC cO sz (wX5 a cI cC cO M))) (QI D cI cC cO (va_A (wX5 a cI cC cO M) sz) (wX5 a cI cC cO res.2) res.1) 0 0 (va_A (wX5 a cI cC cO M) sz) := by
  refine Met.ofW (cc := cX5_room) (maxL := 3) (ret := (Option.some Jvm.ClassFile.FieldType.int)) (by decide) rfl ?_
  intro p e s m args below meth c s₁ B hml hv
  obtain ⟨rfl, rfl, hP, hK, hD0, hN⟩ := hv
  have hx := B.exec
  have hb := B.bytes
  have hr := B.returns
  have ht : ∀ w ∈ lw_g, w.before ([.ref (a 0), .int x1, .int x2] : List Value).toArray s = true := fun w hw => atoms_spec (ws := Cond.code yX5_room cX5_room 3 (Option.some Jvm.ClassFile.FieldType.int) :: lw_g) B.pre w (List.mem_cons_of_mem _ hw)
  have hown : s.vm.findClass RX5 = some m.cls := findClass_of_methodNamed B.named
  have hlocks := B.notSynchronized
  have hD := hD0.self (sz := s.heap.size)
  generalize hAe : va_A (wX5 a cI cC cO M) s.heap.size = A at hD ⊢
  have hA : ∀ q : Nat, s.heap.size ≤ q → A q := fun q hq => by rw [← hAe]; exact Or.inr hq
  have hS : va_S A s.heap s.heap [] := va_S.rf
  have hl := lv_entry ([.ref (a 0), .int x1, .int x2]) (n := 3) (Nat.le_of_ble_eq_true rfl)
  rw [lg_entry_eq]
  generalize (lg_sl ([.ref (a 0), .int x1, .int x2]) ++ List.replicate (3 - (lg_sl ([.ref (a 0), .int x1, .int x2])).length) Slot.unset).toArray = ls at hl ⊢
  have hl : lv_has ls 3 [(0, .ref (a 0)), (1, .int x1), (2, .int x2)] := hl
  unfold F_X5_room at h
  refine lv_aload_n hx hb dX5_room_0 rfl (lv_at hl 0 rfl) ?_
  refine lv_iload_n hx hb dX5_room_1 rfl (lv_at hl 1 rfl) ?_
  obtain ⟨u1, e2, h⟩ := b1_ok h
  refine cl_Vi (ws' := (wX5 a cI cC cO M)) ⟨hx, hb, hml, hown, ht⟩ (c_X5_isPlace l D cI cC cO a M x1 _ _ e2) (cwv 1 ht wd_634 wd_6 wd_631 wd_633 ws_23 (by decide +kernel) rfl rfl ⟨Nat.le_of_ble_eq_true rfl, Nat.le_of_ble_eq_true rfl⟩) 5 0 rfl rfl rfl hK hP hD hS hA hN [0, 1, 2, 3, 4, 5, 6, 7, 8, 9, 10, 11, 12] [] [0, 1, 2, 3, 4, 5, 6, 7, 8, 9, 10, 11, 12] (by decide) rfl rfl (by decide) (by decide) rfl (by decide) rfl hl.1 rfl (Nat.le_of_ble_eq_true rfl) dX5_room_2 ⟨Nat.le_of_ble_eq_true rfl, Nat.le_of_ble_eq_true rfl⟩ (fun H locs hP hD hS => ?_)
  refine lv_if_eq (tgt := 18) hx hb dX5_room_5 (by decide) (fun c3 => ?_) (fun c3 => ?_)
  · replace h := fp c3 h
    refine lv_ldc hx hb hown (ht _ wd_613) dX5_room_18 ?_
    cases h
    exact rt_i hx hb hr hlocks hS hP hK hD dX5_room_20
  · replace h := fn c3 h
    refine lv_iload_n hx hb dX5_room_8 rfl (lv_at hl 2 rfl) ?_
    refine lv_iconst (v := (0 : Int32)) hx hb dX5_room_9 (by decide) ?_
    refine lv_bipush (v := (40 : Int32)) hx hb dX5_room_10 (by decide) ?_
    obtain ⟨u4, e5, h⟩ := b1_ok h
    refine cl_Si (ws' := (wX5 a cI cC cO M)) ⟨hx, hb, hml, hown, ht⟩ (c_X5_in l D cI cC cO x2 (0 : Int32) (40 : Int32) _ _ e5) (cwst 3 ht wd_612 wd_6 wd_610 wd_611 (by decide +kernel) rfl rfl ⟨Nat.le_of_ble_eq_true rfl, Nat.le_of_ble_eq_true rfl⟩) hK hP hD hS hA hN [] [0, 1, 2, 3, 4, 5, 6, 7, 8, 9, 10, 11, 12] [0, 1, 2, 3, 4, 5, 6, 7, 8, 9, 10, 11, 12] (by decide) rfl rfl (by decide) (by decide) rfl (by decide) rfl hl.1 rfl (Nat.le_of_ble_eq_true rfl) dX5_room_12 ⟨Nat.le_of_ble_eq_true rfl, Nat.le_of_ble_eq_true rfl⟩ (fun H locs hP hD hS => ?_)
    refine lv_if_ne (tgt := 21) hx hb dX5_room_15 (by decide) (fun c6 => ?_) (fun c6 => ?_)
    · replace h := fn c6 h
      refine lv_aload_n hx hb dX5_room_21 rfl (lv_at hl 0 rfl) ?_
      obtain ⟨M7, e8, h⟩ := b1_ok h
      refine cl_Vv (ws' := (wX5 a cI cC cO M7)) ⟨hx, hb, hml, hown, ht⟩ (c_X5_keeps l D cI cC cO a M _ _ e8) (cwv 0 ht wd_617 wd_6 wd_614 wd_616 ws_20 (by decide +kernel) rfl rfl ⟨Nat.le_of_ble_eq_true rfl, Nat.le_of_ble_eq_true rfl⟩) 5 0 rfl rfl rfl hK hP hD hS hA hN [0, 1, 2, 3, 4, 5, 6, 7, 8, 9, 10, 11, 12] [] [0, 1, 2, 3, 4, 5, 6, 7, 8, 9, 10, 11, 12] (by decide) rfl rfl (by decide) (by decide) rfl (by decide) rfl hl.1 rfl (Nat.le_of_ble_eq_true rfl) dX5_room_22 ⟨Nat.le_of_ble_eq_true rfl, Nat.le_of_ble_eq_true rfl⟩ (fun H locs hP hD hS => ?_)
      refine lv_aload_n hx hb dX5_room_25 rfl (lv_at hl 0 rfl) ?_
      refine lv_aload_n hx hb dX5_room_26 rfl (lv_at hl 0 rfl) ?_
      refine lv_iconst (v := (2 : Int32)) hx hb dX5_room_27 (by decide) ?_
      refine lv_iconst (v := (2 : Int32)) hx hb dX5_room_28 (by decide) ?_
      refine lv_iload_n hx hb dX5_room_29 rfl (lv_at hl 1 rfl) ?_
      refine lv_imul hx hb dX5_room_30 ?_
      refine lv_iadd hx hb dX5_room_31 ?_
      refine lv_iconst (v := (1 : Int32)) hx hb dX5_room_32 (by decide) ?_
      refine lv_iadd hx hb dX5_room_33 ?_
      refine lv_iload_n hx hb dX5_room_34 rfl (lv_at hl 2 rfl) ?_
      obtain ⟨u9, M10, e11, h⟩ := b2_ok h
      refine cl_Vi (ws' := (wX5 a cI cC cO M10)) ⟨hx, hb, hml, hown, ht⟩ (c_X5_becomes l D cI cC cO a M7 (((2 : Int32) + ((2 : Int32) * x1)) + (1 : Int32)) x2 _ _ e11) (cwv 2 ht wd_662 wd_6 wd_659 wd_661 ws_27 (by decide +kernel) rfl rfl ⟨Nat.le_of_ble_eq_true rfl, Nat.le_of_ble_eq_true rfl⟩) 5 0 rfl rfl rfl hK hP hD hS hA hN [0, 1, 2, 3, 4, 5, 6, 7, 8, 9, 10, 11, 12] [] [0, 1, 2, 3, 4, 5, 6, 7, 8, 9, 10, 11, 12] (by decide) rfl rfl (by decide) (by decide) rfl (by decide) rfl hl.1 rfl (Nat.le_of_ble_eq_true rfl) dX5_room_35 ⟨Nat.le_of_ble_eq_true rfl, Nat.le_of_ble_eq_true rfl⟩ (fun H locs hP hD hS => ?_)
      obtain ⟨u12, M13, e14, h⟩ := b2_ok h
      refine cl_Vi (ws' := (wX5 a cI cC cO M13)) ⟨hx, hb, hml, hown, ht⟩ (c_X5_acted l D cI cC cO a M10 u9 _ _ e14) (cwv 1 ht wd_626 wd_6 wd_623 wd_625 ws_22 (by decide +kernel) rfl rfl ⟨Nat.le_of_ble_eq_true rfl, Nat.le_of_ble_eq_true rfl⟩) 5 0 rfl rfl rfl hK hP hD hS hA hN [0, 1, 2, 3, 4, 5, 6, 7, 8, 9, 10, 11, 12] [] [0, 1, 2, 3, 4, 5, 6, 7, 8, 9, 10, 11, 12] (by decide) rfl rfl (by decide) (by decide) rfl (by decide) rfl hl.1 rfl (Nat.le_of_ble_eq_true rfl) dX5_room_38 ⟨Nat.le_of_ble_eq_true rfl, Nat.le_of_ble_eq_true rfl⟩ (fun H locs hP hD hS => ?_)
      cases h
      exact rt_i hx hb hr hlocks hS hP hK hD dX5_room_41
    · replace h := fp c6 h
      refine lv_ldc hx hb hown (ht _ wd_613) dX5_room_18 ?_
      cases h
      exact rt_i hx hb hr hlocks hS hP hK hD dX5_room_20
theorem dX5_pipeOf_0 : decode cX5_pipeOf 0 = .ok (.aload_n 0, 1) := by decide +kernel
theorem dX5_pipeOf_1 : decode cX5_pipeOf 1 = .ok (.iload_n 1, 1) := by decide +kernel
theorem dX5_pipeOf_2 : decode cX5_pipeOf 2 = .ok (.invokevirtual 91, 3) := by decide +kernel
theorem dX5_pipeOf_5 : decode cX5_pipeOf 5 = .ok (.ifCond .eq 21, 3) := by decide +kernel
theorem dX5_pipeOf_8 : decode cX5_pipeOf 8 = .ok (.iload_n 2, 1) := by decide +kernel
theorem dX5_pipeOf_9 : decode cX5_pipeOf 9 = .ok (.iconst 0, 1) := by decide +kernel
theorem dX5_pipeOf_10 : decode cX5_pipeOf 10 = .ok (.iconst 5, 1) := by decide +kernel
theorem dX5_pipeOf_11 : decode cX5_pipeOf 11 = .ok (.invokestatic 63, 3) := by decide +kernel
theorem dX5_pipeOf_14 : decode cX5_pipeOf 14 = .ok (.ifCond .eq 12, 3) := by decide +kernel
theorem dX5_pipeOf_17 : decode cX5_pipeOf 17 = .ok (.aload_n 0, 1) := by decide +kernel
theorem dX5_pipeOf_18 : decode cX5_pipeOf 18 = .ok (.iload_n 1, 1) := by decide +kernel
theorem dX5_pipeOf_19 : decode cX5_pipeOf 19 = .ok (.iload_n 2, 1) := by decide +kernel
theorem dX5_pipeOf_20 : decode cX5_pipeOf 20 = .ok (.invokevirtual 101, 3) := by decide +kernel
theorem dX5_pipeOf_23 : decode cX5_pipeOf 23 = .ok (.goto 5, 3) := by decide +kernel
theorem dX5_pipeOf_26 : decode cX5_pipeOf 26 = .ok (.ldc 67, 2) := by decide +kernel
theorem dX5_pipeOf_28 : decode cX5_pipeOf 28 = .ok (.ireturn, 1) := by decide +kernel
set_option maxHeartbeats 4000000 in
set_option maxRecDepth 100000 in
theorem c_X5_pipeOf (l : Launch) (D : va_G) (cI cC cO : ClassId) (a : Nat → Nat) (M : Mm) (x1 x2 : Int32) (res : Int32) (sz : Nat) (h : F_X5_pipeOf M x1 x2 = some res) : Met l yX5_pipeOf (Cond.code yX5_pipeOf cX5_pipeOf 3 (Option.some Jvm.ClassFile.FieldType.int) :: lw_g) ({ frames := 2, cells := 0, slots := 0, locals := 43 } : Room) (va_Pc [.ref (a 0), .int x1, .int x2] (pS D cI cC cO sz (wX5 a cI cC cO M))) (QI D cI cC cO (va_A (wX5 a cI cC cO M) sz) (wX5 a cI cC cO M) res) 0 0 (va_A (wX5 a cI cC cO M) sz) := by
  refine Met.ofW (cc := cX5_pipeOf) (maxL := 3) (ret := (Option.some Jvm.ClassFile.FieldType.int)) (by decide) rfl ?_
  intro p e s m args below meth c s₁ B hml hv
  obtain ⟨rfl, rfl, hP, hK, hD0, hN⟩ := hv
  have hx := B.exec
  have hb := B.bytes
  have hr := B.returns
  have ht : ∀ w ∈ lw_g, w.before ([.ref (a 0), .int x1, .int x2] : List Value).toArray s = true := fun w hw => atoms_spec (ws := Cond.code yX5_pipeOf cX5_pipeOf 3 (Option.some Jvm.ClassFile.FieldType.int) :: lw_g) B.pre w (List.mem_cons_of_mem _ hw)
  have hown : s.vm.findClass RX5 = some m.cls := findClass_of_methodNamed B.named
  have hlocks := B.notSynchronized
  have hD := hD0.self (sz := s.heap.size)
  generalize hAe : va_A (wX5 a cI cC cO M) s.heap.size = A at hD ⊢
  have hA : ∀ q : Nat, s.heap.size ≤ q → A q := fun q hq => by rw [← hAe]; exact Or.inr hq
  have hS : va_S A s.heap s.heap [] := va_S.rf
  have hl := lv_entry ([.ref (a 0), .int x1, .int x2]) (n := 3) (Nat.le_of_ble_eq_true rfl)
  rw [lg_entry_eq]
  generalize (lg_sl ([.ref (a 0), .int x1, .int x2]) ++ List.replicate (3 - (lg_sl ([.ref (a 0), .int x1, .int x2])).length) Slot.unset).toArray = ls at hl ⊢
  have hl : lv_has ls 3 [(0, .ref (a 0)), (1, .int x1), (2, .int x2)] := hl
  unfold F_X5_pipeOf at h
  refine lv_aload_n hx hb dX5_pipeOf_0 rfl (lv_at hl 0 rfl) ?_
  refine lv_iload_n hx hb dX5_pipeOf_1 rfl (lv_at hl 1 rfl) ?_
  obtain ⟨u1, e2, h⟩ := b1_ok h
  refine cl_Vi (ws' := (wX5 a cI cC cO M)) ⟨hx, hb, hml, hown, ht⟩ (c_X5_isPipe l D cI cC cO a M x1 _ _ e2) (cwv 1 ht wd_646 wd_6 wd_643 wd_645 ws_25 (by decide +kernel) rfl rfl ⟨Nat.le_of_ble_eq_true rfl, Nat.le_of_ble_eq_true rfl⟩) 5 0 rfl rfl rfl hK hP hD hS hA hN [0, 1, 2, 3, 4, 5, 6, 7, 8, 9, 10, 11, 12] [] [0, 1, 2, 3, 4, 5, 6, 7, 8, 9, 10, 11, 12] (by decide) rfl rfl (by decide) (by decide) rfl (by decide) rfl hl.1 rfl (Nat.le_of_ble_eq_true rfl) dX5_pipeOf_2 ⟨Nat.le_of_ble_eq_true rfl, Nat.le_of_ble_eq_true rfl⟩ (fun H locs hP hD hS => ?_)
  refine lv_if_eq (tgt := 26) hx hb dX5_pipeOf_5 (by decide) (fun c3 => ?_) (fun c3 => ?_)
  · replace h := fp c3 h
    refine lv_ldc hx hb hown (ht _ wd_613) dX5_pipeOf_26 ?_
    cases h
    exact rt_i hx hb hr hlocks hS hP hK hD dX5_pipeOf_28
  · replace h := fn c3 h
    refine lv_iload_n hx hb dX5_pipeOf_8 rfl (lv_at hl 2 rfl) ?_
    refine lv_iconst (v := (0 : Int32)) hx hb dX5_pipeOf_9 (by decide) ?_
    refine lv_iconst (v := (5 : Int32)) hx hb dX5_pipeOf_10 (by decide) ?_
    obtain ⟨u4, e5, h⟩ := b1_ok h
    refine cl_Si (ws' := (wX5 a cI cC cO M)) ⟨hx, hb, hml, hown, ht⟩ (c_X5_in l D cI cC cO x2 (0 : Int32) (5 : Int32) _ _ e5) (cwst 3 ht wd_612 wd_6 wd_610 wd_611 (by decide +kernel) rfl rfl ⟨Nat.le_of_ble_eq_true rfl, Nat.le_of_ble_eq_true rfl⟩) hK hP hD hS hA hN [] [0, 1, 2, 3, 4, 5, 6, 7, 8, 9, 10, 11, 12] [0, 1, 2, 3, 4, 5, 6, 7, 8, 9, 10, 11, 12] (by decide) rfl rfl (by decide) (by decide) rfl (by decide) rfl hl.1 rfl (Nat.le_of_ble_eq_true rfl) dX5_pipeOf_11 ⟨Nat.le_of_ble_eq_true rfl, Nat.le_of_ble_eq_true rfl⟩ (fun H locs hP hD hS => ?_)
    refine lv_if_eq (tgt := 26) hx hb dX5_pipeOf_14 (by decide) (fun c6 => ?_) (fun c6 => ?_)
    · replace h := fp c6 h
      refine lv_ldc hx hb hown (ht _ wd_613) dX5_pipeOf_26 ?_
      cases h
      exact rt_i hx hb hr hlocks hS hP hK hD dX5_pipeOf_28
    · replace h := fn c6 h
      refine lv_aload_n hx hb dX5_pipeOf_17 rfl (lv_at hl 0 rfl) ?_
      refine lv_iload_n hx hb dX5_pipeOf_18 rfl (lv_at hl 1 rfl) ?_
      refine lv_iload_n hx hb dX5_pipeOf_19 rfl (lv_at hl 2 rfl) ?_
      obtain ⟨u7, e8, h⟩ := b1_ok h
      refine cl_Vi (ws' := (wX5 a cI cC cO M)) ⟨hx, hb, hml, hown, ht⟩ (c_X5_pi l D cI cC cO a M x1 x2 _ _ e8) (cwv 2 ht wd_678 wd_6 wd_675 wd_677 ws_28 (by decide +kernel) rfl rfl ⟨Nat.le_of_ble_eq_true rfl, Nat.le_of_ble_eq_true rfl⟩) 5 0 rfl rfl rfl hK hP hD hS hA hN [0, 1, 2, 3, 4, 5, 6, 7, 8, 9, 10, 11, 12] [] [0, 1, 2, 3, 4, 5, 6, 7, 8, 9, 10, 11, 12] (by decide) rfl rfl (by decide) (by decide) rfl (by decide) rfl hl.1 rfl (Nat.le_of_ble_eq_true rfl) dX5_pipeOf_20 ⟨Nat.le_of_ble_eq_true rfl, Nat.le_of_ble_eq_true rfl⟩ (fun H locs hP hD hS => ?_)
      refine lv_goto (tgt := 28) hx hb dX5_pipeOf_23 (by decide) ?_
      cases h
      exact rt_i hx hb hr hlocks hS hP hK hD dX5_pipeOf_28
theorem dX5_pipesOf_0 : decode cX5_pipesOf 0 = .ok (.iconst 0, 1) := by decide +kernel
theorem dX5_pipesOf_1 : decode cX5_pipesOf 1 = .ok (.istore_n 3, 1) := by decide +kernel
theorem dX5_pipesOf_2 : decode cX5_pipesOf 2 = .ok (.iconst 0, 1) := by decide +kernel
theorem dX5_pipesOf_3 : decode cX5_pipesOf 3 = .ok (.istore 4, 2) := by decide +kernel
theorem dX5_pipesOf_5 : decode cX5_pipesOf 5 = .ok (.iload 4, 2) := by decide +kernel
theorem dX5_pipesOf_7 : decode cX5_pipesOf 7 = .ok (.aload_n 0, 1) := by decide +kernel
theorem dX5_pipesOf_8 : decode cX5_pipesOf 8 = .ok (.getfield 7, 3) := by decide +kernel
theorem dX5_pipesOf_11 : decode cX5_pipesOf 11 = .ok (.iconst 1, 1) := by decide +kernel
theorem dX5_pipesOf_12 : decode cX5_pipesOf 12 = .ok (.iaload, 1) := by decide +kernel
theorem dX5_pipesOf_13 : decode cX5_pipesOf 13 = .ok (.if_icmp .ge 31, 3) := by decide +kernel
theorem dX5_pipesOf_16 : decode cX5_pipesOf 16 = .ok (.iload_n 3, 1) := by decide +kernel
theorem dX5_pipesOf_17 : decode cX5_pipesOf 17 = .ok (.aload_n 0, 1) := by decide +kernel
theorem dX5_pipesOf_18 : decode cX5_pipesOf 18 = .ok (.iload 4, 2) := by decide +kernel
theorem dX5_pipesOf_20 : decode cX5_pipesOf 20 = .ok (.iload_n 2, 1) := by decide +kernel
theorem dX5_pipesOf_21 : decode cX5_pipesOf 21 = .ok (.invokevirtual 101, 3) := by decide +kernel
theorem dX5_pipesOf_24 : decode cX5_pipesOf 24 = .ok (.iload_n 1, 1) := by decide +kernel
theorem dX5_pipesOf_25 : decode cX5_pipesOf 25 = .ok (.if_icmp .ne 10, 3) := by decide +kernel
theorem dX5_pipesOf_28 : decode cX5_pipesOf 28 = .ok (.iconst 1, 1) := by decide +kernel
theorem dX5_pipesOf_29 : decode cX5_pipesOf 29 = .ok (.iload 4, 2) := by decide +kernel
theorem dX5_pipesOf_31 : decode cX5_pipesOf 31 = .ok (.ishl, 1) := by decide +kernel
theorem dX5_pipesOf_32 : decode cX5_pipesOf 32 = .ok (.goto 4, 3) := by decide +kernel
theorem dX5_pipesOf_35 : decode cX5_pipesOf 35 = .ok (.iconst 0, 1) := by decide +kernel
theorem dX5_pipesOf_36 : decode cX5_pipesOf 36 = .ok (.ior, 1) := by decide +kernel
theorem dX5_pipesOf_37 : decode cX5_pipesOf 37 = .ok (.istore_n 3, 1) := by decide +kernel
theorem dX5_pipesOf_38 : decode cX5_pipesOf 38 = .ok (.iinc 4 1, 3) := by decide +kernel
theorem dX5_pipesOf_41 : decode cX5_pipesOf 41 = .ok (.goto (-36), 3) := by decide +kernel
theorem dX5_pipesOf_44 : decode cX5_pipesOf 44 = .ok (.iload_n 3, 1) := by decide +kernel
theorem dX5_pipesOf_45 : decode cX5_pipesOf 45 = .ok (.ireturn, 1) := by decide +kernel
set_option maxHeartbeats 4000000 in
set_option maxRecDepth 100000 in
theorem c_X5_pipesOf (l : Launch) (D : va_G) (cI cC cO : ClassId) (a : Nat → Nat) (M : Mm) (x1 x2 : Int32) (res : Int32) (sz : Nat) (h : F_X5_pipesOf M x1 x2 = some res) : Met l yX5_pipesOf (Cond.code yX5_pipesOf cX5_pipesOf 5 (Option.some Jvm.ClassFile.FieldType.int) :: lw_g) ({ frames := 1, cells := 0, slots := 0, locals := 22 } : Room) (va_Pc [.ref (a 0), .int x1, .int x2] (pS D cI cC cO sz (wX5 a cI cC cO M))) (QI D cI cC cO (va_A (wX5 a cI cC cO M) sz) (wX5 a cI cC cO M) res) 0 0 (va_A (wX5 a cI cC cO M) sz) := by
  refine Met.ofW (cc := cX5_pipesOf) (maxL := 5) (ret := (Option.some Jvm.ClassFile.FieldType.int)) (by decide) rfl ?_
  intro p e s m args below meth c s₁ B hml hv
  obtain ⟨rfl, rfl, hP, hK, hD0, hN⟩ := hv
  have hx := B.exec
  have hb := B.bytes
  have hr := B.returns
  have ht : ∀ w ∈ lw_g, w.before ([.ref (a 0), .int x1, .int x2] : List Value).toArray s = true := fun w hw => atoms_spec (ws := Cond.code yX5_pipesOf cX5_pipesOf 5 (Option.some Jvm.ClassFile.FieldType.int) :: lw_g) B.pre w (List.mem_cons_of_mem _ hw)
  have hown : s.vm.findClass RX5 = some m.cls := findClass_of_methodNamed B.named
  have hlocks := B.notSynchronized
  have hD := hD0.self (sz := s.heap.size)
  generalize hAe : va_A (wX5 a cI cC cO M) s.heap.size = A at hD ⊢
  have hA : ∀ q : Nat, s.heap.size ≤ q → A q := fun q hq => by rw [← hAe]; exact Or.inr hq
  have hS : va_S A s.heap s.heap [] := va_S.rf
  have hl := lv_entry ([.ref (a 0), .int x1, .int x2]) (n := 5) (Nat.le_of_ble_eq_true rfl)
  rw [lg_entry_eq]
  generalize (lg_sl ([.ref (a 0), .int x1, .int x2]) ++ List.replicate (5 - (lg_sl ([.ref (a 0), .int x1, .int x2])).length) Slot.unset).toArray = ls at hl ⊢
  have hl : lv_has ls 5 [(0, .ref (a 0)), (1, .int x1), (2, .int x2)] := hl
  have w5 : ∀ (n5 : Nat) (y1 y2 y3 y4 : Int32) (H : Heap) (locs : List Loc) (ls : Array Slot), F_X5_pipesOf_5 n5 M y1 y2 y3 y4 = some res → va_P D classes (wX5 a cI cC cO M) H → va_D A (wX5 a cI cC cO M) → va_S A s.heap H locs → lv_has ls 5 [(0, .ref (a 0)), (1, .int y1), (2, .int y2), (3, .int y3), (4, .int y4)] → W p l e ({ frames := 1, cells := 0, slots := 0, locals := 22 } : Room) s m ([.ref (a 0), .int x1, .int x2] : List Value).toArray below meth c H locs 0 0 (MQ below (QI D cI cC cO A (wX5 a cI cC cO M) res) ([.ref (a 0), .int x1, .int x2] : List Value).toArray s 0 0 A) (F0 m 5 ls []) := by
    intro n5
    induction n5 with
    | zero => intro y1 y2 y3 y4 H locs ls h hP hD hS hl; exact absurd (show (none : Option (Int32)) = some res from h) (by simp)
    | succ n5 ih5 =>
      intro y1 y2 y3 y4 H locs ls h hP hD hS hl
      have h : F_X5_pipesOfB_5 (F_X5_pipesOf_5 n5) M y1 y2 y3 y4 = some res := h
      unfold F_X5_pipesOfB_5 at h
      refine lv_iload hx hb dX5_pipesOf_5 (lv_at hl 4 rfl) ?_
      refine lv_aload_n hx hb dX5_pipesOf_7 rfl (lv_at hl 0 rfl) ?_
      refine va_get (D := D) (ci := 5) (v := .ref (a 1)) (C := RX5) (T := TX5) (N := 23) hx hb ht i_X5 hown hK hP 0 rfl rfl 0 (by decide) (ht _ wd_536) (fun _ h9 => h9) rfl dX5_pipesOf_8 ?_
      refine lv_iconst (v := (1 : Int32)) hx hb dX5_pipesOf_11 (by decide) ?_
      obtain ⟨i1, h⟩ := ck_ok h
      refine va_iald hx hb hK hP 1 0 rfl rfl i1 dX5_pipesOf_12 ?_
      refine lv_icmp_ge (tgt := 44) hx hb dX5_pipesOf_13 (by decide) (fun c2 => ?_) (fun c2 => ?_)
      · replace h := fp c2 h
        refine lv_iload_n hx hb dX5_pipesOf_44 rfl (lv_at hl 3 rfl) ?_
        cases h
        exact rt_i hx hb hr hlocks hS hP hK hD dX5_pipesOf_45
      · replace h := fn c2 h
        refine lv_iload_n hx hb dX5_pipesOf_16 rfl (lv_at hl 3 rfl) ?_
        refine lv_aload_n hx hb dX5_pipesOf_17 rfl (lv_at hl 0 rfl) ?_
        refine lv_iload hx hb dX5_pipesOf_18 (lv_at hl 4 rfl) ?_
        refine lv_iload_n hx hb dX5_pipesOf_20 rfl (lv_at hl 2 rfl) ?_
        obtain ⟨u3, e4, h⟩ := b1_ok h
        refine cl_Vi (ws' := (wX5 a cI cC cO M)) ⟨hx, hb, hml, hown, ht⟩ (c_X5_pi l D cI cC cO a M y4 y2 _ _ e4) (cwv 2 ht wd_678 wd_6 wd_675 wd_677 ws_28 (by decide +kernel) rfl rfl ⟨Nat.le_of_ble_eq_true rfl, Nat.le_of_ble_eq_true rfl⟩) 5 0 rfl rfl rfl hK hP hD hS hA hN [0, 1, 2, 3, 4, 5, 6, 7, 8, 9, 10, 11, 12] [] [0, 1, 2, 3, 4, 5, 6, 7, 8, 9, 10, 11, 12] (by decide) rfl rfl (by decide) (by decide) rfl (by decide) rfl hl.1 rfl (Nat.le_of_ble_eq_true rfl) dX5_pipesOf_21 ⟨Nat.le_of_ble_eq_true rfl, Nat.le_of_ble_eq_true rfl⟩ (fun H locs hP hD hS => ?_)
        refine lv_iload_n hx hb dX5_pipesOf_24 rfl (lv_at hl 1 rfl) ?_
        refine lv_icmp_ne (tgt := 35) hx hb dX5_pipesOf_25 (by decide) (fun c5 => ?_) (fun c5 => ?_)
        · replace h := fn c5 h
          refine lv_iconst (v := (0 : Int32)) hx hb dX5_pipesOf_35 (by decide) ?_
          refine lv_ior hx hb dX5_pipesOf_36 ?_
          refine lv_istore_n (lv' := [(3, .int (y3 ||| (0 : Int32))), (0, .ref (a 0)), (1, .int y1), (2, .int y2), (4, .int y4)]) hx hb dX5_pipesOf_37 rfl hl (by decide) rfl (fun ls hl => ?_)
          refine lv_iinc (v := (y4 + 1)) (lv' := [(4, .int (y4 + 1)), (3, .int (y3 ||| (0 : Int32))), (0, .ref (a 0)), (1, .int y1), (2, .int y2)]) hx hb dX5_pipesOf_38 hl (k := 4) rfl rfl (by decide) rfl (fun ls hl => ?_)
          refine lv_goto (tgt := 5) hx hb dX5_pipesOf_41 (by decide) ?_
          exact ih5 y1 y2 (y3 ||| (0 : Int32)) (y4 + 1) _ _ ls h hP hD hS (lv_sub hl [2, 3, 4, 1, 0] rfl)
        · replace h := fp c5 h
          refine lv_iconst (v := (1 : Int32)) hx hb dX5_pipesOf_28 (by decide) ?_
          refine lv_iload hx hb dX5_pipesOf_29 (lv_at hl 4 rfl) ?_
          refine lv_ishl hx hb dX5_pipesOf_31 ?_
          refine lv_goto (tgt := 36) hx hb dX5_pipesOf_32 (by decide) ?_
          refine lv_ior hx hb dX5_pipesOf_36 ?_
          refine lv_istore_n (lv' := [(3, .int (y3 ||| ((1 : Int32) <<< (y4 &&& 31)))), (0, .ref (a 0)), (1, .int y1), (2, .int y2), (4, .int y4)]) hx hb dX5_pipesOf_37 rfl hl (by decide) rfl (fun ls hl => ?_)
          refine lv_iinc (v := (y4 + 1)) (lv' := [(4, .int (y4 + 1)), (3, .int (y3 ||| ((1 : Int32) <<< (y4 &&& 31)))), (0, .ref (a 0)), (1, .int y1), (2, .int y2)]) hx hb dX5_pipesOf_38 hl (k := 4) rfl rfl (by decide) rfl (fun ls hl => ?_)
          refine lv_goto (tgt := 5) hx hb dX5_pipesOf_41 (by decide) ?_
          exact ih5 y1 y2 (y3 ||| ((1 : Int32) <<< (y4 &&& 31))) (y4 + 1) _ _ ls h hP hD hS (lv_sub hl [2, 3, 4, 1, 0] rfl)
  unfold F_X5_pipesOf at h
  refine lv_iconst (v := (0 : Int32)) hx hb dX5_pipesOf_0 (by decide) ?_
  refine lv_istore_n (lv' := [(3, .int (0 : Int32)), (0, .ref (a 0)), (1, .int x1), (2, .int x2)]) hx hb dX5_pipesOf_1 rfl hl (by decide) rfl (fun ls hl => ?_)
  refine lv_iconst (v := (0 : Int32)) hx hb dX5_pipesOf_2 (by decide) ?_
  refine lv_istore (lv' := [(4, .int (0 : Int32)), (3, .int (0 : Int32)), (0, .ref (a 0)), (1, .int x1), (2, .int x2)]) hx hb dX5_pipesOf_3 hl (by decide) rfl (fun ls hl => ?_)
  exact w5 FU x1 x2 (0 : Int32) (0 : Int32) _ _ ls h hP hD hS (lv_sub hl [2, 3, 4, 1, 0] rfl)
theorem dX5_alone_0 : decode cX5_alone 0 = .ok (.iconst 0, 1) := by decide +kernel
theorem dX5_alone_1 : decode cX5_alone 1 = .ok (.istore_n 2, 1) := by decide +kernel
theorem dX5_alone_2 : decode cX5_alone 2 = .ok (.iload_n 2, 1) := by decide +kernel
theorem dX5_alone_3 : decode cX5_alone 3 = .ok (.bipush 96, 2) := by decide +kernel
theorem dX5_alone_5 : decode cX5_alone 5 = .ok (.if_icmp .ge 16, 3) := by decide +kernel
theorem dX5_alone_8 : decode cX5_alone 8 = .ok (.aload_n 0, 1) := by decide +kernel
theorem dX5_alone_9 : decode cX5_alone 9 = .ok (.getfield 38, 3) := by decide +kernel
theorem dX5_alone_12 : decode cX5_alone 12 = .ok (.iload_n 2, 1) := by decide +kernel
theorem dX5_alone_13 : decode cX5_alone 13 = .ok (.iconst (-1), 1) := by decide +kernel
theorem dX5_alone_14 : decode cX5_alone 14 = .ok (.iastore, 1) := by decide +kernel
theorem dX5_alone_15 : decode cX5_alone 15 = .ok (.iinc 2 1, 3) := by decide +kernel
theorem dX5_alone_18 : decode cX5_alone 18 = .ok (.goto (-16), 3) := by decide +kernel
theorem dX5_alone_21 : decode cX5_alone 21 = .ok (.aload_n 0, 1) := by decide +kernel
theorem dX5_alone_22 : decode cX5_alone 22 = .ok (.getfield 38, 3) := by decide +kernel
theorem dX5_alone_25 : decode cX5_alone 25 = .ok (.bipush 16, 2) := by decide +kernel
theorem dX5_alone_27 : decode cX5_alone 27 = .ok (.iload_n 1, 1) := by decide +kernel
theorem dX5_alone_28 : decode cX5_alone 28 = .ok (.imul, 1) := by decide +kernel
theorem dX5_alone_29 : decode cX5_alone 29 = .ok (.iconst 0, 1) := by decide +kernel
theorem dX5_alone_30 : decode cX5_alone 30 = .ok (.iastore, 1) := by decide +kernel
theorem dX5_alone_31 : decode cX5_alone 31 = .ok (.iconst 0, 1) := by decide +kernel
theorem dX5_alone_32 : decode cX5_alone 32 = .ok (.istore_n 2, 1) := by decide +kernel
theorem dX5_alone_33 : decode cX5_alone 33 = .ok (.iload_n 2, 1) := by decide +kernel
theorem dX5_alone_34 : decode cX5_alone 34 = .ok (.bipush 16, 2) := by decide +kernel
theorem dX5_alone_36 : decode cX5_alone 36 = .ok (.if_icmp .ge 196, 3) := by decide +kernel
theorem dX5_alone_39 : decode cX5_alone 39 = .ok (.aload_n 0, 1) := by decide +kernel
theorem dX5_alone_40 : decode cX5_alone 40 = .ok (.getfield 38, 3) := by decide +kernel
theorem dX5_alone_43 : decode cX5_alone 43 = .ok (.iload_n 2, 1) := by decide +kernel
theorem dX5_alone_44 : decode cX5_alone 44 = .ok (.iaload, 1) := by decide +kernel
theorem dX5_alone_45 : decode cX5_alone 45 = .ok (.ifCond .lt 5, 3) := by decide +kernel
theorem dX5_alone_48 : decode cX5_alone 48 = .ok (.iload_n 2, 1) := by decide +kernel
theorem dX5_alone_49 : decode cX5_alone 49 = .ok (.ireturn, 1) := by decide +kernel
theorem dX5_alone_50 : decode cX5_alone 50 = .ok (.iconst 1, 1) := by decide +kernel
theorem dX5_alone_51 : decode cX5_alone 51 = .ok (.istore_n 3, 1) := by decide +kernel
theorem dX5_alone_52 : decode cX5_alone 52 = .ok (.iload_n 3, 1) := by decide +kernel
theorem dX5_alone_53 : decode cX5_alone 53 = .ok (.aload_n 0, 1) := by decide +kernel
theorem dX5_alone_54 : decode cX5_alone 54 = .ok (.getfield 7, 3) := by decide +kernel
theorem dX5_alone_57 : decode cX5_alone 57 = .ok (.iconst 0, 1) := by decide +kernel
theorem dX5_alone_58 : decode cX5_alone 58 = .ok (.iaload, 1) := by decide +kernel
theorem dX5_alone_59 : decode cX5_alone 59 = .ok (.if_icmp .ge 167, 3) := by decide +kernel
theorem dX5_alone_62 : decode cX5_alone 62 = .ok (.aload_n 0, 1) := by decide +kernel
theorem dX5_alone_63 : decode cX5_alone 63 = .ok (.getfield 38, 3) := by decide +kernel
theorem dX5_alone_66 : decode cX5_alone 66 = .ok (.bipush 16, 2) := by decide +kernel
theorem dX5_alone_68 : decode cX5_alone 68 = .ok (.iload_n 3, 1) := by decide +kernel
theorem dX5_alone_69 : decode cX5_alone 69 = .ok (.imul, 1) := by decide +kernel
theorem dX5_alone_70 : decode cX5_alone 70 = .ok (.iload_n 2, 1) := by decide +kernel
theorem dX5_alone_71 : decode cX5_alone 71 = .ok (.iadd, 1) := by decide +kernel
theorem dX5_alone_72 : decode cX5_alone 72 = .ok (.iaload, 1) := by decide +kernel
theorem dX5_alone_73 : decode cX5_alone 73 = .ok (.ifCond .lt 7, 3) := by decide +kernel
theorem dX5_alone_76 : decode cX5_alone 76 = .ok (.iconst 1, 1) := by decide +kernel
theorem dX5_alone_77 : decode cX5_alone 77 = .ok (.goto 4, 3) := by decide +kernel
theorem dX5_alone_80 : decode cX5_alone 80 = .ok (.iconst 0, 1) := by decide +kernel
theorem dX5_alone_81 : decode cX5_alone 81 = .ok (.istore 4, 2) := by decide +kernel
theorem dX5_alone_83 : decode cX5_alone 83 = .ok (.iload 4, 2) := by decide +kernel
theorem dX5_alone_85 : decode cX5_alone 85 = .ok (.ifCond .eq 38, 3) := by decide +kernel
theorem dX5_alone_88 : decode cX5_alone 88 = .ok (.iload_n 2, 1) := by decide +kernel
theorem dX5_alone_89 : decode cX5_alone 89 = .ok (.bipush 15, 2) := by decide +kernel
theorem dX5_alone_91 : decode cX5_alone 91 = .ok (.if_icmp .ge 32, 3) := by decide +kernel
theorem dX5_alone_94 : decode cX5_alone 94 = .ok (.aload_n 0, 1) := by decide +kernel
theorem dX5_alone_95 : decode cX5_alone 95 = .ok (.getfield 7, 3) := by decide +kernel
theorem dX5_alone_98 : decode cX5_alone 98 = .ok (.iconst 2, 1) := by decide +kernel
theorem dX5_alone_99 : decode cX5_alone 99 = .ok (.iconst 2, 1) := by decide +kernel
theorem dX5_alone_100 : decode cX5_alone 100 = .ok (.iload_n 3, 1) := by decide +kernel
theorem dX5_alone_101 : decode cX5_alone 101 = .ok (.imul, 1) := by decide +kernel
theorem dX5_alone_102 : decode cX5_alone 102 = .ok (.iadd, 1) := by decide +kernel
theorem dX5_alone_103 : decode cX5_alone 103 = .ok (.iconst 1, 1) := by decide +kernel
theorem dX5_alone_104 : decode cX5_alone 104 = .ok (.iadd, 1) := by decide +kernel
theorem dX5_alone_105 : decode cX5_alone 105 = .ok (.iaload, 1) := by decide +kernel
theorem dX5_alone_106 : decode cX5_alone 106 = .ok (.ifCond .le 17, 3) := by decide +kernel
theorem dX5_alone_109 : decode cX5_alone 109 = .ok (.aload_n 0, 1) := by decide +kernel
theorem dX5_alone_110 : decode cX5_alone 110 = .ok (.getfield 38, 3) := by decide +kernel
theorem dX5_alone_113 : decode cX5_alone 113 = .ok (.bipush 16, 2) := by decide +kernel
theorem dX5_alone_115 : decode cX5_alone 115 = .ok (.iload_n 3, 1) := by decide +kernel
theorem dX5_alone_116 : decode cX5_alone 116 = .ok (.imul, 1) := by decide +kernel
theorem dX5_alone_117 : decode cX5_alone 117 = .ok (.iload_n 2, 1) := by decide +kernel
theorem dX5_alone_118 : decode cX5_alone 118 = .ok (.iadd, 1) := by decide +kernel
theorem dX5_alone_119 : decode cX5_alone 119 = .ok (.iconst 1, 1) := by decide +kernel
theorem dX5_alone_120 : decode cX5_alone 120 = .ok (.iadd, 1) := by decide +kernel
theorem dX5_alone_121 : decode cX5_alone 121 = .ok (.iconst 0, 1) := by decide +kernel
theorem dX5_alone_122 : decode cX5_alone 122 = .ok (.iastore, 1) := by decide +kernel
theorem dX5_alone_123 : decode cX5_alone 123 = .ok (.iconst 0, 1) := by decide +kernel
theorem dX5_alone_124 : decode cX5_alone 124 = .ok (.istore 5, 2) := by decide +kernel
theorem dX5_alone_126 : decode cX5_alone 126 = .ok (.iload 5, 2) := by decide +kernel
theorem dX5_alone_128 : decode cX5_alone 128 = .ok (.aload_n 0, 1) := by decide +kernel
theorem dX5_alone_129 : decode cX5_alone 129 = .ok (.getfield 7, 3) := by decide +kernel
theorem dX5_alone_132 : decode cX5_alone 132 = .ok (.iconst 1, 1) := by decide +kernel
theorem dX5_alone_133 : decode cX5_alone 133 = .ok (.iaload, 1) := by decide +kernel
theorem dX5_alone_134 : decode cX5_alone 134 = .ok (.if_icmp .ge 86, 3) := by decide +kernel
theorem dX5_alone_137 : decode cX5_alone 137 = .ok (.iload 4, 2) := by decide +kernel
theorem dX5_alone_139 : decode cX5_alone 139 = .ok (.ifCond .eq 81, 3) := by decide +kernel
theorem dX5_alone_142 : decode cX5_alone 142 = .ok (.aload_n 0, 1) := by decide +kernel
theorem dX5_alone_143 : decode cX5_alone 143 = .ok (.iload 5, 2) := by decide +kernel
theorem dX5_alone_145 : decode cX5_alone 145 = .ok (.iconst 0, 1) := by decide +kernel
theorem dX5_alone_146 : decode cX5_alone 146 = .ok (.invokevirtual 101, 3) := by decide +kernel
theorem dX5_alone_149 : decode cX5_alone 149 = .ok (.iload_n 3, 1) := by decide +kernel
theorem dX5_alone_150 : decode cX5_alone 150 = .ok (.if_icmp .ne 64, 3) := by decide +kernel
theorem dX5_alone_153 : decode cX5_alone 153 = .ok (.iload_n 2, 1) := by decide +kernel
theorem dX5_alone_154 : decode cX5_alone 154 = .ok (.aload_n 0, 1) := by decide +kernel
theorem dX5_alone_155 : decode cX5_alone 155 = .ok (.iload 5, 2) := by decide +kernel
theorem dX5_alone_157 : decode cX5_alone 157 = .ok (.iconst 4, 1) := by decide +kernel
theorem dX5_alone_158 : decode cX5_alone 158 = .ok (.invokevirtual 101, 3) := by decide +kernel
theorem dX5_alone_161 : decode cX5_alone 161 = .ok (.aload_n 0, 1) := by decide +kernel
theorem dX5_alone_162 : decode cX5_alone 162 = .ok (.iload 5, 2) := by decide +kernel
theorem dX5_alone_164 : decode cX5_alone 164 = .ok (.iconst 5, 1) := by decide +kernel
theorem dX5_alone_165 : decode cX5_alone 165 = .ok (.invokevirtual 101, 3) := by decide +kernel
theorem dX5_alone_168 : decode cX5_alone 168 = .ok (.invokestatic 63, 3) := by decide +kernel
theorem dX5_alone_171 : decode cX5_alone 171 = .ok (.ifCond .eq 43, 3) := by decide +kernel
theorem dX5_alone_174 : decode cX5_alone 174 = .ok (.iload_n 2, 1) := by decide +kernel
theorem dX5_alone_175 : decode cX5_alone 175 = .ok (.aload_n 0, 1) := by decide +kernel
theorem dX5_alone_176 : decode cX5_alone 176 = .ok (.iload 5, 2) := by decide +kernel
theorem dX5_alone_178 : decode cX5_alone 178 = .ok (.iconst 2, 1) := by decide +kernel
theorem dX5_alone_179 : decode cX5_alone 179 = .ok (.invokevirtual 101, 3) := by decide +kernel
theorem dX5_alone_182 : decode cX5_alone 182 = .ok (.iadd, 1) := by decide +kernel
theorem dX5_alone_183 : decode cX5_alone 183 = .ok (.bipush 16, 2) := by decide +kernel
theorem dX5_alone_185 : decode cX5_alone 185 = .ok (.if_icmp .ge 29, 3) := by decide +kernel
theorem dX5_alone_188 : decode cX5_alone 188 = .ok (.aload_n 0, 1) := by decide +kernel
theorem dX5_alone_189 : decode cX5_alone 189 = .ok (.getfield 38, 3) := by decide +kernel
theorem dX5_alone_192 : decode cX5_alone 192 = .ok (.bipush 16, 2) := by decide +kernel
theorem dX5_alone_194 : decode cX5_alone 194 = .ok (.aload_n 0, 1) := by decide +kernel
theorem dX5_alone_195 : decode cX5_alone 195 = .ok (.iload 5, 2) := by decide +kernel
theorem dX5_alone_197 : decode cX5_alone 197 = .ok (.iconst 1, 1) := by decide +kernel
theorem dX5_alone_198 : decode cX5_alone 198 = .ok (.invokevirtual 101, 3) := by decide +kernel
theorem dX5_alone_201 : decode cX5_alone 201 = .ok (.imul, 1) := by decide +kernel
theorem dX5_alone_202 : decode cX5_alone 202 = .ok (.iload_n 2, 1) := by decide +kernel
theorem dX5_alone_203 : decode cX5_alone 203 = .ok (.iadd, 1) := by decide +kernel
theorem dX5_alone_204 : decode cX5_alone 204 = .ok (.aload_n 0, 1) := by decide +kernel
theorem dX5_alone_205 : decode cX5_alone 205 = .ok (.iload 5, 2) := by decide +kernel
theorem dX5_alone_207 : decode cX5_alone 207 = .ok (.iconst 2, 1) := by decide +kernel
theorem dX5_alone_208 : decode cX5_alone 208 = .ok (.invokevirtual 101, 3) := by decide +kernel
theorem dX5_alone_211 : decode cX5_alone 211 = .ok (.iadd, 1) := by decide +kernel
theorem dX5_alone_212 : decode cX5_alone 212 = .ok (.iconst 0, 1) := by decide +kernel
theorem dX5_alone_213 : decode cX5_alone 213 = .ok (.iastore, 1) := by decide +kernel
theorem dX5_alone_214 : decode cX5_alone 214 = .ok (.iinc 5 1, 3) := by decide +kernel
theorem dX5_alone_217 : decode cX5_alone 217 = .ok (.goto (-91), 3) := by decide +kernel
theorem dX5_alone_220 : decode cX5_alone 220 = .ok (.iinc 3 1, 3) := by decide +kernel
theorem dX5_alone_223 : decode cX5_alone 223 = .ok (.goto (-171), 3) := by decide +kernel
theorem dX5_alone_226 : decode cX5_alone 226 = .ok (.iinc 2 1, 3) := by decide +kernel
theorem dX5_alone_229 : decode cX5_alone 229 = .ok (.goto (-196), 3) := by decide +kernel
theorem dX5_alone_232 : decode cX5_alone 232 = .ok (.ldc 104, 2) := by decide +kernel
theorem dX5_alone_234 : decode cX5_alone 234 = .ok (.ireturn, 1) := by decide +kernel
set_option maxHeartbeats 4000000 in
set_option maxRecDepth 100000 in
theorem c_X5_alone (l : Launch) (D : va_G) (cI cC cO : ClassId) (a : Nat → Nat) (M : Mm) (x1 : Int32) (res : Int32 × Mm) (sz : Nat) (h : F_X5_alone M x1 = some res) : Met l yX5_alone (Cond.code yX5_alone cX5_alone 6 (Option.some Jvm.ClassFile.FieldType.int) :: lw_g) ({ frames := 1, cells := 0, slots := 0, locals := 22 } : Room) (va_Pc [.ref (a 0), .int x1] (pS D cI cC cO sz (wX5 a cI cC cO M))) (QI D cI cC cO (va_A (wX5 a cI cC cO M) sz) (wX5 a cI cC cO res.2) res.1) 0 0 (va_A (wX5 a cI cC cO M) sz) := by
  refine Met.ofW (cc := cX5_alone) (maxL := 6) (ret := (Option.some Jvm.ClassFile.FieldType.int)) (by decide) rfl ?_
  intro p e s m args below meth c s₁ B hml hv
  obtain ⟨rfl, rfl, hP, hK, hD0, hN⟩ := hv
  have hx := B.exec
  have hb := B.bytes
  have hr := B.returns
  have ht : ∀ w ∈ lw_g, w.before ([.ref (a 0), .int x1] : List Value).toArray s = true := fun w hw => atoms_spec (ws := Cond.code yX5_alone cX5_alone 6 (Option.some Jvm.ClassFile.FieldType.int) :: lw_g) B.pre w (List.mem_cons_of_mem _ hw)
  have hown : s.vm.findClass RX5 = some m.cls := findClass_of_methodNamed B.named
  have hlocks := B.notSynchronized
  have hD := hD0.self (sz := s.heap.size)
  generalize hAe : va_A (wX5 a cI cC cO M) s.heap.size = A at hD ⊢
  have hA : ∀ q : Nat, s.heap.size ≤ q → A q := fun q hq => by rw [← hAe]; exact Or.inr hq
  have hS : va_S A s.heap s.heap [] := va_S.rf
  have hl := lv_entry ([.ref (a 0), .int x1]) (n := 6) (Nat.le_of_ble_eq_true rfl)
  rw [lg_entry_eq]
  generalize (lg_sl ([.ref (a 0), .int x1]) ++ List.replicate (6 - (lg_sl ([.ref (a 0), .int x1])).length) Slot.unset).toArray = ls at hl ⊢
  have hl : lv_has ls 6 [(0, .ref (a 0)), (1, .int x1)] := hl
  have w33 : ∀ (n33 : Nat) (M : Mm) (y2 : Int32) (H : Heap) (locs : List Loc) (ls : Array Slot), F_X5_alone_33 n33 M y2 = some res → va_P D classes (wX5 a cI cC cO M) H → va_D A (wX5 a cI cC cO M) → va_S A s.heap H locs → lv_has ls 6 [(0, .ref (a 0)), (2, .int y2)] → W p l e ({ frames := 1, cells := 0, slots := 0, locals := 22 } : Room) s m ([.ref (a 0), .int x1] : List Value).toArray below meth c H locs 0 0 (MQ below (QI D cI cC cO A (wX5 a cI cC cO res.2) res.1) ([.ref (a 0), .int x1] : List Value).toArray s 0 0 A) (F0 m 33 ls []) := by
    intro n33
    induction n33 with
    | zero => intro M y2 H locs ls h hP hD hS hl; exact absurd (show (none : Option (Int32 × Mm)) = some res from h) (by simp)
    | succ n33 ih33 =>
      have w52 : ∀ (n52 : Nat) (M : Mm) (y2 y3 : Int32) (H : Heap) (locs : List Loc) (ls : Array Slot), F_X5_alone_52 (F_X5_alone_33 n33) n52 M y2 y3 = some res → va_P D classes (wX5 a cI cC cO M) H → va_D A (wX5 a cI cC cO M) → va_S A s.heap H locs → lv_has ls 6 [(0, .ref (a 0)), (2, .int y2), (3, .int y3)] → W p l e ({ frames := 1, cells := 0, slots := 0, locals := 22 } : Room) s m ([.ref (a 0), .int x1] : List Value).toArray below meth c H locs 0 0 (MQ below (QI D cI cC cO A (wX5 a cI cC cO res.2) res.1) ([.ref (a 0), .int x1] : List Value).toArray s 0 0 A) (F0 m 52 ls []) := by
        intro n52
        induction n52 with
        | zero => intro M y2 y3 H locs ls h hP hD hS hl; exact absurd (show (none : Option (Int32 × Mm)) = some res from h) (by simp)
        | succ n52 ih52 =>
          have w126 : ∀ (n126 : Nat) (M : Mm) (y2 y3 y4 y5 : Int32) (H : Heap) (locs : List Loc) (ls : Array Slot), F_X5_alone_126 (F_X5_alone_33 n33) (F_X5_alone_52 (F_X5_alone_33 n33) n52) n126 M y2 y3 y4 y5 = some res → va_P D classes (wX5 a cI cC cO M) H → va_D A (wX5 a cI cC cO M) → va_S A s.heap H locs → lv_has ls 6 [(0, .ref (a 0)), (2, .int y2), (3, .int y3), (4, .int y4), (5, .int y5)] → W p l e ({ frames := 1, cells := 0, slots := 0, locals := 22 } : Room) s m ([.ref (a 0), .int x1] : List Value).toArray below meth c H locs 0 0 (MQ below (QI D cI cC cO A (wX5 a cI cC cO res.2) res.1) ([.ref (a 0), .int x1] : List Value).toArray s 0 0 A) (F0 m 126 ls []) := by
            intro n126
            induction n126 with
            | zero => intro M y2 y3 y4 y5 H locs ls h hP hD hS hl; exact absurd (show (none : Option (Int32 × Mm)) = some res from h) (by simp)
            | succ n126 ih126 =>
              intro M y2 y3 y4 y5 H locs ls h hP hD hS hl
              have h : F_X5_aloneB_126 (F_X5_alone_33 n33) (F_X5_alone_52 (F_X5_alone_33 n33) n52) (F_X5_alone_126 (F_X5_alone_33 n33) (F_X5_alone_52 (F_X5_alone_33 n33) n52) n126) M y2 y3 y4 y5 = some res := h
              unfold F_X5_aloneB_126 at h
              refine lv_iload hx hb dX5_alone_126 (lv_at hl 4 rfl) ?_
              refine lv_aload_n hx hb dX5_alone_128 rfl (lv_at hl 0 rfl) ?_
              refine va_get (D := D) (ci := 5) (v := .ref (a 1)) (C := RX5) (T := TX5) (N := 23) hx hb ht i_X5 hown hK hP 0 rfl rfl 0 (by decide) (ht _ wd_536) (fun _ h9 => h9) rfl dX5_alone_129 ?_
              refine lv_iconst (v := (1 : Int32)) hx hb dX5_alone_132 (by decide) ?_
              obtain ⟨i1, h⟩ := ck_ok h
              refine va_iald hx hb hK hP 1 0 rfl rfl i1 dX5_alone_133 ?_
              refine lv_icmp_ge (tgt := 220) hx hb dX5_alone_134 (by decide) (fun c2 => ?_) (fun c2 => ?_)
              · replace h := fp c2 h
                refine lv_iinc (v := (y3 + 1)) (lv' := [(3, .int (y3 + 1)), (0, .ref (a 0)), (2, .int y2), (4, .int y4), (5, .int y5)]) hx hb dX5_alone_220 hl (k := 2) rfl rfl (by decide) rfl (fun ls hl => ?_)
                refine lv_goto (tgt := 52) hx hb dX5_alone_223 (by decide) ?_
                exact ih52 M y2 (y3 + 1) _ _ ls h hP hD hS (lv_sub hl [1, 2, 0] rfl)
              · replace h := fn c2 h
                refine lv_iload hx hb dX5_alone_137 (lv_at hl 3 rfl) ?_
                refine lv_if_eq (tgt := 220) hx hb dX5_alone_139 (by decide) (fun c3 => ?_) (fun c3 => ?_)
                · replace h := fp c3 h
                  refine lv_iinc (v := (y3 + 1)) (lv' := [(3, .int (y3 + 1)), (0, .ref (a 0)), (2, .int y2), (4, .int y4), (5, .int y5)]) hx hb dX5_alone_220 hl (k := 2) rfl rfl (by decide) rfl (fun ls hl => ?_)
                  refine lv_goto (tgt := 52) hx hb dX5_alone_223 (by decide) ?_
                  exact ih52 M y2 (y3 + 1) _ _ ls h hP hD hS (lv_sub hl [1, 2, 0] rfl)
                · replace h := fn c3 h
                  refine lv_aload_n hx hb dX5_alone_142 rfl (lv_at hl 0 rfl) ?_
                  refine lv_iload hx hb dX5_alone_143 (lv_at hl 4 rfl) ?_
                  refine lv_iconst (v := (0 : Int32)) hx hb dX5_alone_145 (by decide) ?_
                  obtain ⟨u4, e5, h⟩ := b1_ok h
                  refine cl_Vi (ws' := (wX5 a cI cC cO M)) ⟨hx, hb, hml, hown, ht⟩ (c_X5_pi l D cI cC cO a M y5 (0 : Int32) _ _ e5) (cwv 2 ht wd_678 wd_6 wd_675 wd_677 ws_28 (by decide +kernel) rfl rfl ⟨Nat.le_of_ble_eq_true rfl, Nat.le_of_ble_eq_true rfl⟩) 5 0 rfl rfl rfl hK hP hD hS hA hN [0, 1, 2, 3, 4, 5, 6, 7, 8, 9, 10, 11, 12] [] [0, 1, 2, 3, 4, 5, 6, 7, 8, 9, 10, 11, 12] (by decide) rfl rfl (by decide) (by decide) rfl (by decide) rfl hl.1 rfl (Nat.le_of_ble_eq_true rfl) dX5_alone_146 ⟨Nat.le_of_ble_eq_true rfl, Nat.le_of_ble_eq_true rfl⟩ (fun H locs hP hD hS => ?_)
                  refine lv_iload_n hx hb dX5_alone_149 rfl (lv_at hl 2 rfl) ?_
                  refine lv_icmp_ne (tgt := 214) hx hb dX5_alone_150 (by decide) (fun c6 => ?_) (fun c6 => ?_)
                  · replace h := fn c6 h
                    refine lv_iinc (v := (y5 + 1)) (lv' := [(5, .int (y5 + 1)), (0, .ref (a 0)), (2, .int y2), (3, .int y3), (4, .int y4)]) hx hb dX5_alone_214 hl (k := 4) rfl rfl (by decide) rfl (fun ls hl => ?_)
                    refine lv_goto (tgt := 126) hx hb dX5_alone_217 (by decide) ?_
                    exact ih126 M y2 y3 y4 (y5 + 1) _ _ ls h hP hD hS (lv_sub hl [1, 2, 3, 4, 0] rfl)
                  · replace h := fp c6 h
                    refine lv_iload_n hx hb dX5_alone_153 rfl (lv_at hl 1 rfl) ?_
                    refine lv_aload_n hx hb dX5_alone_154 rfl (lv_at hl 0 rfl) ?_
                    refine lv_iload hx hb dX5_alone_155 (lv_at hl 4 rfl) ?_
                    refine lv_iconst (v := (4 : Int32)) hx hb dX5_alone_157 (by decide) ?_
                    obtain ⟨u7, e8, h⟩ := b1_ok h
                    refine cl_Vi (ws' := (wX5 a cI cC cO M)) ⟨hx, hb, hml, hown, ht⟩ (c_X5_pi l D cI cC cO a M y5 (4 : Int32) _ _ e8) (cwv 2 ht wd_678 wd_6 wd_675 wd_677 ws_28 (by decide +kernel) rfl rfl ⟨Nat.le_of_ble_eq_true rfl, Nat.le_of_ble_eq_true rfl⟩) 5 0 rfl rfl rfl hK hP hD hS hA hN [0, 1, 2, 3, 4, 5, 6, 7, 8, 9, 10, 11, 12] [] [0, 1, 2, 3, 4, 5, 6, 7, 8, 9, 10, 11, 12] (by decide) rfl rfl (by decide) (by decide) rfl (by decide) rfl hl.1 rfl (Nat.le_of_ble_eq_true rfl) dX5_alone_158 ⟨Nat.le_of_ble_eq_true rfl, Nat.le_of_ble_eq_true rfl⟩ (fun H locs hP hD hS => ?_)
                    refine lv_aload_n hx hb dX5_alone_161 rfl (lv_at hl 0 rfl) ?_
                    refine lv_iload hx hb dX5_alone_162 (lv_at hl 4 rfl) ?_
                    refine lv_iconst (v := (5 : Int32)) hx hb dX5_alone_164 (by decide) ?_
                    obtain ⟨u9, e10, h⟩ := b1_ok h
                    refine cl_Vi (ws' := (wX5 a cI cC cO M)) ⟨hx, hb, hml, hown, ht⟩ (c_X5_pi l D cI cC cO a M y5 (5 : Int32) _ _ e10) (cwv 2 ht wd_678 wd_6 wd_675 wd_677 ws_28 (by decide +kernel) rfl rfl ⟨Nat.le_of_ble_eq_true rfl, Nat.le_of_ble_eq_true rfl⟩) 5 0 rfl rfl rfl hK hP hD hS hA hN [0, 1, 2, 3, 4, 5, 6, 7, 8, 9, 10, 11, 12] [] [0, 1, 2, 3, 4, 5, 6, 7, 8, 9, 10, 11, 12] (by decide) rfl rfl (by decide) (by decide) rfl (by decide) rfl hl.1 rfl (Nat.le_of_ble_eq_true rfl) dX5_alone_165 ⟨Nat.le_of_ble_eq_true rfl, Nat.le_of_ble_eq_true rfl⟩ (fun H locs hP hD hS => ?_)
                    obtain ⟨u11, e12, h⟩ := b1_ok h
                    refine cl_Si (ws' := (wX5 a cI cC cO M)) ⟨hx, hb, hml, hown, ht⟩ (c_X5_in l D cI cC cO y2 u7 u9 _ _ e12) (cwst 3 ht wd_612 wd_6 wd_610 wd_611 (by decide +kernel) rfl rfl ⟨Nat.le_of_ble_eq_true rfl, Nat.le_of_ble_eq_true rfl⟩) hK hP hD hS hA hN [] [0, 1, 2, 3, 4, 5, 6, 7, 8, 9, 10, 11, 12] [0, 1, 2, 3, 4, 5, 6, 7, 8, 9, 10, 11, 12] (by decide) rfl rfl (by decide) (by decide) rfl (by decide) rfl hl.1 rfl (Nat.le_of_ble_eq_true rfl) dX5_alone_168 ⟨Nat.le_of_ble_eq_true rfl, Nat.le_of_ble_eq_true rfl⟩ (fun H locs hP hD hS => ?_)
                    refine lv_if_eq (tgt := 214) hx hb dX5_alone_171 (by decide) (fun c13 => ?_) (fun c13 => ?_)
                    · replace h := fp c13 h
                      refine lv_iinc (v := (y5 + 1)) (lv' := [(5, .int (y5 + 1)), (0, .ref (a 0)), (2, .int y2), (3, .int y3), (4, .int y4)]) hx hb dX5_alone_214 hl (k := 4) rfl rfl (by decide) rfl (fun ls hl => ?_)
                      refine lv_goto (tgt := 126) hx hb dX5_alone_217 (by decide) ?_
                      exact ih126 M y2 y3 y4 (y5 + 1) _ _ ls h hP hD hS (lv_sub hl [1, 2, 3, 4, 0] rfl)
                    · replace h := fn c13 h
                      refine lv_iload_n hx hb dX5_alone_174 rfl (lv_at hl 1 rfl) ?_
                      refine lv_aload_n hx hb dX5_alone_175 rfl (lv_at hl 0 rfl) ?_
                      refine lv_iload hx hb dX5_alone_176 (lv_at hl 4 rfl) ?_
                      refine lv_iconst (v := (2 : Int32)) hx hb dX5_alone_178 (by decide) ?_
                      obtain ⟨u14, e15, h⟩ := b1_ok h
                      refine cl_Vi (ws' := (wX5 a cI cC cO M)) ⟨hx, hb, hml, hown, ht⟩ (c_X5_pi l D cI cC cO a M y5 (2 : Int32) _ _ e15) (cwv 2 ht wd_678 wd_6 wd_675 wd_677 ws_28 (by decide +kernel) rfl rfl ⟨Nat.le_of_ble_eq_true rfl, Nat.le_of_ble_eq_true rfl⟩) 5 0 rfl rfl rfl hK hP hD hS hA hN [0, 1, 2, 3, 4, 5, 6, 7, 8, 9, 10, 11, 12] [] [0, 1, 2, 3, 4, 5, 6, 7, 8, 9, 10, 11, 12] (by decide) rfl rfl (by decide) (by decide) rfl (by decide) rfl hl.1 rfl (Nat.le_of_ble_eq_true rfl) dX5_alone_179 ⟨Nat.le_of_ble_eq_true rfl, Nat.le_of_ble_eq_true rfl⟩ (fun H locs hP hD hS => ?_)
                      refine lv_iadd hx hb dX5_alone_182 ?_
                      refine lv_bipush (v := (16 : Int32)) hx hb dX5_alone_183 (by decide) ?_
                      refine lv_icmp_ge (tgt := 214) hx hb dX5_alone_185 (by decide) (fun c16 => ?_) (fun c16 => ?_)
                      · replace h := fp c16 h
                        refine lv_iinc (v := (y5 + 1)) (lv' := [(5, .int (y5 + 1)), (0, .ref (a 0)), (2, .int y2), (3, .int y3), (4, .int y4)]) hx hb dX5_alone_214 hl (k := 4) rfl rfl (by decide) rfl (fun ls hl => ?_)
                        refine lv_goto (tgt := 126) hx hb dX5_alone_217 (by decide) ?_
                        exact ih126 M y2 y3 y4 (y5 + 1) _ _ ls h hP hD hS (lv_sub hl [1, 2, 3, 4, 0] rfl)
                      · replace h := fn c16 h
                        refine lv_aload_n hx hb dX5_alone_188 rfl (lv_at hl 0 rfl) ?_
                        refine va_get (D := D) (ci := 5) (v := .ref (a 10)) (C := RX5) (T := TX5) (N := 23) hx hb ht i_X5 hown hK hP 0 rfl rfl 14 (by decide) (ht _ wd_550) (fun _ h9 => h9) rfl dX5_alone_189 ?_
                        refine lv_bipush (v := (16 : Int32)) hx hb dX5_alone_192 (by decide) ?_
                        refine lv_aload_n hx hb dX5_alone_194 rfl (lv_at hl 0 rfl) ?_
                        refine lv_iload hx hb dX5_alone_195 (lv_at hl 4 rfl) ?_
                        refine lv_iconst (v := (1 : Int32)) hx hb dX5_alone_197 (by decide) ?_
                        obtain ⟨u17, e18, h⟩ := b1_ok h
                        refine cl_Vi (ws' := (wX5 a cI cC cO M)) ⟨hx, hb, hml, hown, ht⟩ (c_X5_pi l D cI cC cO a M y5 (1 : Int32) _ _ e18) (cwv 2 ht wd_678 wd_6 wd_675 wd_677 ws_28 (by decide +kernel) rfl rfl ⟨Nat.le_of_ble_eq_true rfl, Nat.le_of_ble_eq_true rfl⟩) 5 0 rfl rfl rfl hK hP hD hS hA hN [0, 1, 2, 3, 4, 5, 6, 7, 8, 9, 10, 11, 12] [] [0, 1, 2, 3, 4, 5, 6, 7, 8, 9, 10, 11, 12] (by decide) rfl rfl (by decide) (by decide) rfl (by decide) rfl hl.1 rfl (Nat.le_of_ble_eq_true rfl) dX5_alone_198 ⟨Nat.le_of_ble_eq_true rfl, Nat.le_of_ble_eq_true rfl⟩ (fun H locs hP hD hS => ?_)
                        refine lv_imul hx hb dX5_alone_201 ?_
                        refine lv_iload_n hx hb dX5_alone_202 rfl (lv_at hl 1 rfl) ?_
                        refine lv_iadd hx hb dX5_alone_203 ?_
                        refine lv_aload_n hx hb dX5_alone_204 rfl (lv_at hl 0 rfl) ?_
                        refine lv_iload hx hb dX5_alone_205 (lv_at hl 4 rfl) ?_
                        refine lv_iconst (v := (2 : Int32)) hx hb dX5_alone_207 (by decide) ?_
                        obtain ⟨u19, e20, h⟩ := b1_ok h
                        refine cl_Vi (ws' := (wX5 a cI cC cO M)) ⟨hx, hb, hml, hown, ht⟩ (c_X5_pi l D cI cC cO a M y5 (2 : Int32) _ _ e20) (cwv 2 ht wd_678 wd_6 wd_675 wd_677 ws_28 (by decide +kernel) rfl rfl ⟨Nat.le_of_ble_eq_true rfl, Nat.le_of_ble_eq_true rfl⟩) 5 0 rfl rfl rfl hK hP hD hS hA hN [0, 1, 2, 3, 4, 5, 6, 7, 8, 9, 10, 11, 12] [] [0, 1, 2, 3, 4, 5, 6, 7, 8, 9, 10, 11, 12] (by decide) rfl rfl (by decide) (by decide) rfl (by decide) rfl hl.1 rfl (Nat.le_of_ble_eq_true rfl) dX5_alone_208 ⟨Nat.le_of_ble_eq_true rfl, Nat.le_of_ble_eq_true rfl⟩ (fun H locs hP hD hS => ?_)
                        refine lv_iadd hx hb dX5_alone_211 ?_
                        refine lv_iconst (v := (0 : Int32)) hx hb dX5_alone_212 (by decide) ?_
                        obtain ⟨i21, h⟩ := ck_ok h
                        refine va_iast hx hb hK hP hD hS 10 0 rfl rfl i21 dX5_alone_213 (fun H locs hP hD hS => ?_)
                        obtain ⟨M22, e23, h⟩ := sv_ok h
                        have hP : va_P D classes (wX5 a cI cC cO M22) H := by rw [← e23]; exact hP
                        have hD : va_D A (wX5 a cI cC cO M22) := by rw [← e23]; exact hD
                        refine lv_iinc (v := (y5 + 1)) (lv' := [(5, .int (y5 + 1)), (0, .ref (a 0)), (2, .int y2), (3, .int y3), (4, .int y4)]) hx hb dX5_alone_214 hl (k := 4) rfl rfl (by decide) rfl (fun ls hl => ?_)
                        refine lv_goto (tgt := 126) hx hb dX5_alone_217 (by decide) ?_
                        exact ih126 M22 y2 y3 y4 (y5 + 1) _ _ ls h hP hD hS (lv_sub hl [1, 2, 3, 4, 0] rfl)
          have w81 : ∀ (M : Mm) (y2 y3 s0 : Int32) (H : Heap) (locs : List Loc) (ls : Array Slot), F_X5_alone_81 (F_X5_alone_33 n33) (F_X5_alone_52 (F_X5_alone_33 n33) n52) M y2 y3 s0 = some res → va_P D classes (wX5 a cI cC cO M) H → va_D A (wX5 a cI cC cO M) → va_S A s.heap H locs → lv_has ls 6 [(0, .ref (a 0)), (2, .int y2), (3, .int y3)] → W p l e ({ frames := 1, cells := 0, slots := 0, locals := 22 } : Room) s m ([.ref (a 0), .int x1] : List Value).toArray below meth c H locs 0 0 (MQ below (QI D cI cC cO A (wX5 a cI cC cO res.2) res.1) ([.ref (a 0), .int x1] : List Value).toArray s 0 0 A) (F0 m 81 ls [.int s0]) := by
            intro M y2 y3 s0 H locs ls h hP hD hS hl
            unfold F_X5_alone_81 at h
            refine lv_istore (lv' := [(4, .int s0), (0, .ref (a 0)), (2, .int y2), (3, .int y3)]) hx hb dX5_alone_81 hl (by decide) rfl (fun ls hl => ?_)
            refine lv_iload hx hb dX5_alone_83 (lv_at hl 0 rfl) ?_
            refine lv_if_eq (tgt := 123) hx hb dX5_alone_85 (by decide) (fun c1 => ?_) (fun c1 => ?_)
            · replace h := fp c1 h
              refine lv_iconst (v := (0 : Int32)) hx hb dX5_alone_123 (by decide) ?_
              refine lv_istore (lv' := [(5, .int (0 : Int32)), (4, .int s0), (0, .ref (a 0)), (2, .int y2), (3, .int y3)]) hx hb dX5_alone_124 hl (by decide) rfl (fun ls hl => ?_)
              exact w126 FU M y2 y3 s0 (0 : Int32) _ _ ls h hP hD hS (lv_sub hl [2, 3, 4, 1, 0] rfl)
            · replace h := fn c1 h
              refine lv_iload_n hx hb dX5_alone_88 rfl (lv_at hl 2 rfl) ?_
              refine lv_bipush (v := (15 : Int32)) hx hb dX5_alone_89 (by decide) ?_
              refine lv_icmp_ge (tgt := 123) hx hb dX5_alone_91 (by decide) (fun c2 => ?_) (fun c2 => ?_)
              · replace h := fp c2 h
                refine lv_iconst (v := (0 : Int32)) hx hb dX5_alone_123 (by decide) ?_
                refine lv_istore (lv' := [(5, .int (0 : Int32)), (4, .int s0), (0, .ref (a 0)), (2, .int y2), (3, .int y3)]) hx hb dX5_alone_124 hl (by decide) rfl (fun ls hl => ?_)
                exact w126 FU M y2 y3 s0 (0 : Int32) _ _ ls h hP hD hS (lv_sub hl [2, 3, 4, 1, 0] rfl)
              · replace h := fn c2 h
                refine lv_aload_n hx hb dX5_alone_94 rfl (lv_at hl 1 rfl) ?_
                refine va_get (D := D) (ci := 5) (v := .ref (a 1)) (C := RX5) (T := TX5) (N := 23) hx hb ht i_X5 hown hK hP 0 rfl rfl 0 (by decide) (ht _ wd_536) (fun _ h9 => h9) rfl dX5_alone_95 ?_
                refine lv_iconst (v := (2 : Int32)) hx hb dX5_alone_98 (by decide) ?_
                refine lv_iconst (v := (2 : Int32)) hx hb dX5_alone_99 (by decide) ?_
                refine lv_iload_n hx hb dX5_alone_100 rfl (lv_at hl 3 rfl) ?_
                refine lv_imul hx hb dX5_alone_101 ?_
                refine lv_iadd hx hb dX5_alone_102 ?_
                refine lv_iconst (v := (1 : Int32)) hx hb dX5_alone_103 (by decide) ?_
                refine lv_iadd hx hb dX5_alone_104 ?_
                obtain ⟨i3, h⟩ := ck_ok h
                refine va_iald hx hb hK hP 1 0 rfl rfl i3 dX5_alone_105 ?_
                refine lv_if_le (tgt := 123) hx hb dX5_alone_106 (by decide) (fun c4 => ?_) (fun c4 => ?_)
                · replace h := fp c4 h
                  refine lv_iconst (v := (0 : Int32)) hx hb dX5_alone_123 (by decide) ?_
                  refine lv_istore (lv' := [(5, .int (0 : Int32)), (4, .int s0), (0, .ref (a 0)), (2, .int y2), (3, .int y3)]) hx hb dX5_alone_124 hl (by decide) rfl (fun ls hl => ?_)
                  exact w126 FU M y2 y3 s0 (0 : Int32) _ _ ls h hP hD hS (lv_sub hl [2, 3, 4, 1, 0] rfl)
                · replace h := fn c4 h
                  refine lv_aload_n hx hb dX5_alone_109 rfl (lv_at hl 1 rfl) ?_
                  refine va_get (D := D) (ci := 5) (v := .ref (a 10)) (C := RX5) (T := TX5) (N := 23) hx hb ht i_X5 hown hK hP 0 rfl rfl 14 (by decide) (ht _ wd_550) (fun _ h9 => h9) rfl dX5_alone_110 ?_
                  refine lv_bipush (v := (16 : Int32)) hx hb dX5_alone_113 (by decide) ?_
                  refine lv_iload_n hx hb dX5_alone_115 rfl (lv_at hl 3 rfl) ?_
                  refine lv_imul hx hb dX5_alone_116 ?_
                  refine lv_iload_n hx hb dX5_alone_117 rfl (lv_at hl 2 rfl) ?_
                  refine lv_iadd hx hb dX5_alone_118 ?_
                  refine lv_iconst (v := (1 : Int32)) hx hb dX5_alone_119 (by decide) ?_
                  refine lv_iadd hx hb dX5_alone_120 ?_
                  refine lv_iconst (v := (0 : Int32)) hx hb dX5_alone_121 (by decide) ?_
                  obtain ⟨i5, h⟩ := ck_ok h
                  refine va_iast hx hb hK hP hD hS 10 0 rfl rfl i5 dX5_alone_122 (fun H locs hP hD hS => ?_)
                  obtain ⟨M6, e7, h⟩ := sv_ok h
                  have hP : va_P D classes (wX5 a cI cC cO M6) H := by rw [← e7]; exact hP
                  have hD : va_D A (wX5 a cI cC cO M6) := by rw [← e7]; exact hD
                  refine lv_iconst (v := (0 : Int32)) hx hb dX5_alone_123 (by decide) ?_
                  refine lv_istore (lv' := [(5, .int (0 : Int32)), (4, .int s0), (0, .ref (a 0)), (2, .int y2), (3, .int y3)]) hx hb dX5_alone_124 hl (by decide) rfl (fun ls hl => ?_)
                  exact w126 FU M6 y2 y3 s0 (0 : Int32) _ _ ls h hP hD hS (lv_sub hl [2, 3, 4, 1, 0] rfl)
          intro M y2 y3 H locs ls h hP hD hS hl
          have h : F_X5_aloneB_52 (F_X5_alone_33 n33) (F_X5_alone_52 (F_X5_alone_33 n33) n52) M y2 y3 = some res := h
          unfold F_X5_aloneB_52 at h
          refine lv_iload_n hx hb dX5_alone_52 rfl (lv_at hl 2 rfl) ?_
          refine lv_aload_n hx hb dX5_alone_53 rfl (lv_at hl 0 rfl) ?_
          refine va_get (D := D) (ci := 5) (v := .ref (a 1)) (C := RX5) (T := TX5) (N := 23) hx hb ht i_X5 hown hK hP 0 rfl rfl 0 (by decide) (ht _ wd_536) (fun _ h9 => h9) rfl dX5_alone_54 ?_
          refine lv_iconst (v := (0 : Int32)) hx hb dX5_alone_57 (by decide) ?_
          obtain ⟨i1, h⟩ := ck_ok h
          refine va_iald hx hb hK hP 1 0 rfl rfl i1 dX5_alone_58 ?_
          refine lv_icmp_ge (tgt := 226) hx hb dX5_alone_59 (by decide) (fun c2 => ?_) (fun c2 => ?_)
          · replace h := fp c2 h
            refine lv_iinc (v := (y2 + 1)) (lv' := [(2, .int (y2 + 1)), (0, .ref (a 0)), (3, .int y3)]) hx hb dX5_alone_226 hl (k := 1) rfl rfl (by decide) rfl (fun ls hl => ?_)
            refine lv_goto (tgt := 33) hx hb dX5_alone_229 (by decide) ?_
            exact ih33 M (y2 + 1) _ _ ls h hP hD hS (lv_sub hl [1, 0] rfl)
          · replace h := fn c2 h
            refine lv_aload_n hx hb dX5_alone_62 rfl (lv_at hl 0 rfl) ?_
            refine va_get (D := D) (ci := 5) (v := .ref (a 10)) (C := RX5) (T := TX5) (N := 23) hx hb ht i_X5 hown hK hP 0 rfl rfl 14 (by decide) (ht _ wd_550) (fun _ h9 => h9) rfl dX5_alone_63 ?_
            refine lv_bipush (v := (16 : Int32)) hx hb dX5_alone_66 (by decide) ?_
            refine lv_iload_n hx hb dX5_alone_68 rfl (lv_at hl 2 rfl) ?_
            refine lv_imul hx hb dX5_alone_69 ?_
            refine lv_iload_n hx hb dX5_alone_70 rfl (lv_at hl 1 rfl) ?_
            refine lv_iadd hx hb dX5_alone_71 ?_
            obtain ⟨i3, h⟩ := ck_ok h
            refine va_iald hx hb hK hP 10 0 rfl rfl i3 dX5_alone_72 ?_
            refine lv_if_lt (tgt := 80) hx hb dX5_alone_73 (by decide) (fun c4 => ?_) (fun c4 => ?_)
            · replace h := fp c4 h
              refine lv_iconst (v := (0 : Int32)) hx hb dX5_alone_80 (by decide) ?_
              exact w81 M y2 y3 (0 : Int32) _ _ ls h hP hD hS (lv_sub hl [0, 1, 2] rfl)
            · replace h := fn c4 h
              refine lv_iconst (v := (1 : Int32)) hx hb dX5_alone_76 (by decide) ?_
              refine lv_goto (tgt := 81) hx hb dX5_alone_77 (by decide) ?_
              exact w81 M y2 y3 (1 : Int32) _ _ ls h hP hD hS (lv_sub hl [0, 1, 2] rfl)
      intro M y2 H locs ls h hP hD hS hl
      have h : F_X5_aloneB_33 (F_X5_alone_33 n33) M y2 = some res := h
      unfold F_X5_aloneB_33 at h
      refine lv_iload_n hx hb dX5_alone_33 rfl (lv_at hl 1 rfl) ?_
      refine lv_bipush (v := (16 : Int32)) hx hb dX5_alone_34 (by decide) ?_
      refine lv_icmp_ge (tgt := 232) hx hb dX5_alone_36 (by decide) (fun c1 => ?_) (fun c1 => ?_)
      · replace h := fp c1 h
        refine lv_ldc hx hb hown (ht _ wd_691) dX5_alone_232 ?_
        cases h
        exact rt_i hx hb hr hlocks hS hP hK hD dX5_alone_234
      · replace h := fn c1 h
        refine lv_aload_n hx hb dX5_alone_39 rfl (lv_at hl 0 rfl) ?_
        refine va_get (D := D) (ci := 5) (v := .ref (a 10)) (C := RX5) (T := TX5) (N := 23) hx hb ht i_X5 hown hK hP 0 rfl rfl 14 (by decide) (ht _ wd_550) (fun _ h9 => h9) rfl dX5_alone_40 ?_
        refine lv_iload_n hx hb dX5_alone_43 rfl (lv_at hl 1 rfl) ?_
        obtain ⟨i2, h⟩ := ck_ok h
        refine va_iald hx hb hK hP 10 0 rfl rfl i2 dX5_alone_44 ?_
        refine lv_if_lt (tgt := 50) hx hb dX5_alone_45 (by decide) (fun c3 => ?_) (fun c3 => ?_)
        · replace h := fp c3 h
          refine lv_iconst (v := (1 : Int32)) hx hb dX5_alone_50 (by decide) ?_
          refine lv_istore_n (lv' := [(3, .int (1 : Int32)), (0, .ref (a 0)), (2, .int y2)]) hx hb dX5_alone_51 rfl hl (by decide) rfl (fun ls hl => ?_)
          exact w52 FU M y2 (1 : Int32) _ _ ls h hP hD hS (lv_sub hl [1, 2, 0] rfl)
        · replace h := fn c3 h
          refine lv_iload_n hx hb dX5_alone_48 rfl (lv_at hl 1 rfl) ?_
          cases h
          exact rt_i hx hb hr hlocks hS hP hK hD dX5_alone_49
  have w2 : ∀ (n2 : Nat) (M : Mm) (y1 y2 : Int32) (H : Heap) (locs : List Loc) (ls : Array Slot), F_X5_alone_2 n2 M y1 y2 = some res → va_P D classes (wX5 a cI cC cO M) H → va_D A (wX5 a cI cC cO M) → va_S A s.heap H locs → lv_has ls 6 [(0, .ref (a 0)), (1, .int y1), (2, .int y2)] → W p l e ({ frames := 1, cells := 0, slots := 0, locals := 22 } : Room) s m ([.ref (a 0), .int x1] : List Value).toArray below meth c H locs 0 0 (MQ below (QI D cI cC cO A (wX5 a cI cC cO res.2) res.1) ([.ref (a 0), .int x1] : List Value).toArray s 0 0 A) (F0 m 2 ls []) := by
    intro n2
    induction n2 with
    | zero => intro M y1 y2 H locs ls h hP hD hS hl; exact absurd (show (none : Option (Int32 × Mm)) = some res from h) (by simp)
    | succ n2 ih2 =>
      intro M y1 y2 H locs ls h hP hD hS hl
      have h : F_X5_aloneB_2 (F_X5_alone_2 n2) M y1 y2 = some res := h
      unfold F_X5_aloneB_2 at h
      refine lv_iload_n hx hb dX5_alone_2 rfl (lv_at hl 2 rfl) ?_
      refine lv_bipush (v := (96 : Int32)) hx hb dX5_alone_3 (by decide) ?_
      refine lv_icmp_ge (tgt := 21) hx hb dX5_alone_5 (by decide) (fun c1 => ?_) (fun c1 => ?_)
      · replace h := fp c1 h
        refine lv_aload_n hx hb dX5_alone_21 rfl (lv_at hl 0 rfl) ?_
        refine va_get (D := D) (ci := 5) (v := .ref (a 10)) (C := RX5) (T := TX5) (N := 23) hx hb ht i_X5 hown hK hP 0 rfl rfl 14 (by decide) (ht _ wd_550) (fun _ h9 => h9) rfl dX5_alone_22 ?_
        refine lv_bipush (v := (16 : Int32)) hx hb dX5_alone_25 (by decide) ?_
        refine lv_iload_n hx hb dX5_alone_27 rfl (lv_at hl 1 rfl) ?_
        refine lv_imul hx hb dX5_alone_28 ?_
        refine lv_iconst (v := (0 : Int32)) hx hb dX5_alone_29 (by decide) ?_
        obtain ⟨i2, h⟩ := ck_ok h
        refine va_iast hx hb hK hP hD hS 10 0 rfl rfl i2 dX5_alone_30 (fun H locs hP hD hS => ?_)
        obtain ⟨M3, e4, h⟩ := sv_ok h
        have hP : va_P D classes (wX5 a cI cC cO M3) H := by rw [← e4]; exact hP
        have hD : va_D A (wX5 a cI cC cO M3) := by rw [← e4]; exact hD
        refine lv_iconst (v := (0 : Int32)) hx hb dX5_alone_31 (by decide) ?_
        refine lv_istore_n (lv' := [(2, .int (0 : Int32)), (0, .ref (a 0)), (1, .int y1)]) hx hb dX5_alone_32 rfl hl (by decide) rfl (fun ls hl => ?_)
        exact w33 FU M3 (0 : Int32) _ _ ls h hP hD hS (lv_sub hl [1, 0] rfl)
      · replace h := fn c1 h
        refine lv_aload_n hx hb dX5_alone_8 rfl (lv_at hl 0 rfl) ?_
        refine va_get (D := D) (ci := 5) (v := .ref (a 10)) (C := RX5) (T := TX5) (N := 23) hx hb ht i_X5 hown hK hP 0 rfl rfl 14 (by decide) (ht _ wd_550) (fun _ h9 => h9) rfl dX5_alone_9 ?_
        refine lv_iload_n hx hb dX5_alone_12 rfl (lv_at hl 2 rfl) ?_
        refine lv_iconst (v := (-1 : Int32)) hx hb dX5_alone_13 (by decide) ?_
        obtain ⟨i5, h⟩ := ck_ok h
        refine va_iast hx hb hK hP hD hS 10 0 rfl rfl i5 dX5_alone_14 (fun H locs hP hD hS => ?_)
        obtain ⟨M6, e7, h⟩ := sv_ok h
        have hP : va_P D classes (wX5 a cI cC cO M6) H := by rw [← e7]; exact hP
        have hD : va_D A (wX5 a cI cC cO M6) := by rw [← e7]; exact hD
        refine lv_iinc (v := (y2 + 1)) (lv' := [(2, .int (y2 + 1)), (0, .ref (a 0)), (1, .int y1)]) hx hb dX5_alone_15 hl (k := 2) rfl rfl (by decide) rfl (fun ls hl => ?_)
        refine lv_goto (tgt := 2) hx hb dX5_alone_18 (by decide) ?_
        exact ih2 M6 y1 (y2 + 1) _ _ ls h hP hD hS (lv_sub hl [1, 2, 0] rfl)
  unfold F_X5_alone at h
  refine lv_iconst (v := (0 : Int32)) hx hb dX5_alone_0 (by decide) ?_
  refine lv_istore_n (lv' := [(2, .int (0 : Int32)), (0, .ref (a 0)), (1, .int x1)]) hx hb dX5_alone_1 rfl hl (by decide) rfl (fun ls hl => ?_)
  exact w2 FU M x1 (0 : Int32) _ _ ls h hP hD hS (lv_sub hl [1, 2, 0] rfl)
theorem dX5_placeOf_0 : decode cX5_placeOf 0 = .ok (.aload_n 0, 1) := by decide +kernel
theorem dX5_placeOf_1 : decode cX5_placeOf 1 = .ok (.iload_n 1, 1) := by decide +kernel
theorem dX5_placeOf_2 : decode cX5_placeOf 2 = .ok (.invokevirtual 83, 3) := by decide +kernel
theorem dX5_placeOf_5 : decode cX5_placeOf 5 = .ok (.ifCond .eq 12, 3) := by decide +kernel
theorem dX5_placeOf_8 : decode cX5_placeOf 8 = .ok (.iload_n 2, 1) := by decide +kernel
theorem dX5_placeOf_9 : decode cX5_placeOf 9 = .ok (.iconst 0, 1) := by decide +kernel
theorem dX5_placeOf_10 : decode cX5_placeOf 10 = .ok (.iconst 4, 1) := by decide +kernel
theorem dX5_placeOf_11 : decode cX5_placeOf 11 = .ok (.invokestatic 63, 3) := by decide +kernel
theorem dX5_placeOf_14 : decode cX5_placeOf 14 = .ok (.ifCond .ne 6, 3) := by decide +kernel
theorem dX5_placeOf_17 : decode cX5_placeOf 17 = .ok (.ldc 67, 2) := by decide +kernel
theorem dX5_placeOf_19 : decode cX5_placeOf 19 = .ok (.ireturn, 1) := by decide +kernel
theorem dX5_placeOf_20 : decode cX5_placeOf 20 = .ok (.iload_n 2, 1) := by decide +kernel
theorem dX5_placeOf_21 : decode cX5_placeOf 21 = .ok (.tableswitch 58 0 3 #[31, 31, 44, 51], 31) := by decide +kernel
theorem dX5_placeOf_52 : decode cX5_placeOf 52 = .ok (.aload_n 0, 1) := by decide +kernel
theorem dX5_placeOf_53 : decode cX5_placeOf 53 = .ok (.getfield 7, 3) := by decide +kernel
theorem dX5_placeOf_56 : decode cX5_placeOf 56 = .ok (.iconst 2, 1) := by decide +kernel
theorem dX5_placeOf_57 : decode cX5_placeOf 57 = .ok (.iconst 2, 1) := by decide +kernel
theorem dX5_placeOf_58 : decode cX5_placeOf 58 = .ok (.iload_n 1, 1) := by decide +kernel
theorem dX5_placeOf_59 : decode cX5_placeOf 59 = .ok (.imul, 1) := by decide +kernel
theorem dX5_placeOf_60 : decode cX5_placeOf 60 = .ok (.iadd, 1) := by decide +kernel
theorem dX5_placeOf_61 : decode cX5_placeOf 61 = .ok (.iload_n 2, 1) := by decide +kernel
theorem dX5_placeOf_62 : decode cX5_placeOf 62 = .ok (.iadd, 1) := by decide +kernel
theorem dX5_placeOf_63 : decode cX5_placeOf 63 = .ok (.iaload, 1) := by decide +kernel
theorem dX5_placeOf_64 : decode cX5_placeOf 64 = .ok (.ireturn, 1) := by decide +kernel
theorem dX5_placeOf_65 : decode cX5_placeOf 65 = .ok (.aload_n 0, 1) := by decide +kernel
theorem dX5_placeOf_66 : decode cX5_placeOf 66 = .ok (.iload_n 1, 1) := by decide +kernel
theorem dX5_placeOf_67 : decode cX5_placeOf 67 = .ok (.iconst 0, 1) := by decide +kernel
theorem dX5_placeOf_68 : decode cX5_placeOf 68 = .ok (.invokevirtual 105, 3) := by decide +kernel
theorem dX5_placeOf_71 : decode cX5_placeOf 71 = .ok (.ireturn, 1) := by decide +kernel
theorem dX5_placeOf_72 : decode cX5_placeOf 72 = .ok (.aload_n 0, 1) := by decide +kernel
theorem dX5_placeOf_73 : decode cX5_placeOf 73 = .ok (.iload_n 1, 1) := by decide +kernel
theorem dX5_placeOf_74 : decode cX5_placeOf 74 = .ok (.iconst 1, 1) := by decide +kernel
theorem dX5_placeOf_75 : decode cX5_placeOf 75 = .ok (.invokevirtual 105, 3) := by decide +kernel
theorem dX5_placeOf_78 : decode cX5_placeOf 78 = .ok (.ireturn, 1) := by decide +kernel
theorem dX5_placeOf_79 : decode cX5_placeOf 79 = .ok (.aload_n 0, 1) := by decide +kernel
theorem dX5_placeOf_80 : decode cX5_placeOf 80 = .ok (.iload_n 1, 1) := by decide +kernel
theorem dX5_placeOf_81 : decode cX5_placeOf 81 = .ok (.invokevirtual 108, 3) := by decide +kernel
theorem dX5_placeOf_84 : decode cX5_placeOf 84 = .ok (.ireturn, 1) := by decide +kernel
set_option maxHeartbeats 4000000 in
set_option maxRecDepth 100000 in
theorem c_X5_placeOf (l : Launch) (D : va_G) (cI cC cO : ClassId) (a : Nat → Nat) (M : Mm) (x1 x2 : Int32) (res : Int32 × Mm) (sz : Nat) (h : F_X5_placeOf M x1 x2 = some res) : Met l yX5_placeOf (Cond.code yX5_placeOf cX5_placeOf 3 (Option.some Jvm.ClassFile.FieldType.int) :: lw_g) ({ frames := 2, cells := 0, slots := 0, locals := 47 } : Room) (va_Pc [.ref (a 0), .int x1, .int x2] (pS D cI cC cO sz (wX5 a cI cC cO M))) (QI D cI cC cO (va_A (wX5 a cI cC cO M) sz) (wX5 a cI cC cO res.2) res.1) 0 0 (va_A (wX5 a cI cC cO M) sz) := by
  refine Met.ofW (cc := cX5_placeOf) (maxL := 3) (ret := (Option.some Jvm.ClassFile.FieldType.int)) (by decide) rfl ?_
  intro p e s m args below meth c s₁ B hml hv
  obtain ⟨rfl, rfl, hP, hK, hD0, hN⟩ := hv
  have hx := B.exec
  have hb := B.bytes
  have hr := B.returns
  have ht : ∀ w ∈ lw_g, w.before ([.ref (a 0), .int x1, .int x2] : List Value).toArray s = true := fun w hw => atoms_spec (ws := Cond.code yX5_placeOf cX5_placeOf 3 (Option.some Jvm.ClassFile.FieldType.int) :: lw_g) B.pre w (List.mem_cons_of_mem _ hw)
  have hown : s.vm.findClass RX5 = some m.cls := findClass_of_methodNamed B.named
  have hlocks := B.notSynchronized
  have hD := hD0.self (sz := s.heap.size)
  generalize hAe : va_A (wX5 a cI cC cO M) s.heap.size = A at hD ⊢
  have hA : ∀ q : Nat, s.heap.size ≤ q → A q := fun q hq => by rw [← hAe]; exact Or.inr hq
  have hS : va_S A s.heap s.heap [] := va_S.rf
  have hl := lv_entry ([.ref (a 0), .int x1, .int x2]) (n := 3) (Nat.le_of_ble_eq_true rfl)
  rw [lg_entry_eq]
  generalize (lg_sl ([.ref (a 0), .int x1, .int x2]) ++ List.replicate (3 - (lg_sl ([.ref (a 0), .int x1, .int x2])).length) Slot.unset).toArray = ls at hl ⊢
  have hl : lv_has ls 3 [(0, .ref (a 0)), (1, .int x1), (2, .int x2)] := hl
  have w52 : ∀ (M : Mm) (y1 y2 : Int32) (H : Heap) (locs : List Loc) (ls : Array Slot), F_X5_placeOf_52 M y1 y2 = some res → va_P D classes (wX5 a cI cC cO M) H → va_D A (wX5 a cI cC cO M) → va_S A s.heap H locs → lv_has ls 3 [(0, .ref (a 0)), (1, .int y1), (2, .int y2)] → W p l e ({ frames := 2, cells := 0, slots := 0, locals := 47 } : Room) s m ([.ref (a 0), .int x1, .int x2] : List Value).toArray below meth c H locs 0 0 (MQ below (QI D cI cC cO A (wX5 a cI cC cO res.2) res.1) ([.ref (a 0), .int x1, .int x2] : List Value).toArray s 0 0 A) (F0 m 52 ls []) := by
    intro M y1 y2 H locs ls h hP hD hS hl
    unfold F_X5_placeOf_52 at h
    refine lv_aload_n hx hb dX5_placeOf_52 rfl (lv_at hl 0 rfl) ?_
    refine va_get (D := D) (ci := 5) (v := .ref (a 1)) (C := RX5) (T := TX5) (N := 23) hx hb ht i_X5 hown hK hP 0 rfl rfl 0 (by decide) (ht _ wd_536) (fun _ h9 => h9) rfl dX5_placeOf_53 ?_
    refine lv_iconst (v := (2 : Int32)) hx hb dX5_placeOf_56 (by decide) ?_
    refine lv_iconst (v := (2 : Int32)) hx hb dX5_placeOf_57 (by decide) ?_
    refine lv_iload_n hx hb dX5_placeOf_58 rfl (lv_at hl 1 rfl) ?_
    refine lv_imul hx hb dX5_placeOf_59 ?_
    refine lv_iadd hx hb dX5_placeOf_60 ?_
    refine lv_iload_n hx hb dX5_placeOf_61 rfl (lv_at hl 2 rfl) ?_
    refine lv_iadd hx hb dX5_placeOf_62 ?_
    obtain ⟨i1, h⟩ := ck_ok h
    refine va_iald hx hb hK hP 1 0 rfl rfl i1 dX5_placeOf_63 ?_
    cases h
    exact rt_i hx hb hr hlocks hS hP hK hD dX5_placeOf_64
  unfold F_X5_placeOf at h
  refine lv_aload_n hx hb dX5_placeOf_0 rfl (lv_at hl 0 rfl) ?_
  refine lv_iload_n hx hb dX5_placeOf_1 rfl (lv_at hl 1 rfl) ?_
  obtain ⟨u1, e2, h⟩ := b1_ok h
  refine cl_Vi (ws' := (wX5 a cI cC cO M)) ⟨hx, hb, hml, hown, ht⟩ (c_X5_isPlace l D cI cC cO a M x1 _ _ e2) (cwv 1 ht wd_634 wd_6 wd_631 wd_633 ws_23 (by decide +kernel) rfl rfl ⟨Nat.le_of_ble_eq_true rfl, Nat.le_of_ble_eq_true rfl⟩) 5 0 rfl rfl rfl hK hP hD hS hA hN [0, 1, 2, 3, 4, 5, 6, 7, 8, 9, 10, 11, 12] [] [0, 1, 2, 3, 4, 5, 6, 7, 8, 9, 10, 11, 12] (by decide) rfl rfl (by decide) (by decide) rfl (by decide) rfl hl.1 rfl (Nat.le_of_ble_eq_true rfl) dX5_placeOf_2 ⟨Nat.le_of_ble_eq_true rfl, Nat.le_of_ble_eq_true rfl⟩ (fun H locs hP hD hS => ?_)
  refine lv_if_eq (tgt := 17) hx hb dX5_placeOf_5 (by decide) (fun c3 => ?_) (fun c3 => ?_)
  · replace h := fp c3 h
    refine lv_ldc hx hb hown (ht _ wd_613) dX5_placeOf_17 ?_
    cases h
    exact rt_i hx hb hr hlocks hS hP hK hD dX5_placeOf_19
  · replace h := fn c3 h
    refine lv_iload_n hx hb dX5_placeOf_8 rfl (lv_at hl 2 rfl) ?_
    refine lv_iconst (v := (0 : Int32)) hx hb dX5_placeOf_9 (by decide) ?_
    refine lv_iconst (v := (4 : Int32)) hx hb dX5_placeOf_10 (by decide) ?_
    obtain ⟨u4, e5, h⟩ := b1_ok h
    refine cl_Si (ws' := (wX5 a cI cC cO M)) ⟨hx, hb, hml, hown, ht⟩ (c_X5_in l D cI cC cO x2 (0 : Int32) (4 : Int32) _ _ e5) (cwst 3 ht wd_612 wd_6 wd_610 wd_611 (by decide +kernel) rfl rfl ⟨Nat.le_of_ble_eq_true rfl, Nat.le_of_ble_eq_true rfl⟩) hK hP hD hS hA hN [] [0, 1, 2, 3, 4, 5, 6, 7, 8, 9, 10, 11, 12] [0, 1, 2, 3, 4, 5, 6, 7, 8, 9, 10, 11, 12] (by decide) rfl rfl (by decide) (by decide) rfl (by decide) rfl hl.1 rfl (Nat.le_of_ble_eq_true rfl) dX5_placeOf_11 ⟨Nat.le_of_ble_eq_true rfl, Nat.le_of_ble_eq_true rfl⟩ (fun H locs hP hD hS => ?_)
    refine lv_if_ne (tgt := 20) hx hb dX5_placeOf_14 (by decide) (fun c6 => ?_) (fun c6 => ?_)
    · replace h := fn c6 h
      refine lv_iload_n hx hb dX5_placeOf_20 rfl (lv_at hl 2 rfl) ?_
      by_cases c7 : x2 = (0 : Int32)
      · replace h := fp c7 h
        refine lv_tableIn (off := 31) (tgt := 52) hx hb dX5_placeOf_21 (by rw [c7]; decide) (by rw [c7]; decide) (by rw [c7]; rfl) (by decide) ?_
        exact w52 M x1 x2 _ _ ls h hP hD hS (lv_sub hl [0, 1, 2] rfl)
      · replace h := fn c7 h
        by_cases c8 : x2 = (1 : Int32)
        · replace h := fp c8 h
          refine lv_tableIn (off := 31) (tgt := 52) hx hb dX5_placeOf_21 (by rw [c8]; decide) (by rw [c8]; decide) (by rw [c8]; rfl) (by decide) ?_
          exact w52 M x1 x2 _ _ ls h hP hD hS (lv_sub hl [0, 1, 2] rfl)
        · replace h := fn c8 h
          by_cases c9 : x2 = (2 : Int32)
          · replace h := fp c9 h
            refine lv_tableIn (off := 44) (tgt := 65) hx hb dX5_placeOf_21 (by rw [c9]; decide) (by rw [c9]; decide) (by rw [c9]; rfl) (by decide) ?_
            refine lv_aload_n hx hb dX5_placeOf_65 rfl (lv_at hl 0 rfl) ?_
            refine lv_iload_n hx hb dX5_placeOf_66 rfl (lv_at hl 1 rfl) ?_
            refine lv_iconst (v := (0 : Int32)) hx hb dX5_placeOf_67 (by decide) ?_
            obtain ⟨u10, e11, h⟩ := b1_ok h
            refine cl_Vi (ws' := (wX5 a cI cC cO M)) ⟨hx, hb, hml, hown, ht⟩ (c_X5_pipesOf l D cI cC cO a M x1 (0 : Int32) _ _ e11) (cwv 2 ht wd_686 wd_6 wd_683 wd_685 ws_29 (by decide +kernel) rfl rfl ⟨Nat.le_of_ble_eq_true rfl, Nat.le_of_ble_eq_true rfl⟩) 5 0 rfl rfl rfl hK hP hD hS hA hN [0, 1, 2, 3, 4, 5, 6, 7, 8, 9, 10, 11, 12] [] [0, 1, 2, 3, 4, 5, 6, 7, 8, 9, 10, 11, 12] (by decide) rfl rfl (by decide) (by decide) rfl (by decide) rfl hl.1 rfl (Nat.le_of_ble_eq_true rfl) dX5_placeOf_68 ⟨Nat.le_of_ble_eq_true rfl, Nat.le_of_ble_eq_true rfl⟩ (fun H locs hP hD hS => ?_)
            cases h
            exact rt_i hx hb hr hlocks hS hP hK hD dX5_placeOf_71
          · replace h := fn c9 h
            by_cases c12 : x2 = (3 : Int32)
            · replace h := fp c12 h
              refine lv_tableIn (off := 51) (tgt := 72) hx hb dX5_placeOf_21 (by rw [c12]; decide) (by rw [c12]; decide) (by rw [c12]; rfl) (by decide) ?_
              refine lv_aload_n hx hb dX5_placeOf_72 rfl (lv_at hl 0 rfl) ?_
              refine lv_iload_n hx hb dX5_placeOf_73 rfl (lv_at hl 1 rfl) ?_
              refine lv_iconst (v := (1 : Int32)) hx hb dX5_placeOf_74 (by decide) ?_
              obtain ⟨u13, e14, h⟩ := b1_ok h
              refine cl_Vi (ws' := (wX5 a cI cC cO M)) ⟨hx, hb, hml, hown, ht⟩ (c_X5_pipesOf l D cI cC cO a M x1 (1 : Int32) _ _ e14) (cwv 2 ht wd_686 wd_6 wd_683 wd_685 ws_29 (by decide +kernel) rfl rfl ⟨Nat.le_of_ble_eq_true rfl, Nat.le_of_ble_eq_true rfl⟩) 5 0 rfl rfl rfl hK hP hD hS hA hN [0, 1, 2, 3, 4, 5, 6, 7, 8, 9, 10, 11, 12] [] [0, 1, 2, 3, 4, 5, 6, 7, 8, 9, 10, 11, 12] (by decide) rfl rfl (by decide) (by decide) rfl (by decide) rfl hl.1 rfl (Nat.le_of_ble_eq_true rfl) dX5_placeOf_75 ⟨Nat.le_of_ble_eq_true rfl, Nat.le_of_ble_eq_true rfl⟩ (fun H locs hP hD hS => ?_)
              cases h
              exact rt_i hx hb hr hlocks hS hP hK hD dX5_placeOf_78
            · replace h := fn c12 h
              refine lv_tableOut (tgt := 79) hx hb dX5_placeOf_21 (sw_out (x := x2) (n := 4) (by decide) (fun k hk => match k, hk with | 0, _ => c7 | 1, _ => c8 | 2, _ => c9 | 3, _ => c12 | k + 4, hk => absurd hk (by omega))) (by decide) ?_
              refine lv_aload_n hx hb dX5_placeOf_79 rfl (lv_at hl 0 rfl) ?_
              refine lv_iload_n hx hb dX5_placeOf_80 rfl (lv_at hl 1 rfl) ?_
              obtain ⟨u15, M16, e17, h⟩ := b2_ok h
              refine cl_Vi (ws' := (wX5 a cI cC cO M16)) ⟨hx, hb, hml, hown, ht⟩ (c_X5_alone l D cI cC cO a M x1 _ _ e17) (cwv 1 ht wd_690 wd_6 wd_687 wd_689 ws_30 (by decide +kernel) rfl rfl ⟨Nat.le_of_ble_eq_true rfl, Nat.le_of_ble_eq_true rfl⟩) 5 0 rfl rfl rfl hK hP hD hS hA hN [0, 1, 2, 3, 4, 5, 6, 7, 8, 9, 10, 11, 12] [] [0, 1, 2, 3, 4, 5, 6, 7, 8, 9, 10, 11, 12] (by decide) rfl rfl (by decide) (by decide) rfl (by decide) rfl hl.1 rfl (Nat.le_of_ble_eq_true rfl) dX5_placeOf_81 ⟨Nat.le_of_ble_eq_true rfl, Nat.le_of_ble_eq_true rfl⟩ (fun H locs hP hD hS => ?_)
              cases h
              exact rt_i hx hb hr hlocks hS hP hK hD dX5_placeOf_84
    · replace h := fp c6 h
      refine lv_ldc hx hb hown (ht _ wd_613) dX5_placeOf_17 ?_
      cases h
      exact rt_i hx hb hr hlocks hS hP hK hD dX5_placeOf_19
theorem dX5_unitsOf_0 : decode cX5_unitsOf 0 = .ok (.aload_n 0, 1) := by decide +kernel
theorem dX5_unitsOf_1 : decode cX5_unitsOf 1 = .ok (.getfield 60, 3) := by decide +kernel
theorem dX5_unitsOf_4 : decode cX5_unitsOf 4 = .ok (.ifCond .lt 18, 3) := by decide +kernel
theorem dX5_unitsOf_7 : decode cX5_unitsOf 7 = .ok (.iload_n 1, 1) := by decide +kernel
theorem dX5_unitsOf_8 : decode cX5_unitsOf 8 = .ok (.aload_n 0, 1) := by decide +kernel
theorem dX5_unitsOf_9 : decode cX5_unitsOf 9 = .ok (.getfield 60, 3) := by decide +kernel
theorem dX5_unitsOf_12 : decode cX5_unitsOf 12 = .ok (.if_icmp .ne 8, 3) := by decide +kernel
theorem dX5_unitsOf_15 : decode cX5_unitsOf 15 = .ok (.ldc 111, 2) := by decide +kernel
theorem dX5_unitsOf_17 : decode cX5_unitsOf 17 = .ok (.goto 4, 3) := by decide +kernel
theorem dX5_unitsOf_20 : decode cX5_unitsOf 20 = .ok (.iconst 0, 1) := by decide +kernel
theorem dX5_unitsOf_21 : decode cX5_unitsOf 21 = .ok (.ireturn, 1) := by decide +kernel
theorem dX5_unitsOf_22 : decode cX5_unitsOf 22 = .ok (.aload_n 0, 1) := by decide +kernel
theorem dX5_unitsOf_23 : decode cX5_unitsOf 23 = .ok (.getfield 7, 3) := by decide +kernel
theorem dX5_unitsOf_26 : decode cX5_unitsOf 26 = .ok (.iconst 2, 1) := by decide +kernel
theorem dX5_unitsOf_27 : decode cX5_unitsOf 27 = .ok (.iconst 2, 1) := by decide +kernel
theorem dX5_unitsOf_28 : decode cX5_unitsOf 28 = .ok (.iload_n 1, 1) := by decide +kernel
theorem dX5_unitsOf_29 : decode cX5_unitsOf 29 = .ok (.imul, 1) := by decide +kernel
theorem dX5_unitsOf_30 : decode cX5_unitsOf 30 = .ok (.iadd, 1) := by decide +kernel
theorem dX5_unitsOf_31 : decode cX5_unitsOf 31 = .ok (.iaload, 1) := by decide +kernel
theorem dX5_unitsOf_32 : decode cX5_unitsOf 32 = .ok (.iload_n 1, 1) := by decide +kernel
theorem dX5_unitsOf_33 : decode cX5_unitsOf 33 = .ok (.aload_n 0, 1) := by decide +kernel
theorem dX5_unitsOf_34 : decode cX5_unitsOf 34 = .ok (.getfield 57, 3) := by decide +kernel
theorem dX5_unitsOf_37 : decode cX5_unitsOf 37 = .ok (.if_icmp .ne 7, 3) := by decide +kernel
theorem dX5_unitsOf_40 : decode cX5_unitsOf 40 = .ok (.iconst 1, 1) := by decide +kernel
theorem dX5_unitsOf_41 : decode cX5_unitsOf 41 = .ok (.goto 4, 3) := by decide +kernel
theorem dX5_unitsOf_44 : decode cX5_unitsOf 44 = .ok (.iconst 0, 1) := by decide +kernel
theorem dX5_unitsOf_45 : decode cX5_unitsOf 45 = .ok (.iadd, 1) := by decide +kernel
theorem dX5_unitsOf_46 : decode cX5_unitsOf 46 = .ok (.ireturn, 1) := by decide +kernel
set_option maxHeartbeats 4000000 in
set_option maxRecDepth 100000 in
theorem c_X5_unitsOf (l : Launch) (D : va_G) (cI cC cO : ClassId) (a : Nat → Nat) (M : Mm) (x1 : Int32) (res : Int32) (sz : Nat) (h : F_X5_unitsOf M x1 = some res) : Met l yX5_unitsOf (Cond.code yX5_unitsOf cX5_unitsOf 2 (Option.some Jvm.ClassFile.FieldType.int) :: lw_g) ({ frames := 0, cells := 0, slots := 0, locals := 0 } : Room) (va_Pc [.ref (a 0), .int x1] (pS D cI cC cO sz (wX5 a cI cC cO M))) (QI D cI cC cO (va_A (wX5 a cI cC cO M) sz) (wX5 a cI cC cO M) res) 0 0 (va_A (wX5 a cI cC cO M) sz) := by
  refine Met.ofW (cc := cX5_unitsOf) (maxL := 2) (ret := (Option.some Jvm.ClassFile.FieldType.int)) (by decide) rfl ?_
  intro p e s m args below meth c s₁ B hml hv
  obtain ⟨rfl, rfl, hP, hK, hD0, hN⟩ := hv
  have hx := B.exec
  have hb := B.bytes
  have hr := B.returns
  have ht : ∀ w ∈ lw_g, w.before ([.ref (a 0), .int x1] : List Value).toArray s = true := fun w hw => atoms_spec (ws := Cond.code yX5_unitsOf cX5_unitsOf 2 (Option.some Jvm.ClassFile.FieldType.int) :: lw_g) B.pre w (List.mem_cons_of_mem _ hw)
  have hown : s.vm.findClass RX5 = some m.cls := findClass_of_methodNamed B.named
  have hlocks := B.notSynchronized
  have hD := hD0.self (sz := s.heap.size)
  generalize hAe : va_A (wX5 a cI cC cO M) s.heap.size = A at hD ⊢
  have hA : ∀ q : Nat, s.heap.size ≤ q → A q := fun q hq => by rw [← hAe]; exact Or.inr hq
  have hS : va_S A s.heap s.heap [] := va_S.rf
  have hl := lv_entry ([.ref (a 0), .int x1]) (n := 2) (Nat.le_of_ble_eq_true rfl)
  rw [lg_entry_eq]
  generalize (lg_sl ([.ref (a 0), .int x1]) ++ List.replicate (2 - (lg_sl ([.ref (a 0), .int x1])).length) Slot.unset).toArray = ls at hl ⊢
  have hl : lv_has ls 2 [(0, .ref (a 0)), (1, .int x1)] := hl
  unfold F_X5_unitsOf at h
  refine lv_aload_n hx hb dX5_unitsOf_0 rfl (lv_at hl 0 rfl) ?_
  refine va_get (D := D) (ci := 5) (v := .int (M 12 10)) (C := RX5) (T := TX5) (N := 23) hx hb ht i_X5 hown hK hP 0 rfl rfl 22 (by decide) (ht _ wd_558) (fun _ h9 => h9) rfl dX5_unitsOf_1 ?_
  refine lv_if_lt (tgt := 22) hx hb dX5_unitsOf_4 (by decide) (fun c1 => ?_) (fun c1 => ?_)
  · replace h := fp c1 h
    refine lv_aload_n hx hb dX5_unitsOf_22 rfl (lv_at hl 0 rfl) ?_
    refine va_get (D := D) (ci := 5) (v := .ref (a 1)) (C := RX5) (T := TX5) (N := 23) hx hb ht i_X5 hown hK hP 0 rfl rfl 0 (by decide) (ht _ wd_536) (fun _ h9 => h9) rfl dX5_unitsOf_23 ?_
    refine lv_iconst (v := (2 : Int32)) hx hb dX5_unitsOf_26 (by decide) ?_
    refine lv_iconst (v := (2 : Int32)) hx hb dX5_unitsOf_27 (by decide) ?_
    refine lv_iload_n hx hb dX5_unitsOf_28 rfl (lv_at hl 1 rfl) ?_
    refine lv_imul hx hb dX5_unitsOf_29 ?_
    refine lv_iadd hx hb dX5_unitsOf_30 ?_
    obtain ⟨i2, h⟩ := ck_ok h
    refine va_iald hx hb hK hP 1 0 rfl rfl i2 dX5_unitsOf_31 ?_
    refine lv_iload_n hx hb dX5_unitsOf_32 rfl (lv_at hl 1 rfl) ?_
    refine lv_aload_n hx hb dX5_unitsOf_33 rfl (lv_at hl 0 rfl) ?_
    refine va_get (D := D) (ci := 5) (v := .int (M 12 9)) (C := RX5) (T := TX5) (N := 23) hx hb ht i_X5 hown hK hP 0 rfl rfl 21 (by decide) (ht _ wd_557) (fun _ h9 => h9) rfl dX5_unitsOf_34 ?_
    refine lv_icmp_ne (tgt := 44) hx hb dX5_unitsOf_37 (by decide) (fun c3 => ?_) (fun c3 => ?_)
    · replace h := fn c3 h
      refine lv_iconst (v := (0 : Int32)) hx hb dX5_unitsOf_44 (by decide) ?_
      refine lv_iadd hx hb dX5_unitsOf_45 ?_
      cases h
      exact rt_i hx hb hr hlocks hS hP hK hD dX5_unitsOf_46
    · replace h := fp c3 h
      refine lv_iconst (v := (1 : Int32)) hx hb dX5_unitsOf_40 (by decide) ?_
      refine lv_goto (tgt := 45) hx hb dX5_unitsOf_41 (by decide) ?_
      refine lv_iadd hx hb dX5_unitsOf_45 ?_
      cases h
      exact rt_i hx hb hr hlocks hS hP hK hD dX5_unitsOf_46
  · replace h := fn c1 h
    refine lv_iload_n hx hb dX5_unitsOf_7 rfl (lv_at hl 1 rfl) ?_
    refine lv_aload_n hx hb dX5_unitsOf_8 rfl (lv_at hl 0 rfl) ?_
    refine va_get (D := D) (ci := 5) (v := .int (M 12 10)) (C := RX5) (T := TX5) (N := 23) hx hb ht i_X5 hown hK hP 0 rfl rfl 22 (by decide) (ht _ wd_558) (fun _ h9 => h9) rfl dX5_unitsOf_9 ?_
    refine lv_icmp_ne (tgt := 20) hx hb dX5_unitsOf_12 (by decide) (fun c4 => ?_) (fun c4 => ?_)
    · replace h := fn c4 h
      refine lv_iconst (v := (0 : Int32)) hx hb dX5_unitsOf_20 (by decide) ?_
      cases h
      exact rt_i hx hb hr hlocks hS hP hK hD dX5_unitsOf_21
    · replace h := fp c4 h
      refine lv_ldc hx hb hown (ht _ wd_708) dX5_unitsOf_15 ?_
      refine lv_goto (tgt := 21) hx hb dX5_unitsOf_17 (by decide) ?_
      cases h
      exact rt_i hx hb hr hlocks hS hP hK hD dX5_unitsOf_21
theorem dX5_roomOf_0 : decode cX5_roomOf 0 = .ok (.iload_n 1, 1) := by decide +kernel
theorem dX5_roomOf_1 : decode cX5_roomOf 1 = .ok (.ifCond .eq 11, 3) := by decide +kernel
theorem dX5_roomOf_4 : decode cX5_roomOf 4 = .ok (.iload_n 1, 1) := by decide +kernel
theorem dX5_roomOf_5 : decode cX5_roomOf 5 = .ok (.aload_n 0, 1) := by decide +kernel
theorem dX5_roomOf_6 : decode cX5_roomOf 6 = .ok (.getfield 60, 3) := by decide +kernel
theorem dX5_roomOf_9 : decode cX5_roomOf 9 = .ok (.if_icmp .ne 6, 3) := by decide +kernel
theorem dX5_roomOf_12 : decode cX5_roomOf 12 = .ok (.ldc 111, 2) := by decide +kernel
theorem dX5_roomOf_14 : decode cX5_roomOf 14 = .ok (.ireturn, 1) := by decide +kernel
theorem dX5_roomOf_15 : decode cX5_roomOf 15 = .ok (.aload_n 0, 1) := by decide +kernel
theorem dX5_roomOf_16 : decode cX5_roomOf 16 = .ok (.getfield 60, 3) := by decide +kernel
theorem dX5_roomOf_19 : decode cX5_roomOf 19 = .ok (.ifCond .lt 7, 3) := by decide +kernel
theorem dX5_roomOf_22 : decode cX5_roomOf 22 = .ok (.iconst 0, 1) := by decide +kernel
theorem dX5_roomOf_23 : decode cX5_roomOf 23 = .ok (.goto 15, 3) := by decide +kernel
theorem dX5_roomOf_26 : decode cX5_roomOf 26 = .ok (.aload_n 0, 1) := by decide +kernel
theorem dX5_roomOf_27 : decode cX5_roomOf 27 = .ok (.getfield 7, 3) := by decide +kernel
theorem dX5_roomOf_30 : decode cX5_roomOf 30 = .ok (.iconst 2, 1) := by decide +kernel
theorem dX5_roomOf_31 : decode cX5_roomOf 31 = .ok (.iconst 2, 1) := by decide +kernel
theorem dX5_roomOf_32 : decode cX5_roomOf 32 = .ok (.iload_n 1, 1) := by decide +kernel
theorem dX5_roomOf_33 : decode cX5_roomOf 33 = .ok (.imul, 1) := by decide +kernel
theorem dX5_roomOf_34 : decode cX5_roomOf 34 = .ok (.iadd, 1) := by decide +kernel
theorem dX5_roomOf_35 : decode cX5_roomOf 35 = .ok (.iconst 1, 1) := by decide +kernel
theorem dX5_roomOf_36 : decode cX5_roomOf 36 = .ok (.iadd, 1) := by decide +kernel
theorem dX5_roomOf_37 : decode cX5_roomOf 37 = .ok (.iaload, 1) := by decide +kernel
theorem dX5_roomOf_38 : decode cX5_roomOf 38 = .ok (.ireturn, 1) := by decide +kernel
set_option maxHeartbeats 4000000 in
set_option maxRecDepth 100000 in
theorem c_X5_roomOf (l : Launch) (D : va_G) (cI cC cO : ClassId) (a : Nat → Nat) (M : Mm) (x1 : Int32) (res : Int32) (sz : Nat) (h : F_X5_roomOf M x1 = some res) : Met l yX5_roomOf (Cond.code yX5_roomOf cX5_roomOf 2 (Option.some Jvm.ClassFile.FieldType.int) :: lw_g) ({ frames := 0, cells := 0, slots := 0, locals := 0 } : Room) (va_Pc [.ref (a 0), .int x1] (pS D cI cC cO sz (wX5 a cI cC cO M))) (QI D cI cC cO (va_A (wX5 a cI cC cO M) sz) (wX5 a cI cC cO M) res) 0 0 (va_A (wX5 a cI cC cO M) sz) := by
  refine Met.ofW (cc := cX5_roomOf) (maxL := 2) (ret := (Option.some Jvm.ClassFile.FieldType.int)) (by decide) rfl ?_
  intro p e s m args below meth c s₁ B hml hv
  obtain ⟨rfl, rfl, hP, hK, hD0, hN⟩ := hv
  have hx := B.exec
  have hb := B.bytes
  have hr := B.returns
  have ht : ∀ w ∈ lw_g, w.before ([.ref (a 0), .int x1] : List Value).toArray s = true := fun w hw => atoms_spec (ws := Cond.code yX5_roomOf cX5_roomOf 2 (Option.some Jvm.ClassFile.FieldType.int) :: lw_g) B.pre w (List.mem_cons_of_mem _ hw)
  have hown : s.vm.findClass RX5 = some m.cls := findClass_of_methodNamed B.named
  have hlocks := B.notSynchronized
  have hD := hD0.self (sz := s.heap.size)
  generalize hAe : va_A (wX5 a cI cC cO M) s.heap.size = A at hD ⊢
  have hA : ∀ q : Nat, s.heap.size ≤ q → A q := fun q hq => by rw [← hAe]; exact Or.inr hq
  have hS : va_S A s.heap s.heap [] := va_S.rf
  have hl := lv_entry ([.ref (a 0), .int x1]) (n := 2) (Nat.le_of_ble_eq_true rfl)
  rw [lg_entry_eq]
  generalize (lg_sl ([.ref (a 0), .int x1]) ++ List.replicate (2 - (lg_sl ([.ref (a 0), .int x1])).length) Slot.unset).toArray = ls at hl ⊢
  have hl : lv_has ls 2 [(0, .ref (a 0)), (1, .int x1)] := hl
  unfold F_X5_roomOf at h
  refine lv_iload_n hx hb dX5_roomOf_0 rfl (lv_at hl 1 rfl) ?_
  refine lv_if_eq (tgt := 12) hx hb dX5_roomOf_1 (by decide) (fun c1 => ?_) (fun c1 => ?_)
  · replace h := fp c1 h
    refine lv_ldc hx hb hown (ht _ wd_708) dX5_roomOf_12 ?_
    cases h
    exact rt_i hx hb hr hlocks hS hP hK hD dX5_roomOf_14
  · replace h := fn c1 h
    refine lv_iload_n hx hb dX5_roomOf_4 rfl (lv_at hl 1 rfl) ?_
    refine lv_aload_n hx hb dX5_roomOf_5 rfl (lv_at hl 0 rfl) ?_
    refine va_get (D := D) (ci := 5) (v := .int (M 12 10)) (C := RX5) (T := TX5) (N := 23) hx hb ht i_X5 hown hK hP 0 rfl rfl 22 (by decide) (ht _ wd_558) (fun _ h9 => h9) rfl dX5_roomOf_6 ?_
    refine lv_icmp_ne (tgt := 15) hx hb dX5_roomOf_9 (by decide) (fun c2 => ?_) (fun c2 => ?_)
    · replace h := fn c2 h
      refine lv_aload_n hx hb dX5_roomOf_15 rfl (lv_at hl 0 rfl) ?_
      refine va_get (D := D) (ci := 5) (v := .int (M 12 10)) (C := RX5) (T := TX5) (N := 23) hx hb ht i_X5 hown hK hP 0 rfl rfl 22 (by decide) (ht _ wd_558) (fun _ h9 => h9) rfl dX5_roomOf_16 ?_
      refine lv_if_lt (tgt := 26) hx hb dX5_roomOf_19 (by decide) (fun c3 => ?_) (fun c3 => ?_)
      · replace h := fp c3 h
        refine lv_aload_n hx hb dX5_roomOf_26 rfl (lv_at hl 0 rfl) ?_
        refine va_get (D := D) (ci := 5) (v := .ref (a 1)) (C := RX5) (T := TX5) (N := 23) hx hb ht i_X5 hown hK hP 0 rfl rfl 0 (by decide) (ht _ wd_536) (fun _ h9 => h9) rfl dX5_roomOf_27 ?_
        refine lv_iconst (v := (2 : Int32)) hx hb dX5_roomOf_30 (by decide) ?_
        refine lv_iconst (v := (2 : Int32)) hx hb dX5_roomOf_31 (by decide) ?_
        refine lv_iload_n hx hb dX5_roomOf_32 rfl (lv_at hl 1 rfl) ?_
        refine lv_imul hx hb dX5_roomOf_33 ?_
        refine lv_iadd hx hb dX5_roomOf_34 ?_
        refine lv_iconst (v := (1 : Int32)) hx hb dX5_roomOf_35 (by decide) ?_
        refine lv_iadd hx hb dX5_roomOf_36 ?_
        obtain ⟨i4, h⟩ := ck_ok h
        refine va_iald hx hb hK hP 1 0 rfl rfl i4 dX5_roomOf_37 ?_
        cases h
        exact rt_i hx hb hr hlocks hS hP hK hD dX5_roomOf_38
      · replace h := fn c3 h
        refine lv_iconst (v := (0 : Int32)) hx hb dX5_roomOf_22 (by decide) ?_
        refine lv_goto (tgt := 38) hx hb dX5_roomOf_23 (by decide) ?_
        cases h
        exact rt_i hx hb hr hlocks hS hP hK hD dX5_roomOf_38
    · replace h := fp c2 h
      refine lv_ldc hx hb hown (ht _ wd_708) dX5_roomOf_12 ?_
      cases h
      exact rt_i hx hb hr hlocks hS hP hK hD dX5_roomOf_14
end
section
theorem dX5_isOpen_0 : decode cX5_isOpen 0 = .ok (.aload_n 0, 1) := by decide +kernel
theorem dX5_isOpen_1 : decode cX5_isOpen 1 = .ok (.getfield 60, 3) := by decide +kernel
theorem dX5_isOpen_4 : decode cX5_isOpen 4 = .ok (.ifCond .ge 22, 3) := by decide +kernel
theorem dX5_isOpen_7 : decode cX5_isOpen 7 = .ok (.iload_n 2, 1) := by decide +kernel
theorem dX5_isOpen_8 : decode cX5_isOpen 8 = .ok (.aload_n 0, 1) := by decide +kernel
theorem dX5_isOpen_9 : decode cX5_isOpen 9 = .ok (.iload_n 1, 1) := by decide +kernel
theorem dX5_isOpen_10 : decode cX5_isOpen 10 = .ok (.iconst 4, 1) := by decide +kernel
theorem dX5_isOpen_11 : decode cX5_isOpen 11 = .ok (.invokevirtual 101, 3) := by decide +kernel
theorem dX5_isOpen_14 : decode cX5_isOpen 14 = .ok (.aload_n 0, 1) := by decide +kernel
theorem dX5_isOpen_15 : decode cX5_isOpen 15 = .ok (.iload_n 1, 1) := by decide +kernel
theorem dX5_isOpen_16 : decode cX5_isOpen 16 = .ok (.iconst 5, 1) := by decide +kernel
theorem dX5_isOpen_17 : decode cX5_isOpen 17 = .ok (.invokevirtual 101, 3) := by decide +kernel
theorem dX5_isOpen_20 : decode cX5_isOpen 20 = .ok (.invokestatic 63, 3) := by decide +kernel
theorem dX5_isOpen_23 : decode cX5_isOpen 23 = .ok (.ifCond .eq 7, 3) := by decide +kernel
theorem dX5_isOpen_26 : decode cX5_isOpen 26 = .ok (.iconst 1, 1) := by decide +kernel
theorem dX5_isOpen_27 : decode cX5_isOpen 27 = .ok (.goto 4, 3) := by decide +kernel
theorem dX5_isOpen_30 : decode cX5_isOpen 30 = .ok (.iconst 0, 1) := by decide +kernel
theorem dX5_isOpen_31 : decode cX5_isOpen 31 = .ok (.istore_n 3, 1) := by decide +kernel
theorem dX5_isOpen_32 : decode cX5_isOpen 32 = .ok (.iload_n 3, 1) := by decide +kernel
theorem dX5_isOpen_33 : decode cX5_isOpen 33 = .ok (.ifCond .eq 30, 3) := by decide +kernel
theorem dX5_isOpen_36 : decode cX5_isOpen 36 = .ok (.iload_n 1, 1) := by decide +kernel
theorem dX5_isOpen_37 : decode cX5_isOpen 37 = .ok (.aload_n 0, 1) := by decide +kernel
theorem dX5_isOpen_38 : decode cX5_isOpen 38 = .ok (.getfield 50, 3) := by decide +kernel
theorem dX5_isOpen_41 : decode cX5_isOpen 41 = .ok (.if_icmp .eq 22, 3) := by decide +kernel
theorem dX5_isOpen_44 : decode cX5_isOpen 44 = .ok (.iload_n 2, 1) := by decide +kernel
theorem dX5_isOpen_45 : decode cX5_isOpen 45 = .ok (.aload_n 0, 1) := by decide +kernel
theorem dX5_isOpen_46 : decode cX5_isOpen 46 = .ok (.iload_n 1, 1) := by decide +kernel
theorem dX5_isOpen_47 : decode cX5_isOpen 47 = .ok (.iconst 2, 1) := by decide +kernel
theorem dX5_isOpen_48 : decode cX5_isOpen 48 = .ok (.invokevirtual 101, 3) := by decide +kernel
theorem dX5_isOpen_51 : decode cX5_isOpen 51 = .ok (.iadd, 1) := by decide +kernel
theorem dX5_isOpen_52 : decode cX5_isOpen 52 = .ok (.aload_n 0, 1) := by decide +kernel
theorem dX5_isOpen_53 : decode cX5_isOpen 53 = .ok (.getfield 112, 3) := by decide +kernel
theorem dX5_isOpen_56 : decode cX5_isOpen 56 = .ok (.if_icmp .gt 7, 3) := by decide +kernel
theorem dX5_isOpen_59 : decode cX5_isOpen 59 = .ok (.iconst 1, 1) := by decide +kernel
theorem dX5_isOpen_60 : decode cX5_isOpen 60 = .ok (.goto 4, 3) := by decide +kernel
theorem dX5_isOpen_63 : decode cX5_isOpen 63 = .ok (.iconst 0, 1) := by decide +kernel
theorem dX5_isOpen_64 : decode cX5_isOpen 64 = .ok (.ireturn, 1) := by decide +kernel
set_option maxHeartbeats 4000000 in
set_option maxRecDepth 100000 in
theorem c_X5_isOpen (l : Launch) (D : va_G) (cI cC cO : ClassId) (a : Nat → Nat) (M : Mm) (x1 x2 : Int32) (res : Int32) (sz : Nat) (h : F_X5_isOpen M x1 x2 = some res) : Met l yX5_isOpen (Cond.code yX5_isOpen cX5_isOpen 4 (Option.some Jvm.ClassFile.FieldType.boolean) :: lw_g) ({ frames := 1, cells := 0, slots := 0, locals := 22 } : Room) (va_Pc [.ref (a 0), .int x1, .int x2] (pS D cI cC cO sz (wX5 a cI cC cO M))) (QI D cI cC cO (va_A (wX5 a cI cC cO M) sz) (wX5 a cI cC cO M) res) 0 0 (va_A (wX5 a cI cC cO M) sz) := by
  refine Met.ofW (cc := cX5_isOpen) (maxL := 4) (ret := (Option.some Jvm.ClassFile.FieldType.boolean)) (by decide) rfl ?_
  intro p e s m args below meth c s₁ B hml hv
  obtain ⟨rfl, rfl, hP, hK, hD0, hN⟩ := hv
  have hx := B.exec
  have hb := B.bytes
  have hr := B.returns
  have ht : ∀ w ∈ lw_g, w.before ([.ref (a 0), .int x1, .int x2] : List Value).toArray s = true := fun w hw => atoms_spec (ws := Cond.code yX5_isOpen cX5_isOpen 4 (Option.some Jvm.ClassFile.FieldType.boolean) :: lw_g) B.pre w (List.mem_cons_of_mem _ hw)
  have hown : s.vm.findClass RX5 = some m.cls := findClass_of_methodNamed B.named
  have hlocks := B.notSynchronized
  have hD := hD0.self (sz := s.heap.size)
  generalize hAe : va_A (wX5 a cI cC cO M) s.heap.size = A at hD ⊢
  have hA : ∀ q : Nat, s.heap.size ≤ q → A q := fun q hq => by rw [← hAe]; exact Or.inr hq
  have hS : va_S A s.heap s.heap [] := va_S.rf
  have hl := lv_entry ([.ref (a 0), .int x1, .int x2]) (n := 4) (Nat.le_of_ble_eq_true rfl)
  rw [lg_entry_eq]
  generalize (lg_sl ([.ref (a 0), .int x1, .int x2]) ++ List.replicate (4 - (lg_sl ([.ref (a 0), .int x1, .int x2])).length) Slot.unset).toArray = ls at hl ⊢
  have hl : lv_has ls 4 [(0, .ref (a 0)), (1, .int x1), (2, .int x2)] := hl
  have w31 : ∀ (y1 y2 s0 : Int32) (H : Heap) (locs : List Loc) (ls : Array Slot), F_X5_isOpen_31 M y1 y2 s0 = some res → va_P D classes (wX5 a cI cC cO M) H → va_D A (wX5 a cI cC cO M) → va_S A s.heap H locs → lv_has ls 4 [(0, .ref (a 0)), (1, .int y1), (2, .int y2)] → W p l e ({ frames := 1, cells := 0, slots := 0, locals := 22 } : Room) s m ([.ref (a 0), .int x1, .int x2] : List Value).toArray below meth c H locs 0 0 (MQ below (QI D cI cC cO A (wX5 a cI cC cO M) res) ([.ref (a 0), .int x1, .int x2] : List Value).toArray s 0 0 A) (F0 m 31 ls [.int s0]) := by
    intro y1 y2 s0 H locs ls h hP hD hS hl
    unfold F_X5_isOpen_31 at h
    refine lv_istore_n (lv' := [(3, .int s0), (0, .ref (a 0)), (1, .int y1), (2, .int y2)]) hx hb dX5_isOpen_31 rfl hl (by decide) rfl (fun ls hl => ?_)
    refine lv_iload_n hx hb dX5_isOpen_32 rfl (lv_at hl 0 rfl) ?_
    refine lv_if_eq (tgt := 63) hx hb dX5_isOpen_33 (by decide) (fun c1 => ?_) (fun c1 => ?_)
    · replace h := fp c1 h
      refine lv_iconst (v := (0 : Int32)) hx hb dX5_isOpen_63 (by decide) ?_
      cases h
      exact rt_z (v := (0 : Int32)) hx hb hr rfl hlocks hS hP hK hD dX5_isOpen_64
    · replace h := fn c1 h
      refine lv_iload_n hx hb dX5_isOpen_36 rfl (lv_at hl 2 rfl) ?_
      refine lv_aload_n hx hb dX5_isOpen_37 rfl (lv_at hl 1 rfl) ?_
      refine va_get (D := D) (ci := 5) (v := .int (M 12 7)) (C := RX5) (T := TX5) (N := 23) hx hb ht i_X5 hown hK hP 0 rfl rfl 19 (by decide) (ht _ wd_555) (fun _ h9 => h9) rfl dX5_isOpen_38 ?_
      refine lv_icmp_eq (tgt := 63) hx hb dX5_isOpen_41 (by decide) (fun c2 => ?_) (fun c2 => ?_)
      · replace h := fp c2 h
        refine lv_iconst (v := (0 : Int32)) hx hb dX5_isOpen_63 (by decide) ?_
        cases h
        exact rt_z (v := (0 : Int32)) hx hb hr rfl hlocks hS hP hK hD dX5_isOpen_64
      · replace h := fn c2 h
        refine lv_iload_n hx hb dX5_isOpen_44 rfl (lv_at hl 3 rfl) ?_
        refine lv_aload_n hx hb dX5_isOpen_45 rfl (lv_at hl 1 rfl) ?_
        refine lv_iload_n hx hb dX5_isOpen_46 rfl (lv_at hl 2 rfl) ?_
        refine lv_iconst (v := (2 : Int32)) hx hb dX5_isOpen_47 (by decide) ?_
        obtain ⟨u3, e4, h⟩ := b1_ok h
        refine cl_Vi (ws' := (wX5 a cI cC cO M)) ⟨hx, hb, hml, hown, ht⟩ (c_X5_pi l D cI cC cO a M y1 (2 : Int32) _ _ e4) (cwv 2 ht wd_678 wd_6 wd_675 wd_677 ws_28 (by decide +kernel) rfl rfl ⟨Nat.le_of_ble_eq_true rfl, Nat.le_of_ble_eq_true rfl⟩) 5 0 rfl rfl rfl hK hP hD hS hA hN [0, 1, 2, 3, 4, 5, 6, 7, 8, 9, 10, 11, 12] [] [0, 1, 2, 3, 4, 5, 6, 7, 8, 9, 10, 11, 12] (by decide) rfl rfl (by decide) (by decide) rfl (by decide) rfl hl.1 rfl (Nat.le_of_ble_eq_true rfl) dX5_isOpen_48 ⟨Nat.le_of_ble_eq_true rfl, Nat.le_of_ble_eq_true rfl⟩ (fun H locs hP hD hS => ?_)
        refine lv_iadd hx hb dX5_isOpen_51 ?_
        refine lv_aload_n hx hb dX5_isOpen_52 rfl (lv_at hl 1 rfl) ?_
        refine va_get (D := D) (ci := 5) (v := .int (M 12 5)) (C := RX5) (T := TX5) (N := 23) hx hb ht i_X5 hown hK hP 0 rfl rfl 17 (by decide) (ht _ wd_553) (fun _ h9 => h9) rfl dX5_isOpen_53 ?_
        refine lv_icmp_gt (tgt := 63) hx hb dX5_isOpen_56 (by decide) (fun c5 => ?_) (fun c5 => ?_)
        · replace h := fp c5 h
          refine lv_iconst (v := (0 : Int32)) hx hb dX5_isOpen_63 (by decide) ?_
          cases h
          exact rt_z (v := (0 : Int32)) hx hb hr rfl hlocks hS hP hK hD dX5_isOpen_64
        · replace h := fn c5 h
          refine lv_iconst (v := (1 : Int32)) hx hb dX5_isOpen_59 (by decide) ?_
          refine lv_goto (tgt := 64) hx hb dX5_isOpen_60 (by decide) ?_
          cases h
          exact rt_z (v := (1 : Int32)) hx hb hr rfl hlocks hS hP hK hD dX5_isOpen_64
  have w26 : ∀ (y1 y2 : Int32) (H : Heap) (locs : List Loc) (ls : Array Slot), F_X5_isOpen_26 M y1 y2 = some res → va_P D classes (wX5 a cI cC cO M) H → va_D A (wX5 a cI cC cO M) → va_S A s.heap H locs → lv_has ls 4 [(0, .ref (a 0)), (1, .int y1), (2, .int y2)] → W p l e ({ frames := 1, cells := 0, slots := 0, locals := 22 } : Room) s m ([.ref (a 0), .int x1, .int x2] : List Value).toArray below meth c H locs 0 0 (MQ below (QI D cI cC cO A (wX5 a cI cC cO M) res) ([.ref (a 0), .int x1, .int x2] : List Value).toArray s 0 0 A) (F0 m 26 ls []) := by
    intro y1 y2 H locs ls h hP hD hS hl
    unfold F_X5_isOpen_26 at h
    refine lv_iconst (v := (1 : Int32)) hx hb dX5_isOpen_26 (by decide) ?_
    refine lv_goto (tgt := 31) hx hb dX5_isOpen_27 (by decide) ?_
    exact w31 y1 y2 (1 : Int32) _ _ ls h hP hD hS (lv_sub hl [0, 1, 2] rfl)
  unfold F_X5_isOpen at h
  refine lv_aload_n hx hb dX5_isOpen_0 rfl (lv_at hl 0 rfl) ?_
  refine va_get (D := D) (ci := 5) (v := .int (M 12 10)) (C := RX5) (T := TX5) (N := 23) hx hb ht i_X5 hown hK hP 0 rfl rfl 22 (by decide) (ht _ wd_558) (fun _ h9 => h9) rfl dX5_isOpen_1 ?_
  refine lv_if_ge (tgt := 26) hx hb dX5_isOpen_4 (by decide) (fun c1 => ?_) (fun c1 => ?_)
  · replace h := fp c1 h
    exact w26 x1 x2 _ _ ls h hP hD hS (lv_sub hl [0, 1, 2] rfl)
  · replace h := fn c1 h
    refine lv_iload_n hx hb dX5_isOpen_7 rfl (lv_at hl 2 rfl) ?_
    refine lv_aload_n hx hb dX5_isOpen_8 rfl (lv_at hl 0 rfl) ?_
    refine lv_iload_n hx hb dX5_isOpen_9 rfl (lv_at hl 1 rfl) ?_
    refine lv_iconst (v := (4 : Int32)) hx hb dX5_isOpen_10 (by decide) ?_
    obtain ⟨u2, e3, h⟩ := b1_ok h
    refine cl_Vi (ws' := (wX5 a cI cC cO M)) ⟨hx, hb, hml, hown, ht⟩ (c_X5_pi l D cI cC cO a M x1 (4 : Int32) _ _ e3) (cwv 2 ht wd_678 wd_6 wd_675 wd_677 ws_28 (by decide +kernel) rfl rfl ⟨Nat.le_of_ble_eq_true rfl, Nat.le_of_ble_eq_true rfl⟩) 5 0 rfl rfl rfl hK hP hD hS hA hN [0, 1, 2, 3, 4, 5, 6, 7, 8, 9, 10, 11, 12] [] [0, 1, 2, 3, 4, 5, 6, 7, 8, 9, 10, 11, 12] (by decide) rfl rfl (by decide) (by decide) rfl (by decide) rfl hl.1 rfl (Nat.le_of_ble_eq_true rfl) dX5_isOpen_11 ⟨Nat.le_of_ble_eq_true rfl, Nat.le_of_ble_eq_true rfl⟩ (fun H locs hP hD hS => ?_)
    refine lv_aload_n hx hb dX5_isOpen_14 rfl (lv_at hl 0 rfl) ?_
    refine lv_iload_n hx hb dX5_isOpen_15 rfl (lv_at hl 1 rfl) ?_
    refine lv_iconst (v := (5 : Int32)) hx hb dX5_isOpen_16 (by decide) ?_
    obtain ⟨u4, e5, h⟩ := b1_ok h
    refine cl_Vi (ws' := (wX5 a cI cC cO M)) ⟨hx, hb, hml, hown, ht⟩ (c_X5_pi l D cI cC cO a M x1 (5 : Int32) _ _ e5) (cwv 2 ht wd_678 wd_6 wd_675 wd_677 ws_28 (by decide +kernel) rfl rfl ⟨Nat.le_of_ble_eq_true rfl, Nat.le_of_ble_eq_true rfl⟩) 5 0 rfl rfl rfl hK hP hD hS hA hN [0, 1, 2, 3, 4, 5, 6, 7, 8, 9, 10, 11, 12] [] [0, 1, 2, 3, 4, 5, 6, 7, 8, 9, 10, 11, 12] (by decide) rfl rfl (by decide) (by decide) rfl (by decide) rfl hl.1 rfl (Nat.le_of_ble_eq_true rfl) dX5_isOpen_17 ⟨Nat.le_of_ble_eq_true rfl, Nat.le_of_ble_eq_true rfl⟩ (fun H locs hP hD hS => ?_)
    obtain ⟨u6, e7, h⟩ := b1_ok h
    refine cl_Si (ws' := (wX5 a cI cC cO M)) ⟨hx, hb, hml, hown, ht⟩ (c_X5_in l D cI cC cO x2 u2 u4 _ _ e7) (cwst 3 ht wd_612 wd_6 wd_610 wd_611 (by decide +kernel) rfl rfl ⟨Nat.le_of_ble_eq_true rfl, Nat.le_of_ble_eq_true rfl⟩) hK hP hD hS hA hN [] [0, 1, 2, 3, 4, 5, 6, 7, 8, 9, 10, 11, 12] [0, 1, 2, 3, 4, 5, 6, 7, 8, 9, 10, 11, 12] (by decide) rfl rfl (by decide) (by decide) rfl (by decide) rfl hl.1 rfl (Nat.le_of_ble_eq_true rfl) dX5_isOpen_20 ⟨Nat.le_of_ble_eq_true rfl, Nat.le_of_ble_eq_true rfl⟩ (fun H locs hP hD hS => ?_)
    refine lv_if_eq (tgt := 30) hx hb dX5_isOpen_23 (by decide) (fun c8 => ?_) (fun c8 => ?_)
    · replace h := fp c8 h
      refine lv_iconst (v := (0 : Int32)) hx hb dX5_isOpen_30 (by decide) ?_
      exact w31 x1 x2 (0 : Int32) _ _ ls h hP hD hS (lv_sub hl [0, 1, 2] rfl)
    · replace h := fn c8 h
      exact w26 x1 x2 _ _ ls h hP hD hS (lv_sub hl [0, 1, 2] rfl)
theorem dX5_reaches_0 : decode cX5_reaches 0 = .ok (.aload_n 0, 1) := by decide +kernel
theorem dX5_reaches_1 : decode cX5_reaches 1 = .ok (.getfield 38, 3) := by decide +kernel
theorem dX5_reaches_4 : decode cX5_reaches 4 = .ok (.iload_n 1, 1) := by decide +kernel
theorem dX5_reaches_5 : decode cX5_reaches 5 = .ok (.iaload, 1) := by decide +kernel
theorem dX5_reaches_6 : decode cX5_reaches 6 = .ok (.ifCond .ge 37, 3) := by decide +kernel
theorem dX5_reaches_9 : decode cX5_reaches 9 = .ok (.aload_n 0, 1) := by decide +kernel
theorem dX5_reaches_10 : decode cX5_reaches 10 = .ok (.getfield 38, 3) := by decide +kernel
theorem dX5_reaches_13 : decode cX5_reaches 13 = .ok (.iload_n 1, 1) := by decide +kernel
theorem dX5_reaches_14 : decode cX5_reaches 14 = .ok (.iload_n 2, 1) := by decide +kernel
theorem dX5_reaches_15 : decode cX5_reaches 15 = .ok (.iastore, 1) := by decide +kernel
theorem dX5_reaches_16 : decode cX5_reaches 16 = .ok (.aload_n 0, 1) := by decide +kernel
theorem dX5_reaches_17 : decode cX5_reaches 17 = .ok (.getfield 41, 3) := by decide +kernel
theorem dX5_reaches_20 : decode cX5_reaches 20 = .ok (.iload_n 1, 1) := by decide +kernel
theorem dX5_reaches_21 : decode cX5_reaches 21 = .ok (.iload_n 3, 1) := by decide +kernel
theorem dX5_reaches_22 : decode cX5_reaches 22 = .ok (.iastore, 1) := by decide +kernel
theorem dX5_reaches_23 : decode cX5_reaches 23 = .ok (.aload_n 0, 1) := by decide +kernel
theorem dX5_reaches_24 : decode cX5_reaches 24 = .ok (.getfield 44, 3) := by decide +kernel
theorem dX5_reaches_27 : decode cX5_reaches 27 = .ok (.aload_n 0, 1) := by decide +kernel
theorem dX5_reaches_28 : decode cX5_reaches 28 = .ok (.getfield 115, 3) := by decide +kernel
theorem dX5_reaches_31 : decode cX5_reaches 31 = .ok (.iload_n 1, 1) := by decide +kernel
theorem dX5_reaches_32 : decode cX5_reaches 32 = .ok (.iastore, 1) := by decide +kernel
theorem dX5_reaches_33 : decode cX5_reaches 33 = .ok (.aload_n 0, 1) := by decide +kernel
theorem dX5_reaches_34 : decode cX5_reaches 34 = .ok (.dup, 1) := by decide +kernel
theorem dX5_reaches_35 : decode cX5_reaches 35 = .ok (.getfield 115, 3) := by decide +kernel
theorem dX5_reaches_38 : decode cX5_reaches 38 = .ok (.iconst 1, 1) := by decide +kernel
theorem dX5_reaches_39 : decode cX5_reaches 39 = .ok (.iadd, 1) := by decide +kernel
theorem dX5_reaches_40 : decode cX5_reaches 40 = .ok (.putfield 115, 3) := by decide +kernel
theorem dX5_reaches_43 : decode cX5_reaches 43 = .ok (.return_, 1) := by decide +kernel
set_option maxHeartbeats 4000000 in
set_option maxRecDepth 100000 in
theorem c_X5_reaches (l : Launch) (D : va_G) (cI cC cO : ClassId) (a : Nat → Nat) (M : Mm) (x1 x2 x3 : Int32) (res : Mm) (sz : Nat) (h : F_X5_reaches M x1 x2 x3 = some res) : Met l yX5_reaches (Cond.code yX5_reaches cX5_reaches 4 (Option.none : Option Jvm.ClassFile.FieldType) :: lw_g) ({ frames := 0, cells := 0, slots := 0, locals := 0 } : Room) (va_Pc [.ref (a 0), .int x1, .int x2, .int x3] (pS D cI cC cO sz (wX5 a cI cC cO M))) (QV D cI cC cO (va_A (wX5 a cI cC cO M) sz) (wX5 a cI cC cO res)) 0 0 (va_A (wX5 a cI cC cO M) sz) := by
  refine Met.ofW (cc := cX5_reaches) (maxL := 4) (ret := (Option.none : Option Jvm.ClassFile.FieldType)) (by decide) rfl ?_
  intro p e s m args below meth c s₁ B hml hv
  obtain ⟨rfl, rfl, hP, hK, hD0, hN⟩ := hv
  have hx := B.exec
  have hb := B.bytes
  have hr := B.returns
  have ht : ∀ w ∈ lw_g, w.before ([.ref (a 0), .int x1, .int x2, .int x3] : List Value).toArray s = true := fun w hw => atoms_spec (ws := Cond.code yX5_reaches cX5_reaches 4 (Option.none : Option Jvm.ClassFile.FieldType) :: lw_g) B.pre w (List.mem_cons_of_mem _ hw)
  have hown : s.vm.findClass RX5 = some m.cls := findClass_of_methodNamed B.named
  have hlocks := B.notSynchronized
  have hD := hD0.self (sz := s.heap.size)
  generalize hAe : va_A (wX5 a cI cC cO M) s.heap.size = A at hD ⊢
  have hA : ∀ q : Nat, s.heap.size ≤ q → A q := fun q hq => by rw [← hAe]; exact Or.inr hq
  have hS : va_S A s.heap s.heap [] := va_S.rf
  have hl := lv_entry ([.ref (a 0), .int x1, .int x2, .int x3]) (n := 4) (Nat.le_of_ble_eq_true rfl)
  rw [lg_entry_eq]
  generalize (lg_sl ([.ref (a 0), .int x1, .int x2, .int x3]) ++ List.replicate (4 - (lg_sl ([.ref (a 0), .int x1, .int x2, .int x3])).length) Slot.unset).toArray = ls at hl ⊢
  have hl : lv_has ls 4 [(0, .ref (a 0)), (1, .int x1), (2, .int x2), (3, .int x3)] := hl
  unfold F_X5_reaches at h
  refine lv_aload_n hx hb dX5_reaches_0 rfl (lv_at hl 0 rfl) ?_
  refine va_get (D := D) (ci := 5) (v := .ref (a 10)) (C := RX5) (T := TX5) (N := 23) hx hb ht i_X5 hown hK hP 0 rfl rfl 14 (by decide) (ht _ wd_550) (fun _ h9 => h9) rfl dX5_reaches_1 ?_
  refine lv_iload_n hx hb dX5_reaches_4 rfl (lv_at hl 1 rfl) ?_
  obtain ⟨i1, h⟩ := ck_ok h
  refine va_iald hx hb hK hP 10 0 rfl rfl i1 dX5_reaches_5 ?_
  refine lv_if_ge (tgt := 43) hx hb dX5_reaches_6 (by decide) (fun c2 => ?_) (fun c2 => ?_)
  · replace h := fp c2 h
    cases h
    exact rt_v hx hb hr hlocks hS hP hK hD dX5_reaches_43
  · replace h := fn c2 h
    refine lv_aload_n hx hb dX5_reaches_9 rfl (lv_at hl 0 rfl) ?_
    refine va_get (D := D) (ci := 5) (v := .ref (a 10)) (C := RX5) (T := TX5) (N := 23) hx hb ht i_X5 hown hK hP 0 rfl rfl 14 (by decide) (ht _ wd_550) (fun _ h9 => h9) rfl dX5_reaches_10 ?_
    refine lv_iload_n hx hb dX5_reaches_13 rfl (lv_at hl 1 rfl) ?_
    refine lv_iload_n hx hb dX5_reaches_14 rfl (lv_at hl 2 rfl) ?_
    obtain ⟨i3, h⟩ := ck_ok h
    refine va_iast hx hb hK hP hD hS 10 0 rfl rfl i3 dX5_reaches_15 (fun H locs hP hD hS => ?_)
    obtain ⟨M4, e5, h⟩ := sv_ok h
    have hP : va_P D classes (wX5 a cI cC cO M4) H := by rw [← e5]; exact hP
    have hD : va_D A (wX5 a cI cC cO M4) := by rw [← e5]; exact hD
    refine lv_aload_n hx hb dX5_reaches_16 rfl (lv_at hl 0 rfl) ?_
    refine va_get (D := D) (ci := 5) (v := .ref (a 11)) (C := RX5) (T := TX5) (N := 23) hx hb ht i_X5 hown hK hP 0 rfl rfl 15 (by decide) (ht _ wd_551) (fun _ h9 => h9) rfl dX5_reaches_17 ?_
    refine lv_iload_n hx hb dX5_reaches_20 rfl (lv_at hl 1 rfl) ?_
    refine lv_iload_n hx hb dX5_reaches_21 rfl (lv_at hl 3 rfl) ?_
    obtain ⟨i6, h⟩ := ck_ok h
    refine va_iast hx hb hK hP hD hS 11 0 rfl rfl i6 dX5_reaches_22 (fun H locs hP hD hS => ?_)
    obtain ⟨M7, e8, h⟩ := sv_ok h
    have hP : va_P D classes (wX5 a cI cC cO M7) H := by rw [← e8]; exact hP
    have hD : va_D A (wX5 a cI cC cO M7) := by rw [← e8]; exact hD
    refine lv_aload_n hx hb dX5_reaches_23 rfl (lv_at hl 0 rfl) ?_
    refine va_get (D := D) (ci := 5) (v := .ref (a 12)) (C := RX5) (T := TX5) (N := 23) hx hb ht i_X5 hown hK hP 0 rfl rfl 16 (by decide) (ht _ wd_552) (fun _ h9 => h9) rfl dX5_reaches_24 ?_
    refine lv_aload_n hx hb dX5_reaches_27 rfl (lv_at hl 0 rfl) ?_
    refine va_get (D := D) (ci := 5) (v := .int (M7 12 6)) (C := RX5) (T := TX5) (N := 23) hx hb ht i_X5 hown hK hP 0 rfl rfl 18 (by decide) (ht _ wd_554) (fun _ h9 => h9) rfl dX5_reaches_28 ?_
    refine lv_iload_n hx hb dX5_reaches_31 rfl (lv_at hl 1 rfl) ?_
    obtain ⟨i9, h⟩ := ck_ok h
    refine va_iast hx hb hK hP hD hS 12 0 rfl rfl i9 dX5_reaches_32 (fun H locs hP hD hS => ?_)
    obtain ⟨M10, e11, h⟩ := sv_ok h
    have hP : va_P D classes (wX5 a cI cC cO M10) H := by rw [← e11]; exact hP
    have hD : va_D A (wX5 a cI cC cO M10) := by rw [← e11]; exact hD
    refine lv_aload_n hx hb dX5_reaches_33 rfl (lv_at hl 0 rfl) ?_
    refine lv_dup hx hb dX5_reaches_34 rfl ?_
    refine va_get (D := D) (ci := 5) (v := .int (M10 12 6)) (C := RX5) (T := TX5) (N := 23) hx hb ht i_X5 hown hK hP 0 rfl rfl 18 (by decide) (ht _ wd_554) (fun _ h9 => h9) rfl dX5_reaches_35 ?_
    refine lv_iconst (v := (1 : Int32)) hx hb dX5_reaches_38 (by decide) ?_
    refine lv_iadd hx hb dX5_reaches_39 ?_
    refine va_put (D := D) (ci := 5) (v := .int ((M10 12 6) + (1 : Int32))) (ty := .int) (C := RX5) (T := TX5) (N := 23) hx hb ht i_X5 tyX5 tyX5_ok nmX5 hown hK hP hD hS 0 rfl rfl 18 (by decide) (ht _ wd_554) (fun _ h9 => h9) rfl (by decide +kernel) rfl rfl (Nat.le_of_ble_eq_true rfl) dX5_reaches_40 (fun H locs hP hD hS => ?_)
    obtain ⟨M12, e13, h⟩ := sv_ok h
    have hP : va_P D classes (wX5 a cI cC cO M12) H := by rw [← e13]; exact hP
    have hD : va_D A (wX5 a cI cC cO M12) := by rw [← e13]; exact hD
    cases h
    exact rt_v hx hb hr hlocks hS hP hK hD dX5_reaches_43
theorem dX5_looks_0 : decode cX5_looks 0 = .ok (.iload_n 1, 1) := by decide +kernel
theorem dX5_looks_1 : decode cX5_looks 1 = .ok (.bipush 16, 2) := by decide +kernel
theorem dX5_looks_3 : decode cX5_looks 3 = .ok (.idiv, 1) := by decide +kernel
theorem dX5_looks_4 : decode cX5_looks 4 = .ok (.istore_n 2, 1) := by decide +kernel
theorem dX5_looks_5 : decode cX5_looks 5 = .ok (.iload_n 1, 1) := by decide +kernel
theorem dX5_looks_6 : decode cX5_looks 6 = .ok (.bipush 16, 2) := by decide +kernel
theorem dX5_looks_8 : decode cX5_looks 8 = .ok (.irem, 1) := by decide +kernel
theorem dX5_looks_9 : decode cX5_looks 9 = .ok (.istore_n 3, 1) := by decide +kernel
theorem dX5_looks_10 : decode cX5_looks 10 = .ok (.iload_n 3, 1) := by decide +kernel
theorem dX5_looks_11 : decode cX5_looks 11 = .ok (.aload_n 0, 1) := by decide +kernel
theorem dX5_looks_12 : decode cX5_looks 12 = .ok (.getfield 112, 3) := by decide +kernel
theorem dX5_looks_15 : decode cX5_looks 15 = .ok (.if_icmp .ge 26, 3) := by decide +kernel
theorem dX5_looks_18 : decode cX5_looks 18 = .ok (.aload_n 0, 1) := by decide +kernel
theorem dX5_looks_19 : decode cX5_looks 19 = .ok (.getfield 32, 3) := by decide +kernel
theorem dX5_looks_22 : decode cX5_looks 22 = .ok (.iload_n 1, 1) := by decide +kernel
theorem dX5_looks_23 : decode cX5_looks 23 = .ok (.iaload, 1) := by decide +kernel
theorem dX5_looks_24 : decode cX5_looks 24 = .ok (.aload_n 0, 1) := by decide +kernel
theorem dX5_looks_25 : decode cX5_looks 25 = .ok (.iload_n 2, 1) := by decide +kernel
theorem dX5_looks_26 : decode cX5_looks 26 = .ok (.invokevirtual 118, 3) := by decide +kernel
theorem dX5_looks_29 : decode cX5_looks 29 = .ok (.if_icmp .ge 12, 3) := by decide +kernel
theorem dX5_looks_32 : decode cX5_looks 32 = .ok (.aload_n 0, 1) := by decide +kernel
theorem dX5_looks_33 : decode cX5_looks 33 = .ok (.iload_n 1, 1) := by decide +kernel
theorem dX5_looks_34 : decode cX5_looks 34 = .ok (.iconst 1, 1) := by decide +kernel
theorem dX5_looks_35 : decode cX5_looks 35 = .ok (.iadd, 1) := by decide +kernel
theorem dX5_looks_36 : decode cX5_looks 36 = .ok (.iload_n 1, 1) := by decide +kernel
theorem dX5_looks_37 : decode cX5_looks 37 = .ok (.iconst 1, 1) := by decide +kernel
theorem dX5_looks_38 : decode cX5_looks 38 = .ok (.invokevirtual 121, 3) := by decide +kernel
theorem dX5_looks_41 : decode cX5_looks 41 = .ok (.iload_n 3, 1) := by decide +kernel
theorem dX5_looks_42 : decode cX5_looks 42 = .ok (.ifCond .le 23, 3) := by decide +kernel
theorem dX5_looks_45 : decode cX5_looks 45 = .ok (.aload_n 0, 1) := by decide +kernel
theorem dX5_looks_46 : decode cX5_looks 46 = .ok (.getfield 32, 3) := by decide +kernel
theorem dX5_looks_49 : decode cX5_looks 49 = .ok (.iload_n 1, 1) := by decide +kernel
theorem dX5_looks_50 : decode cX5_looks 50 = .ok (.iconst 1, 1) := by decide +kernel
theorem dX5_looks_51 : decode cX5_looks 51 = .ok (.isub, 1) := by decide +kernel
theorem dX5_looks_52 : decode cX5_looks 52 = .ok (.iaload, 1) := by decide +kernel
theorem dX5_looks_53 : decode cX5_looks 53 = .ok (.ifCond .le 12, 3) := by decide +kernel
theorem dX5_looks_56 : decode cX5_looks 56 = .ok (.aload_n 0, 1) := by decide +kernel
theorem dX5_looks_57 : decode cX5_looks 57 = .ok (.iload_n 1, 1) := by decide +kernel
theorem dX5_looks_58 : decode cX5_looks 58 = .ok (.iconst 1, 1) := by decide +kernel
theorem dX5_looks_59 : decode cX5_looks 59 = .ok (.isub, 1) := by decide +kernel
theorem dX5_looks_60 : decode cX5_looks 60 = .ok (.iload_n 1, 1) := by decide +kernel
theorem dX5_looks_61 : decode cX5_looks 61 = .ok (.iconst 2, 1) := by decide +kernel
theorem dX5_looks_62 : decode cX5_looks 62 = .ok (.invokevirtual 121, 3) := by decide +kernel
theorem dX5_looks_65 : decode cX5_looks 65 = .ok (.iconst 0, 1) := by decide +kernel
theorem dX5_looks_66 : decode cX5_looks 66 = .ok (.istore 4, 2) := by decide +kernel
theorem dX5_looks_68 : decode cX5_looks 68 = .ok (.iload 4, 2) := by decide +kernel
theorem dX5_looks_70 : decode cX5_looks 70 = .ok (.aload_n 0, 1) := by decide +kernel
theorem dX5_looks_71 : decode cX5_looks 71 = .ok (.getfield 7, 3) := by decide +kernel
theorem dX5_looks_74 : decode cX5_looks 74 = .ok (.iconst 1, 1) := by decide +kernel
theorem dX5_looks_75 : decode cX5_looks 75 = .ok (.iaload, 1) := by decide +kernel
theorem dX5_looks_76 : decode cX5_looks 76 = .ok (.if_icmp .ge 177, 3) := by decide +kernel
theorem dX5_looks_79 : decode cX5_looks 79 = .ok (.aload_n 0, 1) := by decide +kernel
theorem dX5_looks_80 : decode cX5_looks 80 = .ok (.iload 4, 2) := by decide +kernel
theorem dX5_looks_82 : decode cX5_looks 82 = .ok (.iconst 2, 1) := by decide +kernel
theorem dX5_looks_83 : decode cX5_looks 83 = .ok (.invokevirtual 101, 3) := by decide +kernel
theorem dX5_looks_86 : decode cX5_looks 86 = .ok (.istore 5, 2) := by decide +kernel
theorem dX5_looks_88 : decode cX5_looks 88 = .ok (.aload_n 0, 1) := by decide +kernel
theorem dX5_looks_89 : decode cX5_looks 89 = .ok (.iload 4, 2) := by decide +kernel
theorem dX5_looks_91 : decode cX5_looks 91 = .ok (.iconst 0, 1) := by decide +kernel
theorem dX5_looks_92 : decode cX5_looks 92 = .ok (.invokevirtual 101, 3) := by decide +kernel
theorem dX5_looks_95 : decode cX5_looks 95 = .ok (.iload_n 2, 1) := by decide +kernel
theorem dX5_looks_96 : decode cX5_looks 96 = .ok (.if_icmp .ne 21, 3) := by decide +kernel
theorem dX5_looks_99 : decode cX5_looks 99 = .ok (.iload_n 2, 1) := by decide +kernel
theorem dX5_looks_100 : decode cX5_looks 100 = .ok (.ifCond .eq 17, 3) := by decide +kernel
theorem dX5_looks_103 : decode cX5_looks 103 = .ok (.aload_n 0, 1) := by decide +kernel
theorem dX5_looks_104 : decode cX5_looks 104 = .ok (.iload 4, 2) := by decide +kernel
theorem dX5_looks_106 : decode cX5_looks 106 = .ok (.iload_n 3, 1) := by decide +kernel
theorem dX5_looks_107 : decode cX5_looks 107 = .ok (.invokevirtual 125, 3) := by decide +kernel
theorem dX5_looks_110 : decode cX5_looks 110 = .ok (.ifCond .eq 7, 3) := by decide +kernel
theorem dX5_looks_113 : decode cX5_looks 113 = .ok (.iconst 1, 1) := by decide +kernel
theorem dX5_looks_114 : decode cX5_looks 114 = .ok (.goto 4, 3) := by decide +kernel
theorem dX5_looks_117 : decode cX5_looks 117 = .ok (.iconst 0, 1) := by decide +kernel
theorem dX5_looks_118 : decode cX5_looks 118 = .ok (.istore 6, 2) := by decide +kernel
theorem dX5_looks_120 : decode cX5_looks 120 = .ok (.iload 6, 2) := by decide +kernel
theorem dX5_looks_122 : decode cX5_looks 122 = .ok (.ifCond .eq 65, 3) := by decide +kernel
theorem dX5_looks_125 : decode cX5_looks 125 = .ok (.aload_n 0, 1) := by decide +kernel
theorem dX5_looks_126 : decode cX5_looks 126 = .ok (.getfield 35, 3) := by decide +kernel
theorem dX5_looks_129 : decode cX5_looks 129 = .ok (.bipush 16, 2) := by decide +kernel
theorem dX5_looks_131 : decode cX5_looks 131 = .ok (.iload 4, 2) := by decide +kernel
theorem dX5_looks_133 : decode cX5_looks 133 = .ok (.imul, 1) := by decide +kernel
theorem dX5_looks_134 : decode cX5_looks 134 = .ok (.iload_n 3, 1) := by decide +kernel
theorem dX5_looks_135 : decode cX5_looks 135 = .ok (.iadd, 1) := by decide +kernel
theorem dX5_looks_136 : decode cX5_looks 136 = .ok (.iaload, 1) := by decide +kernel
theorem dX5_looks_137 : decode cX5_looks 137 = .ok (.aload_n 0, 1) := by decide +kernel
theorem dX5_looks_138 : decode cX5_looks 138 = .ok (.iload 4, 2) := by decide +kernel
theorem dX5_looks_140 : decode cX5_looks 140 = .ok (.iconst 3, 1) := by decide +kernel
theorem dX5_looks_141 : decode cX5_looks 141 = .ok (.invokevirtual 101, 3) := by decide +kernel
theorem dX5_looks_144 : decode cX5_looks 144 = .ok (.iload 4, 2) := by decide +kernel
theorem dX5_looks_146 : decode cX5_looks 146 = .ok (.aload_n 0, 1) := by decide +kernel
theorem dX5_looks_147 : decode cX5_looks 147 = .ok (.getfield 54, 3) := by decide +kernel
theorem dX5_looks_150 : decode cX5_looks 150 = .ok (.if_icmp .ne 7, 3) := by decide +kernel
theorem dX5_looks_153 : decode cX5_looks 153 = .ok (.iconst 1, 1) := by decide +kernel
theorem dX5_looks_154 : decode cX5_looks 154 = .ok (.goto 4, 3) := by decide +kernel
theorem dX5_looks_157 : decode cX5_looks 157 = .ok (.iconst 0, 1) := by decide +kernel
theorem dX5_looks_158 : decode cX5_looks 158 = .ok (.iadd, 1) := by decide +kernel
theorem dX5_looks_159 : decode cX5_looks 159 = .ok (.if_icmp .ge 28, 3) := by decide +kernel
theorem dX5_looks_162 : decode cX5_looks 162 = .ok (.aload_n 0, 1) := by decide +kernel
theorem dX5_looks_163 : decode cX5_looks 163 = .ok (.bipush 16, 2) := by decide +kernel
theorem dX5_looks_165 : decode cX5_looks 165 = .ok (.aload_n 0, 1) := by decide +kernel
theorem dX5_looks_166 : decode cX5_looks 166 = .ok (.iload 4, 2) := by decide +kernel
theorem dX5_looks_168 : decode cX5_looks 168 = .ok (.iconst 1, 1) := by decide +kernel
theorem dX5_looks_169 : decode cX5_looks 169 = .ok (.invokevirtual 101, 3) := by decide +kernel
theorem dX5_looks_172 : decode cX5_looks 172 = .ok (.imul, 1) := by decide +kernel
theorem dX5_looks_173 : decode cX5_looks 173 = .ok (.iload_n 3, 1) := by decide +kernel
theorem dX5_looks_174 : decode cX5_looks 174 = .ok (.iadd, 1) := by decide +kernel
theorem dX5_looks_175 : decode cX5_looks 175 = .ok (.iload 5, 2) := by decide +kernel
theorem dX5_looks_177 : decode cX5_looks 177 = .ok (.iadd, 1) := by decide +kernel
theorem dX5_looks_178 : decode cX5_looks 178 = .ok (.iload_n 1, 1) := by decide +kernel
theorem dX5_looks_179 : decode cX5_looks 179 = .ok (.bipush 16, 2) := by decide +kernel
theorem dX5_looks_181 : decode cX5_looks 181 = .ok (.iload 4, 2) := by decide +kernel
theorem dX5_looks_183 : decode cX5_looks 183 = .ok (.iadd, 1) := by decide +kernel
theorem dX5_looks_184 : decode cX5_looks 184 = .ok (.invokevirtual 121, 3) := by decide +kernel
theorem dX5_looks_187 : decode cX5_looks 187 = .ok (.aload_n 0, 1) := by decide +kernel
theorem dX5_looks_188 : decode cX5_looks 188 = .ok (.iload 4, 2) := by decide +kernel
theorem dX5_looks_190 : decode cX5_looks 190 = .ok (.iconst 1, 1) := by decide +kernel
theorem dX5_looks_191 : decode cX5_looks 191 = .ok (.invokevirtual 101, 3) := by decide +kernel
theorem dX5_looks_194 : decode cX5_looks 194 = .ok (.iload_n 2, 1) := by decide +kernel
theorem dX5_looks_195 : decode cX5_looks 195 = .ok (.if_icmp .ne 52, 3) := by decide +kernel
theorem dX5_looks_198 : decode cX5_looks 198 = .ok (.iload_n 3, 1) := by decide +kernel
theorem dX5_looks_199 : decode cX5_looks 199 = .ok (.iload 5, 2) := by decide +kernel
theorem dX5_looks_201 : decode cX5_looks 201 = .ok (.if_icmp .lt 46, 3) := by decide +kernel
theorem dX5_looks_204 : decode cX5_looks 204 = .ok (.aload_n 0, 1) := by decide +kernel
theorem dX5_looks_205 : decode cX5_looks 205 = .ok (.getfield 35, 3) := by decide +kernel
theorem dX5_looks_208 : decode cX5_looks 208 = .ok (.bipush 16, 2) := by decide +kernel
theorem dX5_looks_210 : decode cX5_looks 210 = .ok (.iload 4, 2) := by decide +kernel
theorem dX5_looks_212 : decode cX5_looks 212 = .ok (.imul, 1) := by decide +kernel
theorem dX5_looks_213 : decode cX5_looks 213 = .ok (.iload_n 3, 1) := by decide +kernel
theorem dX5_looks_214 : decode cX5_looks 214 = .ok (.iadd, 1) := by decide +kernel
theorem dX5_looks_215 : decode cX5_looks 215 = .ok (.iload 5, 2) := by decide +kernel
theorem dX5_looks_217 : decode cX5_looks 217 = .ok (.isub, 1) := by decide +kernel
theorem dX5_looks_218 : decode cX5_looks 218 = .ok (.iaload, 1) := by decide +kernel
theorem dX5_looks_219 : decode cX5_looks 219 = .ok (.ifCond .le 28, 3) := by decide +kernel
theorem dX5_looks_222 : decode cX5_looks 222 = .ok (.aload_n 0, 1) := by decide +kernel
theorem dX5_looks_223 : decode cX5_looks 223 = .ok (.bipush 16, 2) := by decide +kernel
theorem dX5_looks_225 : decode cX5_looks 225 = .ok (.aload_n 0, 1) := by decide +kernel
theorem dX5_looks_226 : decode cX5_looks 226 = .ok (.iload 4, 2) := by decide +kernel
theorem dX5_looks_228 : decode cX5_looks 228 = .ok (.iconst 0, 1) := by decide +kernel
theorem dX5_looks_229 : decode cX5_looks 229 = .ok (.invokevirtual 101, 3) := by decide +kernel
theorem dX5_looks_232 : decode cX5_looks 232 = .ok (.imul, 1) := by decide +kernel
theorem dX5_looks_233 : decode cX5_looks 233 = .ok (.iload_n 3, 1) := by decide +kernel
theorem dX5_looks_234 : decode cX5_looks 234 = .ok (.iadd, 1) := by decide +kernel
theorem dX5_looks_235 : decode cX5_looks 235 = .ok (.iload 5, 2) := by decide +kernel
theorem dX5_looks_237 : decode cX5_looks 237 = .ok (.isub, 1) := by decide +kernel
theorem dX5_looks_238 : decode cX5_looks 238 = .ok (.iload_n 1, 1) := by decide +kernel
theorem dX5_looks_239 : decode cX5_looks 239 = .ok (.bipush 32, 2) := by decide +kernel
theorem dX5_looks_241 : decode cX5_looks 241 = .ok (.iload 4, 2) := by decide +kernel
theorem dX5_looks_243 : decode cX5_looks 243 = .ok (.iadd, 1) := by decide +kernel
theorem dX5_looks_244 : decode cX5_looks 244 = .ok (.invokevirtual 121, 3) := by decide +kernel
theorem dX5_looks_247 : decode cX5_looks 247 = .ok (.iinc 4 1, 3) := by decide +kernel
theorem dX5_looks_250 : decode cX5_looks 250 = .ok (.goto (-182), 3) := by decide +kernel
theorem dX5_looks_253 : decode cX5_looks 253 = .ok (.return_, 1) := by decide +kernel
set_option maxHeartbeats 4000000 in
set_option maxRecDepth 100000 in
theorem c_X5_looks (l : Launch) (D : va_G) (cI cC cO : ClassId) (a : Nat → Nat) (M : Mm) (x1 : Int32) (res : Mm) (sz : Nat) (h : F_X5_looks M x1 = some res) : Met l yX5_looks (Cond.code yX5_looks cX5_looks 7 (Option.none : Option Jvm.ClassFile.FieldType) :: lw_g) ({ frames := 2, cells := 0, slots := 0, locals := 45 } : Room) (va_Pc [.ref (a 0), .int x1] (pS D cI cC cO sz (wX5 a cI cC cO M))) (QV D cI cC cO (va_A (wX5 a cI cC cO M) sz) (wX5 a cI cC cO res)) 0 0 (va_A (wX5 a cI cC cO M) sz) := by
  refine Met.ofW (cc := cX5_looks) (maxL := 7) (ret := (Option.none : Option Jvm.ClassFile.FieldType)) (by decide) rfl ?_
  intro p e s m args below meth c s₁ B hml hv
  obtain ⟨rfl, rfl, hP, hK, hD0, hN⟩ := hv
  have hx := B.exec
  have hb := B.bytes
  have hr := B.returns
  have ht : ∀ w ∈ lw_g, w.before ([.ref (a 0), .int x1] : List Value).toArray s = true := fun w hw => atoms_spec (ws := Cond.code yX5_looks cX5_looks 7 (Option.none : Option Jvm.ClassFile.FieldType) :: lw_g) B.pre w (List.mem_cons_of_mem _ hw)
  have hown : s.vm.findClass RX5 = some m.cls := findClass_of_methodNamed B.named
  have hlocks := B.notSynchronized
  have hD := hD0.self (sz := s.heap.size)
  generalize hAe : va_A (wX5 a cI cC cO M) s.heap.size = A at hD ⊢
  have hA : ∀ q : Nat, s.heap.size ≤ q → A q := fun q hq => by rw [← hAe]; exact Or.inr hq
  have hS : va_S A s.heap s.heap [] := va_S.rf
  have hl := lv_entry ([.ref (a 0), .int x1]) (n := 7) (Nat.le_of_ble_eq_true rfl)
  rw [lg_entry_eq]
  generalize (lg_sl ([.ref (a 0), .int x1]) ++ List.replicate (7 - (lg_sl ([.ref (a 0), .int x1])).length) Slot.unset).toArray = ls at hl ⊢
  have hl : lv_has ls 7 [(0, .ref (a 0)), (1, .int x1)] := hl
  have w68 : ∀ (n68 : Nat) (M : Mm) (y1 y2 y3 y4 : Int32) (H : Heap) (locs : List Loc) (ls : Array Slot), F_X5_looks_68 n68 M y1 y2 y3 y4 = some res → va_P D classes (wX5 a cI cC cO M) H → va_D A (wX5 a cI cC cO M) → va_S A s.heap H locs → lv_has ls 7 [(0, .ref (a 0)), (1, .int y1), (2, .int y2), (3, .int y3), (4, .int y4)] → W p l e ({ frames := 2, cells := 0, slots := 0, locals := 45 } : Room) s m ([.ref (a 0), .int x1] : List Value).toArray below meth c H locs 0 0 (MQ below (QV D cI cC cO A (wX5 a cI cC cO res)) ([.ref (a 0), .int x1] : List Value).toArray s 0 0 A) (F0 m 68 ls []) := by
    intro n68
    induction n68 with
    | zero => intro M y1 y2 y3 y4 H locs ls h hP hD hS hl; exact absurd (show (none : Option (Mm)) = some res from h) (by simp)
    | succ n68 ih68 =>
      have w187 : ∀ (M : Mm) (y1 y2 y3 y4 y5 : Int32) (H : Heap) (locs : List Loc) (ls : Array Slot), F_X5_looks_187 (F_X5_looks_68 n68) M y1 y2 y3 y4 y5 = some res → va_P D classes (wX5 a cI cC cO M) H → va_D A (wX5 a cI cC cO M) → va_S A s.heap H locs → lv_has ls 7 [(0, .ref (a 0)), (1, .int y1), (2, .int y2), (3, .int y3), (4, .int y4), (5, .int y5)] → W p l e ({ frames := 2, cells := 0, slots := 0, locals := 45 } : Room) s m ([.ref (a 0), .int x1] : List Value).toArray below meth c H locs 0 0 (MQ below (QV D cI cC cO A (wX5 a cI cC cO res)) ([.ref (a 0), .int x1] : List Value).toArray s 0 0 A) (F0 m 187 ls []) := by
        intro M y1 y2 y3 y4 y5 H locs ls h hP hD hS hl
        unfold F_X5_looks_187 at h
        refine lv_aload_n hx hb dX5_looks_187 rfl (lv_at hl 0 rfl) ?_
        refine lv_iload hx hb dX5_looks_188 (lv_at hl 4 rfl) ?_
        refine lv_iconst (v := (1 : Int32)) hx hb dX5_looks_190 (by decide) ?_
        obtain ⟨u1, e2, h⟩ := b1_ok h
        refine cl_Vi (ws' := (wX5 a cI cC cO M)) ⟨hx, hb, hml, hown, ht⟩ (c_X5_pi l D cI cC cO a M y4 (1 : Int32) _ _ e2) (cwv 2 ht wd_678 wd_6 wd_675 wd_677 ws_28 (by decide +kernel) rfl rfl ⟨Nat.le_of_ble_eq_true rfl, Nat.le_of_ble_eq_true rfl⟩) 5 0 rfl rfl rfl hK hP hD hS hA hN [0, 1, 2, 3, 4, 5, 6, 7, 8, 9, 10, 11, 12] [] [0, 1, 2, 3, 4, 5, 6, 7, 8, 9, 10, 11, 12] (by decide) rfl rfl (by decide) (by decide) rfl (by decide) rfl hl.1 rfl (Nat.le_of_ble_eq_true rfl) dX5_looks_191 ⟨Nat.le_of_ble_eq_true rfl, Nat.le_of_ble_eq_true rfl⟩ (fun H locs hP hD hS => ?_)
        refine lv_iload_n hx hb dX5_looks_194 rfl (lv_at hl 2 rfl) ?_
        refine lv_icmp_ne (tgt := 247) hx hb dX5_looks_195 (by decide) (fun c3 => ?_) (fun c3 => ?_)
        · replace h := fn c3 h
          refine lv_iinc (v := (y4 + 1)) (lv' := [(4, .int (y4 + 1)), (0, .ref (a 0)), (1, .int y1), (2, .int y2), (3, .int y3), (5, .int y5)]) hx hb dX5_looks_247 hl (k := 4) rfl rfl (by decide) rfl (fun ls hl => ?_)
          refine lv_goto (tgt := 68) hx hb dX5_looks_250 (by decide) ?_
          exact ih68 M y1 y2 y3 (y4 + 1) _ _ ls h hP hD hS (lv_sub hl [1, 2, 3, 4, 0] rfl)
        · replace h := fp c3 h
          refine lv_iload_n hx hb dX5_looks_198 rfl (lv_at hl 3 rfl) ?_
          refine lv_iload hx hb dX5_looks_199 (lv_at hl 5 rfl) ?_
          refine lv_icmp_lt (tgt := 247) hx hb dX5_looks_201 (by decide) (fun c4 => ?_) (fun c4 => ?_)
          · replace h := fp c4 h
            refine lv_iinc (v := (y4 + 1)) (lv' := [(4, .int (y4 + 1)), (0, .ref (a 0)), (1, .int y1), (2, .int y2), (3, .int y3), (5, .int y5)]) hx hb dX5_looks_247 hl (k := 4) rfl rfl (by decide) rfl (fun ls hl => ?_)
            refine lv_goto (tgt := 68) hx hb dX5_looks_250 (by decide) ?_
            exact ih68 M y1 y2 y3 (y4 + 1) _ _ ls h hP hD hS (lv_sub hl [1, 2, 3, 4, 0] rfl)
          · replace h := fn c4 h
            refine lv_aload_n hx hb dX5_looks_204 rfl (lv_at hl 0 rfl) ?_
            refine va_get (D := D) (ci := 5) (v := .ref (a 9)) (C := RX5) (T := TX5) (N := 23) hx hb ht i_X5 hown hK hP 0 rfl rfl 13 (by decide) (ht _ wd_549) (fun _ h9 => h9) rfl dX5_looks_205 ?_
            refine lv_bipush (v := (16 : Int32)) hx hb dX5_looks_208 (by decide) ?_
            refine lv_iload hx hb dX5_looks_210 (lv_at hl 4 rfl) ?_
            refine lv_imul hx hb dX5_looks_212 ?_
            refine lv_iload_n hx hb dX5_looks_213 rfl (lv_at hl 3 rfl) ?_
            refine lv_iadd hx hb dX5_looks_214 ?_
            refine lv_iload hx hb dX5_looks_215 (lv_at hl 5 rfl) ?_
            refine lv_isub hx hb dX5_looks_217 ?_
            obtain ⟨i5, h⟩ := ck_ok h
            refine va_iald hx hb hK hP 9 0 rfl rfl i5 dX5_looks_218 ?_
            refine lv_if_le (tgt := 247) hx hb dX5_looks_219 (by decide) (fun c6 => ?_) (fun c6 => ?_)
            · replace h := fp c6 h
              refine lv_iinc (v := (y4 + 1)) (lv' := [(4, .int (y4 + 1)), (0, .ref (a 0)), (1, .int y1), (2, .int y2), (3, .int y3), (5, .int y5)]) hx hb dX5_looks_247 hl (k := 4) rfl rfl (by decide) rfl (fun ls hl => ?_)
              refine lv_goto (tgt := 68) hx hb dX5_looks_250 (by decide) ?_
              exact ih68 M y1 y2 y3 (y4 + 1) _ _ ls h hP hD hS (lv_sub hl [1, 2, 3, 4, 0] rfl)
            · replace h := fn c6 h
              refine lv_aload_n hx hb dX5_looks_222 rfl (lv_at hl 0 rfl) ?_
              refine lv_bipush (v := (16 : Int32)) hx hb dX5_looks_223 (by decide) ?_
              refine lv_aload_n hx hb dX5_looks_225 rfl (lv_at hl 0 rfl) ?_
              refine lv_iload hx hb dX5_looks_226 (lv_at hl 4 rfl) ?_
              refine lv_iconst (v := (0 : Int32)) hx hb dX5_looks_228 (by decide) ?_
              obtain ⟨u7, e8, h⟩ := b1_ok h
              refine cl_Vi (ws' := (wX5 a cI cC cO M)) ⟨hx, hb, hml, hown, ht⟩ (c_X5_pi l D cI cC cO a M y4 (0 : Int32) _ _ e8) (cwv 2 ht wd_678 wd_6 wd_675 wd_677 ws_28 (by decide +kernel) rfl rfl ⟨Nat.le_of_ble_eq_true rfl, Nat.le_of_ble_eq_true rfl⟩) 5 0 rfl rfl rfl hK hP hD hS hA hN [0, 1, 2, 3, 4, 5, 6, 7, 8, 9, 10, 11, 12] [] [0, 1, 2, 3, 4, 5, 6, 7, 8, 9, 10, 11, 12] (by decide) rfl rfl (by decide) (by decide) rfl (by decide) rfl hl.1 rfl (Nat.le_of_ble_eq_true rfl) dX5_looks_229 ⟨Nat.le_of_ble_eq_true rfl, Nat.le_of_ble_eq_true rfl⟩ (fun H locs hP hD hS => ?_)
              refine lv_imul hx hb dX5_looks_232 ?_
              refine lv_iload_n hx hb dX5_looks_233 rfl (lv_at hl 3 rfl) ?_
              refine lv_iadd hx hb dX5_looks_234 ?_
              refine lv_iload hx hb dX5_looks_235 (lv_at hl 5 rfl) ?_
              refine lv_isub hx hb dX5_looks_237 ?_
              refine lv_iload_n hx hb dX5_looks_238 rfl (lv_at hl 1 rfl) ?_
              refine lv_bipush (v := (32 : Int32)) hx hb dX5_looks_239 (by decide) ?_
              refine lv_iload hx hb dX5_looks_241 (lv_at hl 4 rfl) ?_
              refine lv_iadd hx hb dX5_looks_243 ?_
              obtain ⟨M9, e10, h⟩ := b1_ok h
              refine cl_Vv (ws' := (wX5 a cI cC cO M9)) ⟨hx, hb, hml, hown, ht⟩ (c_X5_reaches l D cI cC cO a M ((((16 : Int32) * u7) + y3) - y5) y1 ((32 : Int32) + y4) _ _ e10) (cwv 3 ht wd_712 wd_6 wd_709 wd_711 ws_34 (by decide +kernel) rfl rfl ⟨Nat.le_of_ble_eq_true rfl, Nat.le_of_ble_eq_true rfl⟩) 5 0 rfl rfl rfl hK hP hD hS hA hN [0, 1, 2, 3, 4, 5, 6, 7, 8, 9, 10, 11, 12] [] [0, 1, 2, 3, 4, 5, 6, 7, 8, 9, 10, 11, 12] (by decide) rfl rfl (by decide) (by decide) rfl (by decide) rfl hl.1 rfl (Nat.le_of_ble_eq_true rfl) dX5_looks_244 ⟨Nat.le_of_ble_eq_true rfl, Nat.le_of_ble_eq_true rfl⟩ (fun H locs hP hD hS => ?_)
              refine lv_iinc (v := (y4 + 1)) (lv' := [(4, .int (y4 + 1)), (0, .ref (a 0)), (1, .int y1), (2, .int y2), (3, .int y3), (5, .int y5)]) hx hb dX5_looks_247 hl (k := 4) rfl rfl (by decide) rfl (fun ls hl => ?_)
              refine lv_goto (tgt := 68) hx hb dX5_looks_250 (by decide) ?_
              exact ih68 M9 y1 y2 y3 (y4 + 1) _ _ ls h hP hD hS (lv_sub hl [1, 2, 3, 4, 0] rfl)
      have w158 : ∀ (M : Mm) (y1 y2 y3 y4 y5 s0 s1 s2 : Int32) (H : Heap) (locs : List Loc) (ls : Array Slot), F_X5_looks_158 (F_X5_looks_68 n68) M y1 y2 y3 y4 y5 s0 s1 s2 = some res → va_P D classes (wX5 a cI cC cO M) H → va_D A (wX5 a cI cC cO M) → va_S A s.heap H locs → lv_has ls 7 [(0, .ref (a 0)), (1, .int y1), (2, .int y2), (3, .int y3), (4, .int y4), (5, .int y5)] → W p l e ({ frames := 2, cells := 0, slots := 0, locals := 45 } : Room) s m ([.ref (a 0), .int x1] : List Value).toArray below meth c H locs 0 0 (MQ below (QV D cI cC cO A (wX5 a cI cC cO res)) ([.ref (a 0), .int x1] : List Value).toArray s 0 0 A) (F0 m 158 ls [.int s0, .int s1, .int s2]) := by
        intro M y1 y2 y3 y4 y5 s0 s1 s2 H locs ls h hP hD hS hl
        unfold F_X5_looks_158 at h
        refine lv_iadd hx hb dX5_looks_158 ?_
        refine lv_icmp_ge (tgt := 187) hx hb dX5_looks_159 (by decide) (fun c1 => ?_) (fun c1 => ?_)
        · replace h := fp c1 h
          exact w187 M y1 y2 y3 y4 y5 _ _ ls h hP hD hS (lv_sub hl [0, 1, 2, 3, 4, 5] rfl)
        · replace h := fn c1 h
          refine lv_aload_n hx hb dX5_looks_162 rfl (lv_at hl 0 rfl) ?_
          refine lv_bipush (v := (16 : Int32)) hx hb dX5_looks_163 (by decide) ?_
          refine lv_aload_n hx hb dX5_looks_165 rfl (lv_at hl 0 rfl) ?_
          refine lv_iload hx hb dX5_looks_166 (lv_at hl 4 rfl) ?_
          refine lv_iconst (v := (1 : Int32)) hx hb dX5_looks_168 (by decide) ?_
          obtain ⟨u2, e3, h⟩ := b1_ok h
          refine cl_Vi (ws' := (wX5 a cI cC cO M)) ⟨hx, hb, hml, hown, ht⟩ (c_X5_pi l D cI cC cO a M y4 (1 : Int32) _ _ e3) (cwv 2 ht wd_678 wd_6 wd_675 wd_677 ws_28 (by decide +kernel) rfl rfl ⟨Nat.le_of_ble_eq_true rfl, Nat.le_of_ble_eq_true rfl⟩) 5 0 rfl rfl rfl hK hP hD hS hA hN [0, 1, 2, 3, 4, 5, 6, 7, 8, 9, 10, 11, 12] [] [0, 1, 2, 3, 4, 5, 6, 7, 8, 9, 10, 11, 12] (by decide) rfl rfl (by decide) (by decide) rfl (by decide) rfl hl.1 rfl (Nat.le_of_ble_eq_true rfl) dX5_looks_169 ⟨Nat.le_of_ble_eq_true rfl, Nat.le_of_ble_eq_true rfl⟩ (fun H locs hP hD hS => ?_)
          refine lv_imul hx hb dX5_looks_172 ?_
          refine lv_iload_n hx hb dX5_looks_173 rfl (lv_at hl 3 rfl) ?_
          refine lv_iadd hx hb dX5_looks_174 ?_
          refine lv_iload hx hb dX5_looks_175 (lv_at hl 5 rfl) ?_
          refine lv_iadd hx hb dX5_looks_177 ?_
          refine lv_iload_n hx hb dX5_looks_178 rfl (lv_at hl 1 rfl) ?_
          refine lv_bipush (v := (16 : Int32)) hx hb dX5_looks_179 (by decide) ?_
          refine lv_iload hx hb dX5_looks_181 (lv_at hl 4 rfl) ?_
          refine lv_iadd hx hb dX5_looks_183 ?_
          obtain ⟨M4, e5, h⟩ := b1_ok h
          refine cl_Vv (ws' := (wX5 a cI cC cO M4)) ⟨hx, hb, hml, hown, ht⟩ (c_X5_reaches l D cI cC cO a M ((((16 : Int32) * u2) + y3) + y5) y1 ((16 : Int32) + y4) _ _ e5) (cwv 3 ht wd_712 wd_6 wd_709 wd_711 ws_34 (by decide +kernel) rfl rfl ⟨Nat.le_of_ble_eq_true rfl, Nat.le_of_ble_eq_true rfl⟩) 5 0 rfl rfl rfl hK hP hD hS hA hN [0, 1, 2, 3, 4, 5, 6, 7, 8, 9, 10, 11, 12] [] [0, 1, 2, 3, 4, 5, 6, 7, 8, 9, 10, 11, 12] (by decide) rfl rfl (by decide) (by decide) rfl (by decide) rfl hl.1 rfl (Nat.le_of_ble_eq_true rfl) dX5_looks_184 ⟨Nat.le_of_ble_eq_true rfl, Nat.le_of_ble_eq_true rfl⟩ (fun H locs hP hD hS => ?_)
          exact w187 M4 y1 y2 y3 y4 y5 _ _ ls h hP hD hS (lv_sub hl [0, 1, 2, 3, 4, 5] rfl)
      have w118 : ∀ (M : Mm) (y1 y2 y3 y4 y5 s0 : Int32) (H : Heap) (locs : List Loc) (ls : Array Slot), F_X5_looks_118 (F_X5_looks_68 n68) M y1 y2 y3 y4 y5 s0 = some res → va_P D classes (wX5 a cI cC cO M) H → va_D A (wX5 a cI cC cO M) → va_S A s.heap H locs → lv_has ls 7 [(0, .ref (a 0)), (1, .int y1), (2, .int y2), (3, .int y3), (4, .int y4), (5, .int y5)] → W p l e ({ frames := 2, cells := 0, slots := 0, locals := 45 } : Room) s m ([.ref (a 0), .int x1] : List Value).toArray below meth c H locs 0 0 (MQ below (QV D cI cC cO A (wX5 a cI cC cO res)) ([.ref (a 0), .int x1] : List Value).toArray s 0 0 A) (F0 m 118 ls [.int s0]) := by
        intro M y1 y2 y3 y4 y5 s0 H locs ls h hP hD hS hl
        unfold F_X5_looks_118 at h
        refine lv_istore (lv' := [(6, .int s0), (0, .ref (a 0)), (1, .int y1), (2, .int y2), (3, .int y3), (4, .int y4), (5, .int y5)]) hx hb dX5_looks_118 hl (by decide) rfl (fun ls hl => ?_)
        refine lv_iload hx hb dX5_looks_120 (lv_at hl 0 rfl) ?_
        refine lv_if_eq (tgt := 187) hx hb dX5_looks_122 (by decide) (fun c1 => ?_) (fun c1 => ?_)
        · replace h := fp c1 h
          exact w187 M y1 y2 y3 y4 y5 _ _ ls h hP hD hS (lv_sub hl [1, 2, 3, 4, 5, 6] rfl)
        · replace h := fn c1 h
          refine lv_aload_n hx hb dX5_looks_125 rfl (lv_at hl 1 rfl) ?_
          refine va_get (D := D) (ci := 5) (v := .ref (a 9)) (C := RX5) (T := TX5) (N := 23) hx hb ht i_X5 hown hK hP 0 rfl rfl 13 (by decide) (ht _ wd_549) (fun _ h9 => h9) rfl dX5_looks_126 ?_
          refine lv_bipush (v := (16 : Int32)) hx hb dX5_looks_129 (by decide) ?_
          refine lv_iload hx hb dX5_looks_131 (lv_at hl 5 rfl) ?_
          refine lv_imul hx hb dX5_looks_133 ?_
          refine lv_iload_n hx hb dX5_looks_134 rfl (lv_at hl 4 rfl) ?_
          refine lv_iadd hx hb dX5_looks_135 ?_
          obtain ⟨i2, h⟩ := ck_ok h
          refine va_iald hx hb hK hP 9 0 rfl rfl i2 dX5_looks_136 ?_
          refine lv_aload_n hx hb dX5_looks_137 rfl (lv_at hl 1 rfl) ?_
          refine lv_iload hx hb dX5_looks_138 (lv_at hl 5 rfl) ?_
          refine lv_iconst (v := (3 : Int32)) hx hb dX5_looks_140 (by decide) ?_
          obtain ⟨u3, e4, h⟩ := b1_ok h
          refine cl_Vi (ws' := (wX5 a cI cC cO M)) ⟨hx, hb, hml, hown, ht⟩ (c_X5_pi l D cI cC cO a M y4 (3 : Int32) _ _ e4) (cwv 2 ht wd_678 wd_6 wd_675 wd_677 ws_28 (by decide +kernel) rfl rfl ⟨Nat.le_of_ble_eq_true rfl, Nat.le_of_ble_eq_true rfl⟩) 5 0 rfl rfl rfl hK hP hD hS hA hN [0, 1, 2, 3, 4, 5, 6, 7, 8, 9, 10, 11, 12] [] [0, 1, 2, 3, 4, 5, 6, 7, 8, 9, 10, 11, 12] (by decide) rfl rfl (by decide) (by decide) rfl (by decide) rfl hl.1 rfl (Nat.le_of_ble_eq_true rfl) dX5_looks_141 ⟨Nat.le_of_ble_eq_true rfl, Nat.le_of_ble_eq_true rfl⟩ (fun H locs hP hD hS => ?_)
          refine lv_iload hx hb dX5_looks_144 (lv_at hl 5 rfl) ?_
          refine lv_aload_n hx hb dX5_looks_146 rfl (lv_at hl 1 rfl) ?_
          refine va_get (D := D) (ci := 5) (v := .int (M 12 8)) (C := RX5) (T := TX5) (N := 23) hx hb ht i_X5 hown hK hP 0 rfl rfl 20 (by decide) (ht _ wd_556) (fun _ h9 => h9) rfl dX5_looks_147 ?_
          refine lv_icmp_ne (tgt := 157) hx hb dX5_looks_150 (by decide) (fun c5 => ?_) (fun c5 => ?_)
          · replace h := fn c5 h
            refine lv_iconst (v := (0 : Int32)) hx hb dX5_looks_157 (by decide) ?_
            exact w158 M y1 y2 y3 y4 y5 (0 : Int32) u3 (M 8 (((16 : Int32) * y4) + y3).toNatClampNeg) _ _ ls h hP hD hS (lv_sub hl [1, 2, 3, 4, 5, 6] rfl)
          · replace h := fp c5 h
            refine lv_iconst (v := (1 : Int32)) hx hb dX5_looks_153 (by decide) ?_
            refine lv_goto (tgt := 158) hx hb dX5_looks_154 (by decide) ?_
            exact w158 M y1 y2 y3 y4 y5 (1 : Int32) u3 (M 8 (((16 : Int32) * y4) + y3).toNatClampNeg) _ _ ls h hP hD hS (lv_sub hl [1, 2, 3, 4, 5, 6] rfl)
      have w117 : ∀ (M : Mm) (y1 y2 y3 y4 y5 : Int32) (H : Heap) (locs : List Loc) (ls : Array Slot), F_X5_looks_117 (F_X5_looks_68 n68) M y1 y2 y3 y4 y5 = some res → va_P D classes (wX5 a cI cC cO M) H → va_D A (wX5 a cI cC cO M) → va_S A s.heap H locs → lv_has ls 7 [(0, .ref (a 0)), (1, .int y1), (2, .int y2), (3, .int y3), (4, .int y4), (5, .int y5)] → W p l e ({ frames := 2, cells := 0, slots := 0, locals := 45 } : Room) s m ([.ref (a 0), .int x1] : List Value).toArray below meth c H locs 0 0 (MQ below (QV D cI cC cO A (wX5 a cI cC cO res)) ([.ref (a 0), .int x1] : List Value).toArray s 0 0 A) (F0 m 117 ls []) := by
        intro M y1 y2 y3 y4 y5 H locs ls h hP hD hS hl
        unfold F_X5_looks_117 at h
        refine lv_iconst (v := (0 : Int32)) hx hb dX5_looks_117 (by decide) ?_
        exact w118 M y1 y2 y3 y4 y5 (0 : Int32) _ _ ls h hP hD hS (lv_sub hl [0, 1, 2, 3, 4, 5] rfl)
      intro M y1 y2 y3 y4 H locs ls h hP hD hS hl
      have h : F_X5_looksB_68 (F_X5_looks_68 n68) M y1 y2 y3 y4 = some res := h
      unfold F_X5_looksB_68 at h
      refine lv_iload hx hb dX5_looks_68 (lv_at hl 4 rfl) ?_
      refine lv_aload_n hx hb dX5_looks_70 rfl (lv_at hl 0 rfl) ?_
      refine va_get (D := D) (ci := 5) (v := .ref (a 1)) (C := RX5) (T := TX5) (N := 23) hx hb ht i_X5 hown hK hP 0 rfl rfl 0 (by decide) (ht _ wd_536) (fun _ h9 => h9) rfl dX5_looks_71 ?_
      refine lv_iconst (v := (1 : Int32)) hx hb dX5_looks_74 (by decide) ?_
      obtain ⟨i1, h⟩ := ck_ok h
      refine va_iald hx hb hK hP 1 0 rfl rfl i1 dX5_looks_75 ?_
      refine lv_icmp_ge (tgt := 253) hx hb dX5_looks_76 (by decide) (fun c2 => ?_) (fun c2 => ?_)
      · replace h := fp c2 h
        cases h
        exact rt_v hx hb hr hlocks hS hP hK hD dX5_looks_253
      · replace h := fn c2 h
        refine lv_aload_n hx hb dX5_looks_79 rfl (lv_at hl 0 rfl) ?_
        refine lv_iload hx hb dX5_looks_80 (lv_at hl 4 rfl) ?_
        refine lv_iconst (v := (2 : Int32)) hx hb dX5_looks_82 (by decide) ?_
        obtain ⟨u3, e4, h⟩ := b1_ok h
        refine cl_Vi (ws' := (wX5 a cI cC cO M)) ⟨hx, hb, hml, hown, ht⟩ (c_X5_pi l D cI cC cO a M y4 (2 : Int32) _ _ e4) (cwv 2 ht wd_678 wd_6 wd_675 wd_677 ws_28 (by decide +kernel) rfl rfl ⟨Nat.le_of_ble_eq_true rfl, Nat.le_of_ble_eq_true rfl⟩) 5 0 rfl rfl rfl hK hP hD hS hA hN [0, 1, 2, 3, 4, 5, 6, 7, 8, 9, 10, 11, 12] [] [0, 1, 2, 3, 4, 5, 6, 7, 8, 9, 10, 11, 12] (by decide) rfl rfl (by decide) (by decide) rfl (by decide) rfl hl.1 rfl (Nat.le_of_ble_eq_true rfl) dX5_looks_83 ⟨Nat.le_of_ble_eq_true rfl, Nat.le_of_ble_eq_true rfl⟩ (fun H locs hP hD hS => ?_)
        refine lv_istore (lv' := [(5, .int u3), (0, .ref (a 0)), (1, .int y1), (2, .int y2), (3, .int y3), (4, .int y4)]) hx hb dX5_looks_86 hl (by decide) rfl (fun ls hl => ?_)
        refine lv_aload_n hx hb dX5_looks_88 rfl (lv_at hl 1 rfl) ?_
        refine lv_iload hx hb dX5_looks_89 (lv_at hl 5 rfl) ?_
        refine lv_iconst (v := (0 : Int32)) hx hb dX5_looks_91 (by decide) ?_
        obtain ⟨u5, e6, h⟩ := b1_ok h
        refine cl_Vi (ws' := (wX5 a cI cC cO M)) ⟨hx, hb, hml, hown, ht⟩ (c_X5_pi l D cI cC cO a M y4 (0 : Int32) _ _ e6) (cwv 2 ht wd_678 wd_6 wd_675 wd_677 ws_28 (by decide +kernel) rfl rfl ⟨Nat.le_of_ble_eq_true rfl, Nat.le_of_ble_eq_true rfl⟩) 5 0 rfl rfl rfl hK hP hD hS hA hN [0, 1, 2, 3, 4, 5, 6, 7, 8, 9, 10, 11, 12] [] [0, 1, 2, 3, 4, 5, 6, 7, 8, 9, 10, 11, 12] (by decide) rfl rfl (by decide) (by decide) rfl (by decide) rfl hl.1 rfl (Nat.le_of_ble_eq_true rfl) dX5_looks_92 ⟨Nat.le_of_ble_eq_true rfl, Nat.le_of_ble_eq_true rfl⟩ (fun H locs hP hD hS => ?_)
        refine lv_iload_n hx hb dX5_looks_95 rfl (lv_at hl 3 rfl) ?_
        refine lv_icmp_ne (tgt := 117) hx hb dX5_looks_96 (by decide) (fun c7 => ?_) (fun c7 => ?_)
        · replace h := fn c7 h
          exact w117 M y1 y2 y3 y4 u3 _ _ ls h hP hD hS (lv_sub hl [1, 2, 3, 4, 5, 0] rfl)
        · replace h := fp c7 h
          refine lv_iload_n hx hb dX5_looks_99 rfl (lv_at hl 3 rfl) ?_
          refine lv_if_eq (tgt := 117) hx hb dX5_looks_100 (by decide) (fun c8 => ?_) (fun c8 => ?_)
          · replace h := fp c8 h
            exact w117 M y1 y2 y3 y4 u3 _ _ ls h hP hD hS (lv_sub hl [1, 2, 3, 4, 5, 0] rfl)
          · replace h := fn c8 h
            refine lv_aload_n hx hb dX5_looks_103 rfl (lv_at hl 1 rfl) ?_
            refine lv_iload hx hb dX5_looks_104 (lv_at hl 5 rfl) ?_
            refine lv_iload_n hx hb dX5_looks_106 rfl (lv_at hl 4 rfl) ?_
            obtain ⟨u9, e10, h⟩ := b1_ok h
            refine cl_Vi (ws' := (wX5 a cI cC cO M)) ⟨hx, hb, hml, hown, ht⟩ (c_X5_isOpen l D cI cC cO a M y4 y3 _ _ e10) (cwv 2 ht wd_724 wd_6 wd_721 wd_723 ws_37 (by decide +kernel) rfl rfl ⟨Nat.le_of_ble_eq_true rfl, Nat.le_of_ble_eq_true rfl⟩) 5 0 rfl rfl rfl hK hP hD hS hA hN [0, 1, 2, 3, 4, 5, 6, 7, 8, 9, 10, 11, 12] [] [0, 1, 2, 3, 4, 5, 6, 7, 8, 9, 10, 11, 12] (by decide) rfl rfl (by decide) (by decide) rfl (by decide) rfl hl.1 rfl (Nat.le_of_ble_eq_true rfl) dX5_looks_107 ⟨Nat.le_of_ble_eq_true rfl, Nat.le_of_ble_eq_true rfl⟩ (fun H locs hP hD hS => ?_)
            refine lv_if_eq (tgt := 117) hx hb dX5_looks_110 (by decide) (fun c11 => ?_) (fun c11 => ?_)
            · replace h := fp c11 h
              exact w117 M y1 y2 y3 y4 u3 _ _ ls h hP hD hS (lv_sub hl [1, 2, 3, 4, 5, 0] rfl)
            · replace h := fn c11 h
              refine lv_iconst (v := (1 : Int32)) hx hb dX5_looks_113 (by decide) ?_
              refine lv_goto (tgt := 118) hx hb dX5_looks_114 (by decide) ?_
              exact w118 M y1 y2 y3 y4 u3 (1 : Int32) _ _ ls h hP hD hS (lv_sub hl [1, 2, 3, 4, 5, 0] rfl)
  have w41 : ∀ (M : Mm) (y1 y2 y3 : Int32) (H : Heap) (locs : List Loc) (ls : Array Slot), F_X5_looks_41 M y1 y2 y3 = some res → va_P D classes (wX5 a cI cC cO M) H → va_D A (wX5 a cI cC cO M) → va_S A s.heap H locs → lv_has ls 7 [(0, .ref (a 0)), (1, .int y1), (2, .int y2), (3, .int y3)] → W p l e ({ frames := 2, cells := 0, slots := 0, locals := 45 } : Room) s m ([.ref (a 0), .int x1] : List Value).toArray below meth c H locs 0 0 (MQ below (QV D cI cC cO A (wX5 a cI cC cO res)) ([.ref (a 0), .int x1] : List Value).toArray s 0 0 A) (F0 m 41 ls []) := by
    intro M y1 y2 y3 H locs ls h hP hD hS hl
    unfold F_X5_looks_41 at h
    refine lv_iload_n hx hb dX5_looks_41 rfl (lv_at hl 3 rfl) ?_
    refine lv_if_le (tgt := 65) hx hb dX5_looks_42 (by decide) (fun c1 => ?_) (fun c1 => ?_)
    · replace h := fp c1 h
      refine lv_iconst (v := (0 : Int32)) hx hb dX5_looks_65 (by decide) ?_
      refine lv_istore (lv' := [(4, .int (0 : Int32)), (0, .ref (a 0)), (1, .int y1), (2, .int y2), (3, .int y3)]) hx hb dX5_looks_66 hl (by decide) rfl (fun ls hl => ?_)
      exact w68 FU M y1 y2 y3 (0 : Int32) _ _ ls h hP hD hS (lv_sub hl [1, 2, 3, 4, 0] rfl)
    · replace h := fn c1 h
      refine lv_aload_n hx hb dX5_looks_45 rfl (lv_at hl 0 rfl) ?_
      refine va_get (D := D) (ci := 5) (v := .ref (a 8)) (C := RX5) (T := TX5) (N := 23) hx hb ht i_X5 hown hK hP 0 rfl rfl 12 (by decide) (ht _ wd_548) (fun _ h9 => h9) rfl dX5_looks_46 ?_
      refine lv_iload_n hx hb dX5_looks_49 rfl (lv_at hl 1 rfl) ?_
      refine lv_iconst (v := (1 : Int32)) hx hb dX5_looks_50 (by decide) ?_
      refine lv_isub hx hb dX5_looks_51 ?_
      obtain ⟨i2, h⟩ := ck_ok h
      refine va_iald hx hb hK hP 8 0 rfl rfl i2 dX5_looks_52 ?_
      refine lv_if_le (tgt := 65) hx hb dX5_looks_53 (by decide) (fun c3 => ?_) (fun c3 => ?_)
      · replace h := fp c3 h
        refine lv_iconst (v := (0 : Int32)) hx hb dX5_looks_65 (by decide) ?_
        refine lv_istore (lv' := [(4, .int (0 : Int32)), (0, .ref (a 0)), (1, .int y1), (2, .int y2), (3, .int y3)]) hx hb dX5_looks_66 hl (by decide) rfl (fun ls hl => ?_)
        exact w68 FU M y1 y2 y3 (0 : Int32) _ _ ls h hP hD hS (lv_sub hl [1, 2, 3, 4, 0] rfl)
      · replace h := fn c3 h
        refine lv_aload_n hx hb dX5_looks_56 rfl (lv_at hl 0 rfl) ?_
        refine lv_iload_n hx hb dX5_looks_57 rfl (lv_at hl 1 rfl) ?_
        refine lv_iconst (v := (1 : Int32)) hx hb dX5_looks_58 (by decide) ?_
        refine lv_isub hx hb dX5_looks_59 ?_
        refine lv_iload_n hx hb dX5_looks_60 rfl (lv_at hl 1 rfl) ?_
        refine lv_iconst (v := (2 : Int32)) hx hb dX5_looks_61 (by decide) ?_
        obtain ⟨M4, e5, h⟩ := b1_ok h
        refine cl_Vv (ws' := (wX5 a cI cC cO M4)) ⟨hx, hb, hml, hown, ht⟩ (c_X5_reaches l D cI cC cO a M (y1 - (1 : Int32)) y1 (2 : Int32) _ _ e5) (cwv 3 ht wd_712 wd_6 wd_709 wd_711 ws_34 (by decide +kernel) rfl rfl ⟨Nat.le_of_ble_eq_true rfl, Nat.le_of_ble_eq_true rfl⟩) 5 0 rfl rfl rfl hK hP hD hS hA hN [0, 1, 2, 3, 4, 5, 6, 7, 8, 9, 10, 11, 12] [] [0, 1, 2, 3, 4, 5, 6, 7, 8, 9, 10, 11, 12] (by decide) rfl rfl (by decide) (by decide) rfl (by decide) rfl hl.1 rfl (Nat.le_of_ble_eq_true rfl) dX5_looks_62 ⟨Nat.le_of_ble_eq_true rfl, Nat.le_of_ble_eq_true rfl⟩ (fun H locs hP hD hS => ?_)
        refine lv_iconst (v := (0 : Int32)) hx hb dX5_looks_65 (by decide) ?_
        refine lv_istore (lv' := [(4, .int (0 : Int32)), (0, .ref (a 0)), (1, .int y1), (2, .int y2), (3, .int y3)]) hx hb dX5_looks_66 hl (by decide) rfl (fun ls hl => ?_)
        exact w68 FU M4 y1 y2 y3 (0 : Int32) _ _ ls h hP hD hS (lv_sub hl [1, 2, 3, 4, 0] rfl)
  unfold F_X5_looks at h
  refine lv_iload_n hx hb dX5_looks_0 rfl (lv_at hl 1 rfl) ?_
  refine lv_bipush (v := (16 : Int32)) hx hb dX5_looks_1 (by decide) ?_
  refine lv_idiv hx hb dX5_looks_3 (by decide) ?_
  refine lv_istore_n (lv' := [(2, .int (x1 / (16 : Int32))), (0, .ref (a 0)), (1, .int x1)]) hx hb dX5_looks_4 rfl hl (by decide) rfl (fun ls hl => ?_)
  refine lv_iload_n hx hb dX5_looks_5 rfl (lv_at hl 2 rfl) ?_
  refine lv_bipush (v := (16 : Int32)) hx hb dX5_looks_6 (by decide) ?_
  refine lv_irem hx hb dX5_looks_8 (by decide) ?_
  refine lv_istore_n (lv' := [(3, .int (x1 - x1 / (16 : Int32) * (16 : Int32))), (2, .int (x1 / (16 : Int32))), (0, .ref (a 0)), (1, .int x1)]) hx hb dX5_looks_9 rfl hl (by decide) rfl (fun ls hl => ?_)
  refine lv_iload_n hx hb dX5_looks_10 rfl (lv_at hl 0 rfl) ?_
  refine lv_aload_n hx hb dX5_looks_11 rfl (lv_at hl 2 rfl) ?_
  refine va_get (D := D) (ci := 5) (v := .int (M 12 5)) (C := RX5) (T := TX5) (N := 23) hx hb ht i_X5 hown hK hP 0 rfl rfl 17 (by decide) (ht _ wd_553) (fun _ h9 => h9) rfl dX5_looks_12 ?_
  refine lv_icmp_ge (tgt := 41) hx hb dX5_looks_15 (by decide) (fun c1 => ?_) (fun c1 => ?_)
  · replace h := fp c1 h
    exact w41 M x1 (x1 / (16 : Int32)) (x1 - x1 / (16 : Int32) * (16 : Int32)) _ _ ls h hP hD hS (lv_sub hl [2, 3, 1, 0] rfl)
  · replace h := fn c1 h
    refine lv_aload_n hx hb dX5_looks_18 rfl (lv_at hl 2 rfl) ?_
    refine va_get (D := D) (ci := 5) (v := .ref (a 8)) (C := RX5) (T := TX5) (N := 23) hx hb ht i_X5 hown hK hP 0 rfl rfl 12 (by decide) (ht _ wd_548) (fun _ h9 => h9) rfl dX5_looks_19 ?_
    refine lv_iload_n hx hb dX5_looks_22 rfl (lv_at hl 3 rfl) ?_
    obtain ⟨i2, h⟩ := ck_ok h
    refine va_iald hx hb hK hP 8 0 rfl rfl i2 dX5_looks_23 ?_
    refine lv_aload_n hx hb dX5_looks_24 rfl (lv_at hl 2 rfl) ?_
    refine lv_iload_n hx hb dX5_looks_25 rfl (lv_at hl 1 rfl) ?_
    obtain ⟨u3, e4, h⟩ := b1_ok h
    refine cl_Vi (ws' := (wX5 a cI cC cO M)) ⟨hx, hb, hml, hown, ht⟩ (c_X5_roomOf l D cI cC cO a M (x1 / (16 : Int32)) _ _ e4) (cwv 1 ht wd_720 wd_6 wd_717 wd_719 ws_36 (by decide +kernel) rfl rfl ⟨Nat.le_of_ble_eq_true rfl, Nat.le_of_ble_eq_true rfl⟩) 5 0 rfl rfl rfl hK hP hD hS hA hN [0, 1, 2, 3, 4, 5, 6, 7, 8, 9, 10, 11, 12] [] [0, 1, 2, 3, 4, 5, 6, 7, 8, 9, 10, 11, 12] (by decide) rfl rfl (by decide) (by decide) rfl (by decide) rfl hl.1 rfl (Nat.le_of_ble_eq_true rfl) dX5_looks_26 ⟨Nat.le_of_ble_eq_true rfl, Nat.le_of_ble_eq_true rfl⟩ (fun H locs hP hD hS => ?_)
    refine lv_icmp_ge (tgt := 41) hx hb dX5_looks_29 (by decide) (fun c5 => ?_) (fun c5 => ?_)
    · replace h := fp c5 h
      exact w41 M x1 (x1 / (16 : Int32)) (x1 - x1 / (16 : Int32) * (16 : Int32)) _ _ ls h hP hD hS (lv_sub hl [2, 3, 1, 0] rfl)
    · replace h := fn c5 h
      refine lv_aload_n hx hb dX5_looks_32 rfl (lv_at hl 2 rfl) ?_
      refine lv_iload_n hx hb dX5_looks_33 rfl (lv_at hl 3 rfl) ?_
      refine lv_iconst (v := (1 : Int32)) hx hb dX5_looks_34 (by decide) ?_
      refine lv_iadd hx hb dX5_looks_35 ?_
      refine lv_iload_n hx hb dX5_looks_36 rfl (lv_at hl 3 rfl) ?_
      refine lv_iconst (v := (1 : Int32)) hx hb dX5_looks_37 (by decide) ?_
      obtain ⟨M6, e7, h⟩ := b1_ok h
      refine cl_Vv (ws' := (wX5 a cI cC cO M6)) ⟨hx, hb, hml, hown, ht⟩ (c_X5_reaches l D cI cC cO a M (x1 + (1 : Int32)) x1 (1 : Int32) _ _ e7) (cwv 3 ht wd_712 wd_6 wd_709 wd_711 ws_34 (by decide +kernel) rfl rfl ⟨Nat.le_of_ble_eq_true rfl, Nat.le_of_ble_eq_true rfl⟩) 5 0 rfl rfl rfl hK hP hD hS hA hN [0, 1, 2, 3, 4, 5, 6, 7, 8, 9, 10, 11, 12] [] [0, 1, 2, 3, 4, 5, 6, 7, 8, 9, 10, 11, 12] (by decide) rfl rfl (by decide) (by decide) rfl (by decide) rfl hl.1 rfl (Nat.le_of_ble_eq_true rfl) dX5_looks_38 ⟨Nat.le_of_ble_eq_true rfl, Nat.le_of_ble_eq_true rfl⟩ (fun H locs hP hD hS => ?_)
      exact w41 M6 x1 (x1 / (16 : Int32)) (x1 - x1 / (16 : Int32) * (16 : Int32)) _ _ ls h hP hD hS (lv_sub hl [2, 3, 1, 0] rfl)
theorem dX5_finds_0 : decode cX5_finds 0 = .ok (.iconst 0, 1) := by decide +kernel
theorem dX5_finds_1 : decode cX5_finds 1 = .ok (.istore_n 1, 1) := by decide +kernel
theorem dX5_finds_2 : decode cX5_finds 2 = .ok (.iload_n 1, 1) := by decide +kernel
theorem dX5_finds_3 : decode cX5_finds 3 = .ok (.bipush 96, 2) := by decide +kernel
theorem dX5_finds_5 : decode cX5_finds 5 = .ok (.if_icmp .ge 16, 3) := by decide +kernel
theorem dX5_finds_8 : decode cX5_finds 8 = .ok (.aload_n 0, 1) := by decide +kernel
theorem dX5_finds_9 : decode cX5_finds 9 = .ok (.getfield 38, 3) := by decide +kernel
theorem dX5_finds_12 : decode cX5_finds 12 = .ok (.iload_n 1, 1) := by decide +kernel
theorem dX5_finds_13 : decode cX5_finds 13 = .ok (.iconst (-1), 1) := by decide +kernel
theorem dX5_finds_14 : decode cX5_finds 14 = .ok (.iastore, 1) := by decide +kernel
theorem dX5_finds_15 : decode cX5_finds 15 = .ok (.iinc 1 1, 3) := by decide +kernel
theorem dX5_finds_18 : decode cX5_finds 18 = .ok (.goto (-16), 3) := by decide +kernel
theorem dX5_finds_21 : decode cX5_finds 21 = .ok (.aload_n 0, 1) := by decide +kernel
theorem dX5_finds_22 : decode cX5_finds 22 = .ok (.iconst 0, 1) := by decide +kernel
theorem dX5_finds_23 : decode cX5_finds 23 = .ok (.putfield 115, 3) := by decide +kernel
theorem dX5_finds_26 : decode cX5_finds 26 = .ok (.iconst 0, 1) := by decide +kernel
theorem dX5_finds_27 : decode cX5_finds 27 = .ok (.istore_n 1, 1) := by decide +kernel
theorem dX5_finds_28 : decode cX5_finds 28 = .ok (.iload_n 1, 1) := by decide +kernel
theorem dX5_finds_29 : decode cX5_finds 29 = .ok (.aload_n 0, 1) := by decide +kernel
theorem dX5_finds_30 : decode cX5_finds 30 = .ok (.getfield 7, 3) := by decide +kernel
theorem dX5_finds_33 : decode cX5_finds 33 = .ok (.iconst 0, 1) := by decide +kernel
theorem dX5_finds_34 : decode cX5_finds 34 = .ok (.iaload, 1) := by decide +kernel
theorem dX5_finds_35 : decode cX5_finds 35 = .ok (.if_icmp .ge 36, 3) := by decide +kernel
theorem dX5_finds_38 : decode cX5_finds 38 = .ok (.aload_n 0, 1) := by decide +kernel
theorem dX5_finds_39 : decode cX5_finds 39 = .ok (.getfield 29, 3) := by decide +kernel
theorem dX5_finds_42 : decode cX5_finds 42 = .ok (.iload_n 1, 1) := by decide +kernel
theorem dX5_finds_43 : decode cX5_finds 43 = .ok (.iaload, 1) := by decide +kernel
theorem dX5_finds_44 : decode cX5_finds 44 = .ok (.aload_n 0, 1) := by decide +kernel
theorem dX5_finds_45 : decode cX5_finds 45 = .ok (.iload_n 1, 1) := by decide +kernel
theorem dX5_finds_46 : decode cX5_finds 46 = .ok (.invokevirtual 129, 3) := by decide +kernel
theorem dX5_finds_49 : decode cX5_finds 49 = .ok (.if_icmp .ge 16, 3) := by decide +kernel
theorem dX5_finds_52 : decode cX5_finds 52 = .ok (.aload_n 0, 1) := by decide +kernel
theorem dX5_finds_53 : decode cX5_finds 53 = .ok (.bipush 16, 2) := by decide +kernel
theorem dX5_finds_55 : decode cX5_finds 55 = .ok (.iload_n 1, 1) := by decide +kernel
theorem dX5_finds_56 : decode cX5_finds 56 = .ok (.imul, 1) := by decide +kernel
theorem dX5_finds_57 : decode cX5_finds 57 = .ok (.bipush 16, 2) := by decide +kernel
theorem dX5_finds_59 : decode cX5_finds 59 = .ok (.iload_n 1, 1) := by decide +kernel
theorem dX5_finds_60 : decode cX5_finds 60 = .ok (.imul, 1) := by decide +kernel
theorem dX5_finds_61 : decode cX5_finds 61 = .ok (.iconst 0, 1) := by decide +kernel
theorem dX5_finds_62 : decode cX5_finds 62 = .ok (.invokevirtual 121, 3) := by decide +kernel
theorem dX5_finds_65 : decode cX5_finds 65 = .ok (.iinc 1 1, 3) := by decide +kernel
theorem dX5_finds_68 : decode cX5_finds 68 = .ok (.goto (-40), 3) := by decide +kernel
theorem dX5_finds_71 : decode cX5_finds 71 = .ok (.iconst 0, 1) := by decide +kernel
theorem dX5_finds_72 : decode cX5_finds 72 = .ok (.istore_n 1, 1) := by decide +kernel
theorem dX5_finds_73 : decode cX5_finds 73 = .ok (.iload_n 1, 1) := by decide +kernel
theorem dX5_finds_74 : decode cX5_finds 74 = .ok (.aload_n 0, 1) := by decide +kernel
theorem dX5_finds_75 : decode cX5_finds 75 = .ok (.getfield 115, 3) := by decide +kernel
theorem dX5_finds_78 : decode cX5_finds 78 = .ok (.if_icmp .ge 19, 3) := by decide +kernel
theorem dX5_finds_81 : decode cX5_finds 81 = .ok (.aload_n 0, 1) := by decide +kernel
theorem dX5_finds_82 : decode cX5_finds 82 = .ok (.aload_n 0, 1) := by decide +kernel
theorem dX5_finds_83 : decode cX5_finds 83 = .ok (.getfield 44, 3) := by decide +kernel
theorem dX5_finds_86 : decode cX5_finds 86 = .ok (.iload_n 1, 1) := by decide +kernel
theorem dX5_finds_87 : decode cX5_finds 87 = .ok (.iaload, 1) := by decide +kernel
theorem dX5_finds_88 : decode cX5_finds 88 = .ok (.invokevirtual 132, 3) := by decide +kernel
theorem dX5_finds_91 : decode cX5_finds 91 = .ok (.iinc 1 1, 3) := by decide +kernel
theorem dX5_finds_94 : decode cX5_finds 94 = .ok (.goto (-21), 3) := by decide +kernel
theorem dX5_finds_97 : decode cX5_finds 97 = .ok (.aload_n 0, 1) := by decide +kernel
theorem dX5_finds_98 : decode cX5_finds 98 = .ok (.getfield 38, 3) := by decide +kernel
theorem dX5_finds_101 : decode cX5_finds 101 = .ok (.aload_n 0, 1) := by decide +kernel
theorem dX5_finds_102 : decode cX5_finds 102 = .ok (.getfield 112, 3) := by decide +kernel
theorem dX5_finds_105 : decode cX5_finds 105 = .ok (.iaload, 1) := by decide +kernel
theorem dX5_finds_106 : decode cX5_finds 106 = .ok (.ifCond .lt 7, 3) := by decide +kernel
theorem dX5_finds_109 : decode cX5_finds 109 = .ok (.iconst 1, 1) := by decide +kernel
theorem dX5_finds_110 : decode cX5_finds 110 = .ok (.goto 4, 3) := by decide +kernel
theorem dX5_finds_113 : decode cX5_finds 113 = .ok (.iconst 0, 1) := by decide +kernel
theorem dX5_finds_114 : decode cX5_finds 114 = .ok (.ireturn, 1) := by decide +kernel
set_option maxHeartbeats 4000000 in
set_option maxRecDepth 100000 in
theorem c_X5_finds (l : Launch) (D : va_G) (cI cC cO : ClassId) (a : Nat → Nat) (M : Mm) (res : Int32 × Mm) (sz : Nat) (h : F_X5_finds M = some res) : Met l yX5_finds (Cond.code yX5_finds cX5_finds 2 (Option.some Jvm.ClassFile.FieldType.boolean) :: lw_g) ({ frames := 3, cells := 0, slots := 0, locals := 71 } : Room) (va_Pc [.ref (a 0)] (pS D cI cC cO sz (wX5 a cI cC cO M))) (QI D cI cC cO (va_A (wX5 a cI cC cO M) sz) (wX5 a cI cC cO res.2) res.1) 0 0 (va_A (wX5 a cI cC cO M) sz) := by
  refine Met.ofW (cc := cX5_finds) (maxL := 2) (ret := (Option.some Jvm.ClassFile.FieldType.boolean)) (by decide) rfl ?_
  intro p e s m args below meth c s₁ B hml hv
  obtain ⟨rfl, rfl, hP, hK, hD0, hN⟩ := hv
  have hx := B.exec
  have hb := B.bytes
  have hr := B.returns
  have ht : ∀ w ∈ lw_g, w.before ([.ref (a 0)] : List Value).toArray s = true := fun w hw => atoms_spec (ws := Cond.code yX5_finds cX5_finds 2 (Option.some Jvm.ClassFile.FieldType.boolean) :: lw_g) B.pre w (List.mem_cons_of_mem _ hw)
  have hown : s.vm.findClass RX5 = some m.cls := findClass_of_methodNamed B.named
  have hlocks := B.notSynchronized
  have hD := hD0.self (sz := s.heap.size)
  generalize hAe : va_A (wX5 a cI cC cO M) s.heap.size = A at hD ⊢
  have hA : ∀ q : Nat, s.heap.size ≤ q → A q := fun q hq => by rw [← hAe]; exact Or.inr hq
  have hS : va_S A s.heap s.heap [] := va_S.rf
  have hl := lv_entry ([.ref (a 0)]) (n := 2) (Nat.le_of_ble_eq_true rfl)
  rw [lg_entry_eq]
  generalize (lg_sl ([.ref (a 0)]) ++ List.replicate (2 - (lg_sl ([.ref (a 0)])).length) Slot.unset).toArray = ls at hl ⊢
  have hl : lv_has ls 2 [(0, .ref (a 0))] := hl
  have w73 : ∀ (n73 : Nat) (M : Mm) (y1 : Int32) (H : Heap) (locs : List Loc) (ls : Array Slot), F_X5_finds_73 n73 M y1 = some res → va_P D classes (wX5 a cI cC cO M) H → va_D A (wX5 a cI cC cO M) → va_S A s.heap H locs → lv_has ls 2 [(0, .ref (a 0)), (1, .int y1)] → W p l e ({ frames := 3, cells := 0, slots := 0, locals := 71 } : Room) s m ([.ref (a 0)] : List Value).toArray below meth c H locs 0 0 (MQ below (QI D cI cC cO A (wX5 a cI cC cO res.2) res.1) ([.ref (a 0)] : List Value).toArray s 0 0 A) (F0 m 73 ls []) := by
    intro n73
    induction n73 with
    | zero => intro M y1 H locs ls h hP hD hS hl; exact absurd (show (none : Option (Int32 × Mm)) = some res from h) (by simp)
    | succ n73 ih73 =>
      intro M y1 H locs ls h hP hD hS hl
      have h : F_X5_findsB_73 (F_X5_finds_73 n73) M y1 = some res := h
      unfold F_X5_findsB_73 at h
      refine lv_iload_n hx hb dX5_finds_73 rfl (lv_at hl 1 rfl) ?_
      refine lv_aload_n hx hb dX5_finds_74 rfl (lv_at hl 0 rfl) ?_
      refine va_get (D := D) (ci := 5) (v := .int (M 12 6)) (C := RX5) (T := TX5) (N := 23) hx hb ht i_X5 hown hK hP 0 rfl rfl 18 (by decide) (ht _ wd_554) (fun _ h9 => h9) rfl dX5_finds_75 ?_
      refine lv_icmp_ge (tgt := 97) hx hb dX5_finds_78 (by decide) (fun c1 => ?_) (fun c1 => ?_)
      · replace h := fp c1 h
        refine lv_aload_n hx hb dX5_finds_97 rfl (lv_at hl 0 rfl) ?_
        refine va_get (D := D) (ci := 5) (v := .ref (a 10)) (C := RX5) (T := TX5) (N := 23) hx hb ht i_X5 hown hK hP 0 rfl rfl 14 (by decide) (ht _ wd_550) (fun _ h9 => h9) rfl dX5_finds_98 ?_
        refine lv_aload_n hx hb dX5_finds_101 rfl (lv_at hl 0 rfl) ?_
        refine va_get (D := D) (ci := 5) (v := .int (M 12 5)) (C := RX5) (T := TX5) (N := 23) hx hb ht i_X5 hown hK hP 0 rfl rfl 17 (by decide) (ht _ wd_553) (fun _ h9 => h9) rfl dX5_finds_102 ?_
        obtain ⟨i2, h⟩ := ck_ok h
        refine va_iald hx hb hK hP 10 0 rfl rfl i2 dX5_finds_105 ?_
        refine lv_if_lt (tgt := 113) hx hb dX5_finds_106 (by decide) (fun c3 => ?_) (fun c3 => ?_)
        · replace h := fp c3 h
          refine lv_iconst (v := (0 : Int32)) hx hb dX5_finds_113 (by decide) ?_
          cases h
          exact rt_z (v := (0 : Int32)) hx hb hr rfl hlocks hS hP hK hD dX5_finds_114
        · replace h := fn c3 h
          refine lv_iconst (v := (1 : Int32)) hx hb dX5_finds_109 (by decide) ?_
          refine lv_goto (tgt := 114) hx hb dX5_finds_110 (by decide) ?_
          cases h
          exact rt_z (v := (1 : Int32)) hx hb hr rfl hlocks hS hP hK hD dX5_finds_114
      · replace h := fn c1 h
        refine lv_aload_n hx hb dX5_finds_81 rfl (lv_at hl 0 rfl) ?_
        refine lv_aload_n hx hb dX5_finds_82 rfl (lv_at hl 0 rfl) ?_
        refine va_get (D := D) (ci := 5) (v := .ref (a 12)) (C := RX5) (T := TX5) (N := 23) hx hb ht i_X5 hown hK hP 0 rfl rfl 16 (by decide) (ht _ wd_552) (fun _ h9 => h9) rfl dX5_finds_83 ?_
        refine lv_iload_n hx hb dX5_finds_86 rfl (lv_at hl 1 rfl) ?_
        obtain ⟨i4, h⟩ := ck_ok h
        refine va_iald hx hb hK hP 12 0 rfl rfl i4 dX5_finds_87 ?_
        obtain ⟨M5, e6, h⟩ := b1_ok h
        refine cl_Vv (ws' := (wX5 a cI cC cO M5)) ⟨hx, hb, hml, hown, ht⟩ (c_X5_looks l D cI cC cO a M (M 11 y1.toNatClampNeg) _ _ e6) (cwv 1 ht wd_716 wd_6 wd_713 wd_715 ws_35 (by decide +kernel) rfl rfl ⟨Nat.le_of_ble_eq_true rfl, Nat.le_of_ble_eq_true rfl⟩) 5 0 rfl rfl rfl hK hP hD hS hA hN [0, 1, 2, 3, 4, 5, 6, 7, 8, 9, 10, 11, 12] [] [0, 1, 2, 3, 4, 5, 6, 7, 8, 9, 10, 11, 12] (by decide) rfl rfl (by decide) (by decide) rfl (by decide) rfl hl.1 rfl (Nat.le_of_ble_eq_true rfl) dX5_finds_88 ⟨Nat.le_of_ble_eq_true rfl, Nat.le_of_ble_eq_true rfl⟩ (fun H locs hP hD hS => ?_)
        refine lv_iinc (v := (y1 + 1)) (lv' := [(1, .int (y1 + 1)), (0, .ref (a 0))]) hx hb dX5_finds_91 hl (k := 1) rfl rfl (by decide) rfl (fun ls hl => ?_)
        refine lv_goto (tgt := 73) hx hb dX5_finds_94 (by decide) ?_
        exact ih73 M5 (y1 + 1) _ _ ls h hP hD hS (lv_sub hl [1, 0] rfl)
  have w28 : ∀ (n28 : Nat) (M : Mm) (y1 : Int32) (H : Heap) (locs : List Loc) (ls : Array Slot), F_X5_finds_28 n28 M y1 = some res → va_P D classes (wX5 a cI cC cO M) H → va_D A (wX5 a cI cC cO M) → va_S A s.heap H locs → lv_has ls 2 [(0, .ref (a 0)), (1, .int y1)] → W p l e ({ frames := 3, cells := 0, slots := 0, locals := 71 } : Room) s m ([.ref (a 0)] : List Value).toArray below meth c H locs 0 0 (MQ below (QI D cI cC cO A (wX5 a cI cC cO res.2) res.1) ([.ref (a 0)] : List Value).toArray s 0 0 A) (F0 m 28 ls []) := by
    intro n28
    induction n28 with
    | zero => intro M y1 H locs ls h hP hD hS hl; exact absurd (show (none : Option (Int32 × Mm)) = some res from h) (by simp)
    | succ n28 ih28 =>
      intro M y1 H locs ls h hP hD hS hl
      have h : F_X5_findsB_28 (F_X5_finds_28 n28) M y1 = some res := h
      unfold F_X5_findsB_28 at h
      refine lv_iload_n hx hb dX5_finds_28 rfl (lv_at hl 1 rfl) ?_
      refine lv_aload_n hx hb dX5_finds_29 rfl (lv_at hl 0 rfl) ?_
      refine va_get (D := D) (ci := 5) (v := .ref (a 1)) (C := RX5) (T := TX5) (N := 23) hx hb ht i_X5 hown hK hP 0 rfl rfl 0 (by decide) (ht _ wd_536) (fun _ h9 => h9) rfl dX5_finds_30 ?_
      refine lv_iconst (v := (0 : Int32)) hx hb dX5_finds_33 (by decide) ?_
      obtain ⟨i1, h⟩ := ck_ok h
      refine va_iald hx hb hK hP 1 0 rfl rfl i1 dX5_finds_34 ?_
      refine lv_icmp_ge (tgt := 71) hx hb dX5_finds_35 (by decide) (fun c2 => ?_) (fun c2 => ?_)
      · replace h := fp c2 h
        refine lv_iconst (v := (0 : Int32)) hx hb dX5_finds_71 (by decide) ?_
        refine lv_istore_n (lv' := [(1, .int (0 : Int32)), (0, .ref (a 0))]) hx hb dX5_finds_72 rfl hl (by decide) rfl (fun ls hl => ?_)
        exact w73 FU M (0 : Int32) _ _ ls h hP hD hS (lv_sub hl [1, 0] rfl)
      · replace h := fn c2 h
        refine lv_aload_n hx hb dX5_finds_38 rfl (lv_at hl 0 rfl) ?_
        refine va_get (D := D) (ci := 5) (v := .ref (a 7)) (C := RX5) (T := TX5) (N := 23) hx hb ht i_X5 hown hK hP 0 rfl rfl 11 (by decide) (ht _ wd_547) (fun _ h9 => h9) rfl dX5_finds_39 ?_
        refine lv_iload_n hx hb dX5_finds_42 rfl (lv_at hl 1 rfl) ?_
        obtain ⟨i3, h⟩ := ck_ok h
        refine va_iald hx hb hK hP 7 0 rfl rfl i3 dX5_finds_43 ?_
        refine lv_aload_n hx hb dX5_finds_44 rfl (lv_at hl 0 rfl) ?_
        refine lv_iload_n hx hb dX5_finds_45 rfl (lv_at hl 1 rfl) ?_
        obtain ⟨u4, e5, h⟩ := b1_ok h
        refine cl_Vi (ws' := (wX5 a cI cC cO M)) ⟨hx, hb, hml, hown, ht⟩ (c_X5_unitsOf l D cI cC cO a M y1 _ _ e5) (cwv 1 ht wd_707 wd_6 wd_704 wd_706 ws_33 (by decide +kernel) rfl rfl ⟨Nat.le_of_ble_eq_true rfl, Nat.le_of_ble_eq_true rfl⟩) 5 0 rfl rfl rfl hK hP hD hS hA hN [0, 1, 2, 3, 4, 5, 6, 7, 8, 9, 10, 11, 12] [] [0, 1, 2, 3, 4, 5, 6, 7, 8, 9, 10, 11, 12] (by decide) rfl rfl (by decide) (by decide) rfl (by decide) rfl hl.1 rfl (Nat.le_of_ble_eq_true rfl) dX5_finds_46 ⟨Nat.le_of_ble_eq_true rfl, Nat.le_of_ble_eq_true rfl⟩ (fun H locs hP hD hS => ?_)
        refine lv_icmp_ge (tgt := 65) hx hb dX5_finds_49 (by decide) (fun c6 => ?_) (fun c6 => ?_)
        · replace h := fp c6 h
          refine lv_iinc (v := (y1 + 1)) (lv' := [(1, .int (y1 + 1)), (0, .ref (a 0))]) hx hb dX5_finds_65 hl (k := 1) rfl rfl (by decide) rfl (fun ls hl => ?_)
          refine lv_goto (tgt := 28) hx hb dX5_finds_68 (by decide) ?_
          exact ih28 M (y1 + 1) _ _ ls h hP hD hS (lv_sub hl [1, 0] rfl)
        · replace h := fn c6 h
          refine lv_aload_n hx hb dX5_finds_52 rfl (lv_at hl 0 rfl) ?_
          refine lv_bipush (v := (16 : Int32)) hx hb dX5_finds_53 (by decide) ?_
          refine lv_iload_n hx hb dX5_finds_55 rfl (lv_at hl 1 rfl) ?_
          refine lv_imul hx hb dX5_finds_56 ?_
          refine lv_bipush (v := (16 : Int32)) hx hb dX5_finds_57 (by decide) ?_
          refine lv_iload_n hx hb dX5_finds_59 rfl (lv_at hl 1 rfl) ?_
          refine lv_imul hx hb dX5_finds_60 ?_
          refine lv_iconst (v := (0 : Int32)) hx hb dX5_finds_61 (by decide) ?_
          obtain ⟨M7, e8, h⟩ := b1_ok h
          refine cl_Vv (ws' := (wX5 a cI cC cO M7)) ⟨hx, hb, hml, hown, ht⟩ (c_X5_reaches l D cI cC cO a M ((16 : Int32) * y1) ((16 : Int32) * y1) (0 : Int32) _ _ e8) (cwv 3 ht wd_712 wd_6 wd_709 wd_711 ws_34 (by decide +kernel) rfl rfl ⟨Nat.le_of_ble_eq_true rfl, Nat.le_of_ble_eq_true rfl⟩) 5 0 rfl rfl rfl hK hP hD hS hA hN [0, 1, 2, 3, 4, 5, 6, 7, 8, 9, 10, 11, 12] [] [0, 1, 2, 3, 4, 5, 6, 7, 8, 9, 10, 11, 12] (by decide) rfl rfl (by decide) (by decide) rfl (by decide) rfl hl.1 rfl (Nat.le_of_ble_eq_true rfl) dX5_finds_62 ⟨Nat.le_of_ble_eq_true rfl, Nat.le_of_ble_eq_true rfl⟩ (fun H locs hP hD hS => ?_)
          refine lv_iinc (v := (y1 + 1)) (lv' := [(1, .int (y1 + 1)), (0, .ref (a 0))]) hx hb dX5_finds_65 hl (k := 1) rfl rfl (by decide) rfl (fun ls hl => ?_)
          refine lv_goto (tgt := 28) hx hb dX5_finds_68 (by decide) ?_
          exact ih28 M7 (y1 + 1) _ _ ls h hP hD hS (lv_sub hl [1, 0] rfl)
  have w2 : ∀ (n2 : Nat) (M : Mm) (y1 : Int32) (H : Heap) (locs : List Loc) (ls : Array Slot), F_X5_finds_2 n2 M y1 = some res → va_P D classes (wX5 a cI cC cO M) H → va_D A (wX5 a cI cC cO M) → va_S A s.heap H locs → lv_has ls 2 [(0, .ref (a 0)), (1, .int y1)] → W p l e ({ frames := 3, cells := 0, slots := 0, locals := 71 } : Room) s m ([.ref (a 0)] : List Value).toArray below meth c H locs 0 0 (MQ below (QI D cI cC cO A (wX5 a cI cC cO res.2) res.1) ([.ref (a 0)] : List Value).toArray s 0 0 A) (F0 m 2 ls []) := by
    intro n2
    induction n2 with
    | zero => intro M y1 H locs ls h hP hD hS hl; exact absurd (show (none : Option (Int32 × Mm)) = some res from h) (by simp)
    | succ n2 ih2 =>
      intro M y1 H locs ls h hP hD hS hl
      have h : F_X5_findsB_2 (F_X5_finds_2 n2) M y1 = some res := h
      unfold F_X5_findsB_2 at h
      refine lv_iload_n hx hb dX5_finds_2 rfl (lv_at hl 1 rfl) ?_
      refine lv_bipush (v := (96 : Int32)) hx hb dX5_finds_3 (by decide) ?_
      refine lv_icmp_ge (tgt := 21) hx hb dX5_finds_5 (by decide) (fun c1 => ?_) (fun c1 => ?_)
      · replace h := fp c1 h
        refine lv_aload_n hx hb dX5_finds_21 rfl (lv_at hl 0 rfl) ?_
        refine lv_iconst (v := (0 : Int32)) hx hb dX5_finds_22 (by decide) ?_
        refine va_put (D := D) (ci := 5) (v := .int (0 : Int32)) (ty := .int) (C := RX5) (T := TX5) (N := 23) hx hb ht i_X5 tyX5 tyX5_ok nmX5 hown hK hP hD hS 0 rfl rfl 18 (by decide) (ht _ wd_554) (fun _ h9 => h9) rfl (by decide +kernel) rfl rfl (Nat.le_of_ble_eq_true rfl) dX5_finds_23 (fun H locs hP hD hS => ?_)
        obtain ⟨M2, e3, h⟩ := sv_ok h
        have hP : va_P D classes (wX5 a cI cC cO M2) H := by rw [← e3]; exact hP
        have hD : va_D A (wX5 a cI cC cO M2) := by rw [← e3]; exact hD
        refine lv_iconst (v := (0 : Int32)) hx hb dX5_finds_26 (by decide) ?_
        refine lv_istore_n (lv' := [(1, .int (0 : Int32)), (0, .ref (a 0))]) hx hb dX5_finds_27 rfl hl (by decide) rfl (fun ls hl => ?_)
        exact w28 FU M2 (0 : Int32) _ _ ls h hP hD hS (lv_sub hl [1, 0] rfl)
      · replace h := fn c1 h
        refine lv_aload_n hx hb dX5_finds_8 rfl (lv_at hl 0 rfl) ?_
        refine va_get (D := D) (ci := 5) (v := .ref (a 10)) (C := RX5) (T := TX5) (N := 23) hx hb ht i_X5 hown hK hP 0 rfl rfl 14 (by decide) (ht _ wd_550) (fun _ h9 => h9) rfl dX5_finds_9 ?_
        refine lv_iload_n hx hb dX5_finds_12 rfl (lv_at hl 1 rfl) ?_
        refine lv_iconst (v := (-1 : Int32)) hx hb dX5_finds_13 (by decide) ?_
        obtain ⟨i4, h⟩ := ck_ok h
        refine va_iast hx hb hK hP hD hS 10 0 rfl rfl i4 dX5_finds_14 (fun H locs hP hD hS => ?_)
        obtain ⟨M5, e6, h⟩ := sv_ok h
        have hP : va_P D classes (wX5 a cI cC cO M5) H := by rw [← e6]; exact hP
        have hD : va_D A (wX5 a cI cC cO M5) := by rw [← e6]; exact hD
        refine lv_iinc (v := (y1 + 1)) (lv' := [(1, .int (y1 + 1)), (0, .ref (a 0))]) hx hb dX5_finds_15 hl (k := 1) rfl rfl (by decide) rfl (fun ls hl => ?_)
        refine lv_goto (tgt := 2) hx hb dX5_finds_18 (by decide) ?_
        exact ih2 M5 (y1 + 1) _ _ ls h hP hD hS (lv_sub hl [1, 0] rfl)
  unfold F_X5_finds at h
  refine lv_iconst (v := (0 : Int32)) hx hb dX5_finds_0 (by decide) ?_
  refine lv_istore_n (lv' := [(1, .int (0 : Int32)), (0, .ref (a 0))]) hx hb dX5_finds_1 rfl hl (by decide) rfl (fun ls hl => ?_)
  exact w2 FU M (0 : Int32) _ _ ls h hP hD hS (lv_sub hl [1, 0] rfl)
theorem dX5_goes_0 : decode cX5_goes 0 = .ok (.aload_n 0, 1) := by decide +kernel
theorem dX5_goes_1 : decode cX5_goes 1 = .ok (.getfield 112, 3) := by decide +kernel
theorem dX5_goes_4 : decode cX5_goes 4 = .ok (.istore_n 1, 1) := by decide +kernel
theorem dX5_goes_5 : decode cX5_goes 5 = .ok (.aload_n 0, 1) := by decide +kernel
theorem dX5_goes_6 : decode cX5_goes 6 = .ok (.getfield 41, 3) := by decide +kernel
theorem dX5_goes_9 : decode cX5_goes 9 = .ok (.iload_n 1, 1) := by decide +kernel
theorem dX5_goes_10 : decode cX5_goes 10 = .ok (.iaload, 1) := by decide +kernel
theorem dX5_goes_11 : decode cX5_goes 11 = .ok (.ifCond .eq 121, 3) := by decide +kernel
theorem dX5_goes_14 : decode cX5_goes 14 = .ok (.aload_n 0, 1) := by decide +kernel
theorem dX5_goes_15 : decode cX5_goes 15 = .ok (.getfield 38, 3) := by decide +kernel
theorem dX5_goes_18 : decode cX5_goes 18 = .ok (.iload_n 1, 1) := by decide +kernel
theorem dX5_goes_19 : decode cX5_goes 19 = .ok (.iaload, 1) := by decide +kernel
theorem dX5_goes_20 : decode cX5_goes 20 = .ok (.istore_n 2, 1) := by decide +kernel
theorem dX5_goes_21 : decode cX5_goes 21 = .ok (.aload_n 0, 1) := by decide +kernel
theorem dX5_goes_22 : decode cX5_goes 22 = .ok (.getfield 41, 3) := by decide +kernel
theorem dX5_goes_25 : decode cX5_goes 25 = .ok (.iload_n 1, 1) := by decide +kernel
theorem dX5_goes_26 : decode cX5_goes 26 = .ok (.iaload, 1) := by decide +kernel
theorem dX5_goes_27 : decode cX5_goes 27 = .ok (.bipush 16, 2) := by decide +kernel
theorem dX5_goes_29 : decode cX5_goes 29 = .ok (.irem, 1) := by decide +kernel
theorem dX5_goes_30 : decode cX5_goes 30 = .ok (.istore_n 3, 1) := by decide +kernel
theorem dX5_goes_31 : decode cX5_goes 31 = .ok (.aload_n 0, 1) := by decide +kernel
theorem dX5_goes_32 : decode cX5_goes 32 = .ok (.getfield 41, 3) := by decide +kernel
theorem dX5_goes_35 : decode cX5_goes 35 = .ok (.iload_n 1, 1) := by decide +kernel
theorem dX5_goes_36 : decode cX5_goes 36 = .ok (.iaload, 1) := by decide +kernel
theorem dX5_goes_37 : decode cX5_goes 37 = .ok (.iconst 1, 1) := by decide +kernel
theorem dX5_goes_38 : decode cX5_goes 38 = .ok (.if_icmp .ne 16, 3) := by decide +kernel
theorem dX5_goes_41 : decode cX5_goes 41 = .ok (.aload_n 0, 1) := by decide +kernel
theorem dX5_goes_42 : decode cX5_goes 42 = .ok (.getfield 32, 3) := by decide +kernel
theorem dX5_goes_45 : decode cX5_goes 45 = .ok (.iload_n 2, 1) := by decide +kernel
theorem dX5_goes_46 : decode cX5_goes 46 = .ok (.dup2, 1) := by decide +kernel
theorem dX5_goes_47 : decode cX5_goes 47 = .ok (.iaload, 1) := by decide +kernel
theorem dX5_goes_48 : decode cX5_goes 48 = .ok (.iconst 1, 1) := by decide +kernel
theorem dX5_goes_49 : decode cX5_goes 49 = .ok (.iadd, 1) := by decide +kernel
theorem dX5_goes_50 : decode cX5_goes 50 = .ok (.iastore, 1) := by decide +kernel
theorem dX5_goes_51 : decode cX5_goes 51 = .ok (.goto 76, 3) := by decide +kernel
theorem dX5_goes_54 : decode cX5_goes 54 = .ok (.aload_n 0, 1) := by decide +kernel
theorem dX5_goes_55 : decode cX5_goes 55 = .ok (.getfield 41, 3) := by decide +kernel
theorem dX5_goes_58 : decode cX5_goes 58 = .ok (.iload_n 1, 1) := by decide +kernel
theorem dX5_goes_59 : decode cX5_goes 59 = .ok (.iaload, 1) := by decide +kernel
theorem dX5_goes_60 : decode cX5_goes 60 = .ok (.iconst 2, 1) := by decide +kernel
theorem dX5_goes_61 : decode cX5_goes 61 = .ok (.if_icmp .ne 16, 3) := by decide +kernel
theorem dX5_goes_64 : decode cX5_goes 64 = .ok (.aload_n 0, 1) := by decide +kernel
theorem dX5_goes_65 : decode cX5_goes 65 = .ok (.getfield 32, 3) := by decide +kernel
theorem dX5_goes_68 : decode cX5_goes 68 = .ok (.iload_n 1, 1) := by decide +kernel
theorem dX5_goes_69 : decode cX5_goes 69 = .ok (.dup2, 1) := by decide +kernel
theorem dX5_goes_70 : decode cX5_goes 70 = .ok (.iaload, 1) := by decide +kernel
theorem dX5_goes_71 : decode cX5_goes 71 = .ok (.iconst 1, 1) := by decide +kernel
theorem dX5_goes_72 : decode cX5_goes 72 = .ok (.isub, 1) := by decide +kernel
theorem dX5_goes_73 : decode cX5_goes 73 = .ok (.iastore, 1) := by decide +kernel
theorem dX5_goes_74 : decode cX5_goes 74 = .ok (.goto 53, 3) := by decide +kernel
theorem dX5_goes_77 : decode cX5_goes 77 = .ok (.aload_n 0, 1) := by decide +kernel
theorem dX5_goes_78 : decode cX5_goes 78 = .ok (.getfield 41, 3) := by decide +kernel
theorem dX5_goes_81 : decode cX5_goes 81 = .ok (.iload_n 1, 1) := by decide +kernel
theorem dX5_goes_82 : decode cX5_goes 82 = .ok (.iaload, 1) := by decide +kernel
theorem dX5_goes_83 : decode cX5_goes 83 = .ok (.bipush 32, 2) := by decide +kernel
theorem dX5_goes_85 : decode cX5_goes 85 = .ok (.if_icmp .ge 24, 3) := by decide +kernel
theorem dX5_goes_88 : decode cX5_goes 88 = .ok (.aload_n 0, 1) := by decide +kernel
theorem dX5_goes_89 : decode cX5_goes 89 = .ok (.getfield 35, 3) := by decide +kernel
theorem dX5_goes_92 : decode cX5_goes 92 = .ok (.bipush 16, 2) := by decide +kernel
theorem dX5_goes_94 : decode cX5_goes 94 = .ok (.iload_n 3, 1) := by decide +kernel
theorem dX5_goes_95 : decode cX5_goes 95 = .ok (.imul, 1) := by decide +kernel
theorem dX5_goes_96 : decode cX5_goes 96 = .ok (.iload_n 2, 1) := by decide +kernel
theorem dX5_goes_97 : decode cX5_goes 97 = .ok (.bipush 16, 2) := by decide +kernel
theorem dX5_goes_99 : decode cX5_goes 99 = .ok (.irem, 1) := by decide +kernel
theorem dX5_goes_100 : decode cX5_goes 100 = .ok (.iadd, 1) := by decide +kernel
theorem dX5_goes_101 : decode cX5_goes 101 = .ok (.dup2, 1) := by decide +kernel
theorem dX5_goes_102 : decode cX5_goes 102 = .ok (.iaload, 1) := by decide +kernel
theorem dX5_goes_103 : decode cX5_goes 103 = .ok (.iconst 1, 1) := by decide +kernel
theorem dX5_goes_104 : decode cX5_goes 104 = .ok (.iadd, 1) := by decide +kernel
theorem dX5_goes_105 : decode cX5_goes 105 = .ok (.iastore, 1) := by decide +kernel
theorem dX5_goes_106 : decode cX5_goes 106 = .ok (.goto 21, 3) := by decide +kernel
theorem dX5_goes_109 : decode cX5_goes 109 = .ok (.aload_n 0, 1) := by decide +kernel
theorem dX5_goes_110 : decode cX5_goes 110 = .ok (.getfield 35, 3) := by decide +kernel
theorem dX5_goes_113 : decode cX5_goes 113 = .ok (.bipush 16, 2) := by decide +kernel
theorem dX5_goes_115 : decode cX5_goes 115 = .ok (.iload_n 3, 1) := by decide +kernel
theorem dX5_goes_116 : decode cX5_goes 116 = .ok (.imul, 1) := by decide +kernel
theorem dX5_goes_117 : decode cX5_goes 117 = .ok (.iload_n 1, 1) := by decide +kernel
theorem dX5_goes_118 : decode cX5_goes 118 = .ok (.bipush 16, 2) := by decide +kernel
theorem dX5_goes_120 : decode cX5_goes 120 = .ok (.irem, 1) := by decide +kernel
theorem dX5_goes_121 : decode cX5_goes 121 = .ok (.iadd, 1) := by decide +kernel
theorem dX5_goes_122 : decode cX5_goes 122 = .ok (.dup2, 1) := by decide +kernel
theorem dX5_goes_123 : decode cX5_goes 123 = .ok (.iaload, 1) := by decide +kernel
theorem dX5_goes_124 : decode cX5_goes 124 = .ok (.iconst 1, 1) := by decide +kernel
theorem dX5_goes_125 : decode cX5_goes 125 = .ok (.isub, 1) := by decide +kernel
theorem dX5_goes_126 : decode cX5_goes 126 = .ok (.iastore, 1) := by decide +kernel
theorem dX5_goes_127 : decode cX5_goes 127 = .ok (.iload_n 2, 1) := by decide +kernel
theorem dX5_goes_128 : decode cX5_goes 128 = .ok (.istore_n 1, 1) := by decide +kernel
theorem dX5_goes_129 : decode cX5_goes 129 = .ok (.goto (-124), 3) := by decide +kernel
theorem dX5_goes_132 : decode cX5_goes 132 = .ok (.aload_n 0, 1) := by decide +kernel
theorem dX5_goes_133 : decode cX5_goes 133 = .ok (.getfield 29, 3) := by decide +kernel
theorem dX5_goes_136 : decode cX5_goes 136 = .ok (.iload_n 1, 1) := by decide +kernel
theorem dX5_goes_137 : decode cX5_goes 137 = .ok (.bipush 16, 2) := by decide +kernel
theorem dX5_goes_139 : decode cX5_goes 139 = .ok (.idiv, 1) := by decide +kernel
theorem dX5_goes_140 : decode cX5_goes 140 = .ok (.dup2, 1) := by decide +kernel
theorem dX5_goes_141 : decode cX5_goes 141 = .ok (.iaload, 1) := by decide +kernel
theorem dX5_goes_142 : decode cX5_goes 142 = .ok (.iconst 1, 1) := by decide +kernel
theorem dX5_goes_143 : decode cX5_goes 143 = .ok (.iadd, 1) := by decide +kernel
theorem dX5_goes_144 : decode cX5_goes 144 = .ok (.iastore, 1) := by decide +kernel
theorem dX5_goes_145 : decode cX5_goes 145 = .ok (.return_, 1) := by decide +kernel
set_option maxHeartbeats 4000000 in
set_option maxRecDepth 100000 in
theorem c_X5_goes (l : Launch) (D : va_G) (cI cC cO : ClassId) (a : Nat → Nat) (M : Mm) (res : Mm) (sz : Nat) (h : F_X5_goes M = some res) : Met l yX5_goes (Cond.code yX5_goes cX5_goes 4 (Option.none : Option Jvm.ClassFile.FieldType) :: lw_g) ({ frames := 0, cells := 0, slots := 0, locals := 0 } : Room) (va_Pc [.ref (a 0)] (pS D cI cC cO sz (wX5 a cI cC cO M))) (QV D cI cC cO (va_A (wX5 a cI cC cO M) sz) (wX5 a cI cC cO res)) 0 0 (va_A (wX5 a cI cC cO M) sz) := by
  refine Met.ofW (cc := cX5_goes) (maxL := 4) (ret := (Option.none : Option Jvm.ClassFile.FieldType)) (by decide) rfl ?_
  intro p e s m args below meth c s₁ B hml hv
  obtain ⟨rfl, rfl, hP, hK, hD0, hN⟩ := hv
  have hx := B.exec
  have hb := B.bytes
  have hr := B.returns
  have ht : ∀ w ∈ lw_g, w.before ([.ref (a 0)] : List Value).toArray s = true := fun w hw => atoms_spec (ws := Cond.code yX5_goes cX5_goes 4 (Option.none : Option Jvm.ClassFile.FieldType) :: lw_g) B.pre w (List.mem_cons_of_mem _ hw)
  have hown : s.vm.findClass RX5 = some m.cls := findClass_of_methodNamed B.named
  have hlocks := B.notSynchronized
  have hD := hD0.self (sz := s.heap.size)
  generalize hAe : va_A (wX5 a cI cC cO M) s.heap.size = A at hD ⊢
  have hA : ∀ q : Nat, s.heap.size ≤ q → A q := fun q hq => by rw [← hAe]; exact Or.inr hq
  have hS : va_S A s.heap s.heap [] := va_S.rf
  have hl := lv_entry ([.ref (a 0)]) (n := 4) (Nat.le_of_ble_eq_true rfl)
  rw [lg_entry_eq]
  generalize (lg_sl ([.ref (a 0)]) ++ List.replicate (4 - (lg_sl ([.ref (a 0)])).length) Slot.unset).toArray = ls at hl ⊢
  have hl : lv_has ls 4 [(0, .ref (a 0))] := hl
  have w5 : ∀ (n5 : Nat) (M : Mm) (y1 : Int32) (H : Heap) (locs : List Loc) (ls : Array Slot), F_X5_goes_5 n5 M y1 = some res → va_P D classes (wX5 a cI cC cO M) H → va_D A (wX5 a cI cC cO M) → va_S A s.heap H locs → lv_has ls 4 [(0, .ref (a 0)), (1, .int y1)] → W p l e ({ frames := 0, cells := 0, slots := 0, locals := 0 } : Room) s m ([.ref (a 0)] : List Value).toArray below meth c H locs 0 0 (MQ below (QV D cI cC cO A (wX5 a cI cC cO res)) ([.ref (a 0)] : List Value).toArray s 0 0 A) (F0 m 5 ls []) := by
    intro n5
    induction n5 with
    | zero => intro M y1 H locs ls h hP hD hS hl; exact absurd (show (none : Option (Mm)) = some res from h) (by simp)
    | succ n5 ih5 =>
      intro M y1 H locs ls h hP hD hS hl
      have h : F_X5_goesB_5 (F_X5_goes_5 n5) M y1 = some res := h
      unfold F_X5_goesB_5 at h
      refine lv_aload_n hx hb dX5_goes_5 rfl (lv_at hl 0 rfl) ?_
      refine va_get (D := D) (ci := 5) (v := .ref (a 11)) (C := RX5) (T := TX5) (N := 23) hx hb ht i_X5 hown hK hP 0 rfl rfl 15 (by decide) (ht _ wd_551) (fun _ h9 => h9) rfl dX5_goes_6 ?_
      refine lv_iload_n hx hb dX5_goes_9 rfl (lv_at hl 1 rfl) ?_
      obtain ⟨i1, h⟩ := ck_ok h
      refine va_iald hx hb hK hP 11 0 rfl rfl i1 dX5_goes_10 ?_
      refine lv_if_eq (tgt := 132) hx hb dX5_goes_11 (by decide) (fun c2 => ?_) (fun c2 => ?_)
      · replace h := fp c2 h
        refine lv_aload_n hx hb dX5_goes_132 rfl (lv_at hl 0 rfl) ?_
        refine va_get (D := D) (ci := 5) (v := .ref (a 7)) (C := RX5) (T := TX5) (N := 23) hx hb ht i_X5 hown hK hP 0 rfl rfl 11 (by decide) (ht _ wd_547) (fun _ h9 => h9) rfl dX5_goes_133 ?_
        refine lv_iload_n hx hb dX5_goes_136 rfl (lv_at hl 1 rfl) ?_
        refine lv_bipush (v := (16 : Int32)) hx hb dX5_goes_137 (by decide) ?_
        refine lv_idiv hx hb dX5_goes_139 (by decide) ?_
        refine lv_dup2_11 hx hb dX5_goes_140 rfl rfl ?_
        obtain ⟨i3, h⟩ := ck_ok h
        refine va_iald hx hb hK hP 7 0 rfl rfl i3 dX5_goes_141 ?_
        refine lv_iconst (v := (1 : Int32)) hx hb dX5_goes_142 (by decide) ?_
        refine lv_iadd hx hb dX5_goes_143 ?_
        obtain ⟨i4, h⟩ := ck_ok h
        refine va_iast hx hb hK hP hD hS 7 0 rfl rfl i4 dX5_goes_144 (fun H locs hP hD hS => ?_)
        obtain ⟨M5, e6, h⟩ := sv_ok h
        have hP : va_P D classes (wX5 a cI cC cO M5) H := by rw [← e6]; exact hP
        have hD : va_D A (wX5 a cI cC cO M5) := by rw [← e6]; exact hD
        cases h
        exact rt_v hx hb hr hlocks hS hP hK hD dX5_goes_145
      · replace h := fn c2 h
        refine lv_aload_n hx hb dX5_goes_14 rfl (lv_at hl 0 rfl) ?_
        refine va_get (D := D) (ci := 5) (v := .ref (a 10)) (C := RX5) (T := TX5) (N := 23) hx hb ht i_X5 hown hK hP 0 rfl rfl 14 (by decide) (ht _ wd_550) (fun _ h9 => h9) rfl dX5_goes_15 ?_
        refine lv_iload_n hx hb dX5_goes_18 rfl (lv_at hl 1 rfl) ?_
        obtain ⟨i7, h⟩ := ck_ok h
        refine va_iald hx hb hK hP 10 0 rfl rfl i7 dX5_goes_19 ?_
        refine lv_istore_n (lv' := [(2, .int (M 9 y1.toNatClampNeg)), (0, .ref (a 0)), (1, .int y1)]) hx hb dX5_goes_20 rfl hl (by decide) rfl (fun ls hl => ?_)
        refine lv_aload_n hx hb dX5_goes_21 rfl (lv_at hl 1 rfl) ?_
        refine va_get (D := D) (ci := 5) (v := .ref (a 11)) (C := RX5) (T := TX5) (N := 23) hx hb ht i_X5 hown hK hP 0 rfl rfl 15 (by decide) (ht _ wd_551) (fun _ h9 => h9) rfl dX5_goes_22 ?_
        refine lv_iload_n hx hb dX5_goes_25 rfl (lv_at hl 2 rfl) ?_
        obtain ⟨i8, h⟩ := ck_ok h
        refine va_iald hx hb hK hP 11 0 rfl rfl i8 dX5_goes_26 ?_
        refine lv_bipush (v := (16 : Int32)) hx hb dX5_goes_27 (by decide) ?_
        refine lv_irem hx hb dX5_goes_29 (by decide) ?_
        refine lv_istore_n (lv' := [(3, .int ((M 10 y1.toNatClampNeg) - (M 10 y1.toNatClampNeg) / (16 : Int32) * (16 : Int32))), (2, .int (M 9 y1.toNatClampNeg)), (0, .ref (a 0)), (1, .int y1)]) hx hb dX5_goes_30 rfl hl (by decide) rfl (fun ls hl => ?_)
        refine lv_aload_n hx hb dX5_goes_31 rfl (lv_at hl 2 rfl) ?_
        refine va_get (D := D) (ci := 5) (v := .ref (a 11)) (C := RX5) (T := TX5) (N := 23) hx hb ht i_X5 hown hK hP 0 rfl rfl 15 (by decide) (ht _ wd_551) (fun _ h9 => h9) rfl dX5_goes_32 ?_
        refine lv_iload_n hx hb dX5_goes_35 rfl (lv_at hl 3 rfl) ?_
        obtain ⟨i9, h⟩ := ck_ok h
        refine va_iald hx hb hK hP 11 0 rfl rfl i9 dX5_goes_36 ?_
        refine lv_iconst (v := (1 : Int32)) hx hb dX5_goes_37 (by decide) ?_
        refine lv_icmp_ne (tgt := 54) hx hb dX5_goes_38 (by decide) (fun c10 => ?_) (fun c10 => ?_)
        · replace h := fn c10 h
          refine lv_aload_n hx hb dX5_goes_54 rfl (lv_at hl 2 rfl) ?_
          refine va_get (D := D) (ci := 5) (v := .ref (a 11)) (C := RX5) (T := TX5) (N := 23) hx hb ht i_X5 hown hK hP 0 rfl rfl 15 (by decide) (ht _ wd_551) (fun _ h9 => h9) rfl dX5_goes_55 ?_
          refine lv_iload_n hx hb dX5_goes_58 rfl (lv_at hl 3 rfl) ?_
          obtain ⟨i11, h⟩ := ck_ok h
          refine va_iald hx hb hK hP 11 0 rfl rfl i11 dX5_goes_59 ?_
          refine lv_iconst (v := (2 : Int32)) hx hb dX5_goes_60 (by decide) ?_
          refine lv_icmp_ne (tgt := 77) hx hb dX5_goes_61 (by decide) (fun c12 => ?_) (fun c12 => ?_)
          · replace h := fn c12 h
            refine lv_aload_n hx hb dX5_goes_77 rfl (lv_at hl 2 rfl) ?_
            refine va_get (D := D) (ci := 5) (v := .ref (a 11)) (C := RX5) (T := TX5) (N := 23) hx hb ht i_X5 hown hK hP 0 rfl rfl 15 (by decide) (ht _ wd_551) (fun _ h9 => h9) rfl dX5_goes_78 ?_
            refine lv_iload_n hx hb dX5_goes_81 rfl (lv_at hl 3 rfl) ?_
            obtain ⟨i13, h⟩ := ck_ok h
            refine va_iald hx hb hK hP 11 0 rfl rfl i13 dX5_goes_82 ?_
            refine lv_bipush (v := (32 : Int32)) hx hb dX5_goes_83 (by decide) ?_
            refine lv_icmp_ge (tgt := 109) hx hb dX5_goes_85 (by decide) (fun c14 => ?_) (fun c14 => ?_)
            · replace h := fp c14 h
              refine lv_aload_n hx hb dX5_goes_109 rfl (lv_at hl 2 rfl) ?_
              refine va_get (D := D) (ci := 5) (v := .ref (a 9)) (C := RX5) (T := TX5) (N := 23) hx hb ht i_X5 hown hK hP 0 rfl rfl 13 (by decide) (ht _ wd_549) (fun _ h9 => h9) rfl dX5_goes_110 ?_
              refine lv_bipush (v := (16 : Int32)) hx hb dX5_goes_113 (by decide) ?_
              refine lv_iload_n hx hb dX5_goes_115 rfl (lv_at hl 0 rfl) ?_
              refine lv_imul hx hb dX5_goes_116 ?_
              refine lv_iload_n hx hb dX5_goes_117 rfl (lv_at hl 3 rfl) ?_
              refine lv_bipush (v := (16 : Int32)) hx hb dX5_goes_118 (by decide) ?_
              refine lv_irem hx hb dX5_goes_120 (by decide) ?_
              refine lv_iadd hx hb dX5_goes_121 ?_
              refine lv_dup2_11 hx hb dX5_goes_122 rfl rfl ?_
              obtain ⟨i15, h⟩ := ck_ok h
              refine va_iald hx hb hK hP 9 0 rfl rfl i15 dX5_goes_123 ?_
              refine lv_iconst (v := (1 : Int32)) hx hb dX5_goes_124 (by decide) ?_
              refine lv_isub hx hb dX5_goes_125 ?_
              obtain ⟨i16, h⟩ := ck_ok h
              refine va_iast hx hb hK hP hD hS 9 0 rfl rfl i16 dX5_goes_126 (fun H locs hP hD hS => ?_)
              obtain ⟨M17, e18, h⟩ := sv_ok h
              have hP : va_P D classes (wX5 a cI cC cO M17) H := by rw [← e18]; exact hP
              have hD : va_D A (wX5 a cI cC cO M17) := by rw [← e18]; exact hD
              refine lv_iload_n hx hb dX5_goes_127 rfl (lv_at hl 1 rfl) ?_
              refine lv_istore_n (lv' := [(1, .int (M 9 y1.toNatClampNeg)), (3, .int ((M 10 y1.toNatClampNeg) - (M 10 y1.toNatClampNeg) / (16 : Int32) * (16 : Int32))), (2, .int (M 9 y1.toNatClampNeg)), (0, .ref (a 0))]) hx hb dX5_goes_128 rfl hl (by decide) rfl (fun ls hl => ?_)
              refine lv_goto (tgt := 5) hx hb dX5_goes_129 (by decide) ?_
              exact ih5 M17 (M 9 y1.toNatClampNeg) _ _ ls h hP hD hS (lv_sub hl [3, 0] rfl)
            · replace h := fn c14 h
              refine lv_aload_n hx hb dX5_goes_88 rfl (lv_at hl 2 rfl) ?_
              refine va_get (D := D) (ci := 5) (v := .ref (a 9)) (C := RX5) (T := TX5) (N := 23) hx hb ht i_X5 hown hK hP 0 rfl rfl 13 (by decide) (ht _ wd_549) (fun _ h9 => h9) rfl dX5_goes_89 ?_
              refine lv_bipush (v := (16 : Int32)) hx hb dX5_goes_92 (by decide) ?_
              refine lv_iload_n hx hb dX5_goes_94 rfl (lv_at hl 0 rfl) ?_
              refine lv_imul hx hb dX5_goes_95 ?_
              refine lv_iload_n hx hb dX5_goes_96 rfl (lv_at hl 1 rfl) ?_
              refine lv_bipush (v := (16 : Int32)) hx hb dX5_goes_97 (by decide) ?_
              refine lv_irem hx hb dX5_goes_99 (by decide) ?_
              refine lv_iadd hx hb dX5_goes_100 ?_
              refine lv_dup2_11 hx hb dX5_goes_101 rfl rfl ?_
              obtain ⟨i19, h⟩ := ck_ok h
              refine va_iald hx hb hK hP 9 0 rfl rfl i19 dX5_goes_102 ?_
              refine lv_iconst (v := (1 : Int32)) hx hb dX5_goes_103 (by decide) ?_
              refine lv_iadd hx hb dX5_goes_104 ?_
              obtain ⟨i20, h⟩ := ck_ok h
              refine va_iast hx hb hK hP hD hS 9 0 rfl rfl i20 dX5_goes_105 (fun H locs hP hD hS => ?_)
              obtain ⟨M21, e22, h⟩ := sv_ok h
              have hP : va_P D classes (wX5 a cI cC cO M21) H := by rw [← e22]; exact hP
              have hD : va_D A (wX5 a cI cC cO M21) := by rw [← e22]; exact hD
              refine lv_goto (tgt := 127) hx hb dX5_goes_106 (by decide) ?_
              refine lv_iload_n hx hb dX5_goes_127 rfl (lv_at hl 1 rfl) ?_
              refine lv_istore_n (lv' := [(1, .int (M 9 y1.toNatClampNeg)), (3, .int ((M 10 y1.toNatClampNeg) - (M 10 y1.toNatClampNeg) / (16 : Int32) * (16 : Int32))), (2, .int (M 9 y1.toNatClampNeg)), (0, .ref (a 0))]) hx hb dX5_goes_128 rfl hl (by decide) rfl (fun ls hl => ?_)
              refine lv_goto (tgt := 5) hx hb dX5_goes_129 (by decide) ?_
              exact ih5 M21 (M 9 y1.toNatClampNeg) _ _ ls h hP hD hS (lv_sub hl [3, 0] rfl)
          · replace h := fp c12 h
            refine lv_aload_n hx hb dX5_goes_64 rfl (lv_at hl 2 rfl) ?_
            refine va_get (D := D) (ci := 5) (v := .ref (a 8)) (C := RX5) (T := TX5) (N := 23) hx hb ht i_X5 hown hK hP 0 rfl rfl 12 (by decide) (ht _ wd_548) (fun _ h9 => h9) rfl dX5_goes_65 ?_
            refine lv_iload_n hx hb dX5_goes_68 rfl (lv_at hl 3 rfl) ?_
            refine lv_dup2_11 hx hb dX5_goes_69 rfl rfl ?_
            obtain ⟨i23, h⟩ := ck_ok h
            refine va_iald hx hb hK hP 8 0 rfl rfl i23 dX5_goes_70 ?_
            refine lv_iconst (v := (1 : Int32)) hx hb dX5_goes_71 (by decide) ?_
            refine lv_isub hx hb dX5_goes_72 ?_
            obtain ⟨i24, h⟩ := ck_ok h
            refine va_iast hx hb hK hP hD hS 8 0 rfl rfl i24 dX5_goes_73 (fun H locs hP hD hS => ?_)
            obtain ⟨M25, e26, h⟩ := sv_ok h
            have hP : va_P D classes (wX5 a cI cC cO M25) H := by rw [← e26]; exact hP
            have hD : va_D A (wX5 a cI cC cO M25) := by rw [← e26]; exact hD
            refine lv_goto (tgt := 127) hx hb dX5_goes_74 (by decide) ?_
            refine lv_iload_n hx hb dX5_goes_127 rfl (lv_at hl 1 rfl) ?_
            refine lv_istore_n (lv' := [(1, .int (M 9 y1.toNatClampNeg)), (3, .int ((M 10 y1.toNatClampNeg) - (M 10 y1.toNatClampNeg) / (16 : Int32) * (16 : Int32))), (2, .int (M 9 y1.toNatClampNeg)), (0, .ref (a 0))]) hx hb dX5_goes_128 rfl hl (by decide) rfl (fun ls hl => ?_)
            refine lv_goto (tgt := 5) hx hb dX5_goes_129 (by decide) ?_
            exact ih5 M25 (M 9 y1.toNatClampNeg) _ _ ls h hP hD hS (lv_sub hl [3, 0] rfl)
        · replace h := fp c10 h
          refine lv_aload_n hx hb dX5_goes_41 rfl (lv_at hl 2 rfl) ?_
          refine va_get (D := D) (ci := 5) (v := .ref (a 8)) (C := RX5) (T := TX5) (N := 23) hx hb ht i_X5 hown hK hP 0 rfl rfl 12 (by decide) (ht _ wd_548) (fun _ h9 => h9) rfl dX5_goes_42 ?_
          refine lv_iload_n hx hb dX5_goes_45 rfl (lv_at hl 1 rfl) ?_
          refine lv_dup2_11 hx hb dX5_goes_46 rfl rfl ?_
          obtain ⟨i27, h⟩ := ck_ok h
          refine va_iald hx hb hK hP 8 0 rfl rfl i27 dX5_goes_47 ?_
          refine lv_iconst (v := (1 : Int32)) hx hb dX5_goes_48 (by decide) ?_
          refine lv_iadd hx hb dX5_goes_49 ?_
          obtain ⟨i28, h⟩ := ck_ok h
          refine va_iast hx hb hK hP hD hS 8 0 rfl rfl i28 dX5_goes_50 (fun H locs hP hD hS => ?_)
          obtain ⟨M29, e30, h⟩ := sv_ok h
          have hP : va_P D classes (wX5 a cI cC cO M29) H := by rw [← e30]; exact hP
          have hD : va_D A (wX5 a cI cC cO M29) := by rw [← e30]; exact hD
          refine lv_goto (tgt := 127) hx hb dX5_goes_51 (by decide) ?_
          refine lv_iload_n hx hb dX5_goes_127 rfl (lv_at hl 1 rfl) ?_
          refine lv_istore_n (lv' := [(1, .int (M 9 y1.toNatClampNeg)), (3, .int ((M 10 y1.toNatClampNeg) - (M 10 y1.toNatClampNeg) / (16 : Int32) * (16 : Int32))), (2, .int (M 9 y1.toNatClampNeg)), (0, .ref (a 0))]) hx hb dX5_goes_128 rfl hl (by decide) rfl (fun ls hl => ?_)
          refine lv_goto (tgt := 5) hx hb dX5_goes_129 (by decide) ?_
          exact ih5 M29 (M 9 y1.toNatClampNeg) _ _ ls h hP hD hS (lv_sub hl [3, 0] rfl)
  unfold F_X5_goes at h
  refine lv_aload_n hx hb dX5_goes_0 rfl (lv_at hl 0 rfl) ?_
  refine va_get (D := D) (ci := 5) (v := .int (M 12 5)) (C := RX5) (T := TX5) (N := 23) hx hb ht i_X5 hown hK hP 0 rfl rfl 17 (by decide) (ht _ wd_553) (fun _ h9 => h9) rfl dX5_goes_1 ?_
  refine lv_istore_n (lv' := [(1, .int (M 12 5)), (0, .ref (a 0))]) hx hb dX5_goes_4 rfl hl (by decide) rfl (fun ls hl => ?_)
  exact w5 FU M (M 12 5) _ _ ls h hP hD hS (lv_sub hl [1, 0] rfl)
end
section
theorem dX5_comes_0 : decode cX5_comes 0 = .ok (.aload_n 0, 1) := by decide +kernel
theorem dX5_comes_1 : decode cX5_comes 1 = .ok (.iload_n 1, 1) := by decide +kernel
theorem dX5_comes_2 : decode cX5_comes 2 = .ok (.putfield 112, 3) := by decide +kernel
theorem dX5_comes_5 : decode cX5_comes 5 = .ok (.iconst 0, 1) := by decide +kernel
theorem dX5_comes_6 : decode cX5_comes 6 = .ok (.istore_n 2, 1) := by decide +kernel
theorem dX5_comes_7 : decode cX5_comes 7 = .ok (.iload_n 2, 1) := by decide +kernel
theorem dX5_comes_8 : decode cX5_comes 8 = .ok (.bipush 6, 2) := by decide +kernel
theorem dX5_comes_10 : decode cX5_comes 10 = .ok (.if_icmp .ge 16, 3) := by decide +kernel
theorem dX5_comes_13 : decode cX5_comes 13 = .ok (.aload_n 0, 1) := by decide +kernel
theorem dX5_comes_14 : decode cX5_comes 14 = .ok (.getfield 29, 3) := by decide +kernel
theorem dX5_comes_17 : decode cX5_comes 17 = .ok (.iload_n 2, 1) := by decide +kernel
theorem dX5_comes_18 : decode cX5_comes 18 = .ok (.iconst 0, 1) := by decide +kernel
theorem dX5_comes_19 : decode cX5_comes 19 = .ok (.iastore, 1) := by decide +kernel
theorem dX5_comes_20 : decode cX5_comes 20 = .ok (.iinc 2 1, 3) := by decide +kernel
theorem dX5_comes_23 : decode cX5_comes 23 = .ok (.goto (-16), 3) := by decide +kernel
theorem dX5_comes_26 : decode cX5_comes 26 = .ok (.iconst 0, 1) := by decide +kernel
theorem dX5_comes_27 : decode cX5_comes 27 = .ok (.istore_n 2, 1) := by decide +kernel
theorem dX5_comes_28 : decode cX5_comes 28 = .ok (.iload_n 2, 1) := by decide +kernel
theorem dX5_comes_29 : decode cX5_comes 29 = .ok (.bipush 96, 2) := by decide +kernel
theorem dX5_comes_31 : decode cX5_comes 31 = .ok (.if_icmp .ge 16, 3) := by decide +kernel
theorem dX5_comes_34 : decode cX5_comes 34 = .ok (.aload_n 0, 1) := by decide +kernel
theorem dX5_comes_35 : decode cX5_comes 35 = .ok (.getfield 32, 3) := by decide +kernel
theorem dX5_comes_38 : decode cX5_comes 38 = .ok (.iload_n 2, 1) := by decide +kernel
theorem dX5_comes_39 : decode cX5_comes 39 = .ok (.iconst 0, 1) := by decide +kernel
theorem dX5_comes_40 : decode cX5_comes 40 = .ok (.iastore, 1) := by decide +kernel
theorem dX5_comes_41 : decode cX5_comes 41 = .ok (.iinc 2 1, 3) := by decide +kernel
theorem dX5_comes_44 : decode cX5_comes 44 = .ok (.goto (-16), 3) := by decide +kernel
theorem dX5_comes_47 : decode cX5_comes 47 = .ok (.iconst 0, 1) := by decide +kernel
theorem dX5_comes_48 : decode cX5_comes 48 = .ok (.istore_n 2, 1) := by decide +kernel
theorem dX5_comes_49 : decode cX5_comes 49 = .ok (.iload_n 2, 1) := by decide +kernel
theorem dX5_comes_50 : decode cX5_comes 50 = .ok (.sipush 160, 3) := by decide +kernel
theorem dX5_comes_53 : decode cX5_comes 53 = .ok (.if_icmp .ge 16, 3) := by decide +kernel
theorem dX5_comes_56 : decode cX5_comes 56 = .ok (.aload_n 0, 1) := by decide +kernel
theorem dX5_comes_57 : decode cX5_comes 57 = .ok (.getfield 35, 3) := by decide +kernel
theorem dX5_comes_60 : decode cX5_comes 60 = .ok (.iload_n 2, 1) := by decide +kernel
theorem dX5_comes_61 : decode cX5_comes 61 = .ok (.iconst 0, 1) := by decide +kernel
theorem dX5_comes_62 : decode cX5_comes 62 = .ok (.iastore, 1) := by decide +kernel
theorem dX5_comes_63 : decode cX5_comes 63 = .ok (.iinc 2 1, 3) := by decide +kernel
theorem dX5_comes_66 : decode cX5_comes 66 = .ok (.goto (-17), 3) := by decide +kernel
theorem dX5_comes_69 : decode cX5_comes 69 = .ok (.iconst 0, 1) := by decide +kernel
theorem dX5_comes_70 : decode cX5_comes 70 = .ok (.istore_n 2, 1) := by decide +kernel
theorem dX5_comes_71 : decode cX5_comes 71 = .ok (.aload_n 0, 1) := by decide +kernel
theorem dX5_comes_72 : decode cX5_comes 72 = .ok (.invokevirtual 136, 3) := by decide +kernel
theorem dX5_comes_75 : decode cX5_comes 75 = .ok (.ifCond .eq 13, 3) := by decide +kernel
theorem dX5_comes_78 : decode cX5_comes 78 = .ok (.aload_n 0, 1) := by decide +kernel
theorem dX5_comes_79 : decode cX5_comes 79 = .ok (.invokevirtual 140, 3) := by decide +kernel
theorem dX5_comes_82 : decode cX5_comes 82 = .ok (.iinc 2 1, 3) := by decide +kernel
theorem dX5_comes_85 : decode cX5_comes 85 = .ok (.goto (-14), 3) := by decide +kernel
theorem dX5_comes_88 : decode cX5_comes 88 = .ok (.iload_n 2, 1) := by decide +kernel
theorem dX5_comes_89 : decode cX5_comes 89 = .ok (.ireturn, 1) := by decide +kernel
set_option maxHeartbeats 4000000 in
set_option maxRecDepth 100000 in
theorem c_X5_comes (l : Launch) (D : va_G) (cI cC cO : ClassId) (a : Nat → Nat) (M : Mm) (x1 : Int32) (res : Int32 × Mm) (sz : Nat) (h : F_X5_comes M x1 = some res) : Met l yX5_comes (Cond.code yX5_comes cX5_comes 3 (Option.some Jvm.ClassFile.FieldType.int) :: lw_g) ({ frames := 4, cells := 0, slots := 0, locals := 92 } : Room) (va_Pc [.ref (a 0), .int x1] (pS D cI cC cO sz (wX5 a cI cC cO M))) (QI D cI cC cO (va_A (wX5 a cI cC cO M) sz) (wX5 a cI cC cO res.2) res.1) 0 0 (va_A (wX5 a cI cC cO M) sz) := by
  refine Met.ofW (cc := cX5_comes) (maxL := 3) (ret := (Option.some Jvm.ClassFile.FieldType.int)) (by decide) rfl ?_
  intro p e s m args below meth c s₁ B hml hv
  obtain ⟨rfl, rfl, hP, hK, hD0, hN⟩ := hv
  have hx := B.exec
  have hb := B.bytes
  have hr := B.returns
  have ht : ∀ w ∈ lw_g, w.before ([.ref (a 0), .int x1] : List Value).toArray s = true := fun w hw => atoms_spec (ws := Cond.code yX5_comes cX5_comes 3 (Option.some Jvm.ClassFile.FieldType.int) :: lw_g) B.pre w (List.mem_cons_of_mem _ hw)
  have hown : s.vm.findClass RX5 = some m.cls := findClass_of_methodNamed B.named
  have hlocks := B.notSynchronized
  have hD := hD0.self (sz := s.heap.size)
  generalize hAe : va_A (wX5 a cI cC cO M) s.heap.size = A at hD ⊢
  have hA : ∀ q : Nat, s.heap.size ≤ q → A q := fun q hq => by rw [← hAe]; exact Or.inr hq
  have hS : va_S A s.heap s.heap [] := va_S.rf
  have hl := lv_entry ([.ref (a 0), .int x1]) (n := 3) (Nat.le_of_ble_eq_true rfl)
  rw [lg_entry_eq]
  generalize (lg_sl ([.ref (a 0), .int x1]) ++ List.replicate (3 - (lg_sl ([.ref (a 0), .int x1])).length) Slot.unset).toArray = ls at hl ⊢
  have hl : lv_has ls 3 [(0, .ref (a 0)), (1, .int x1)] := hl
  have w71 : ∀ (n71 : Nat) (M : Mm) (y2 : Int32) (H : Heap) (locs : List Loc) (ls : Array Slot), F_X5_comes_71 n71 M y2 = some res → va_P D classes (wX5 a cI cC cO M) H → va_D A (wX5 a cI cC cO M) → va_S A s.heap H locs → lv_has ls 3 [(0, .ref (a 0)), (2, .int y2)] → W p l e ({ frames := 4, cells := 0, slots := 0, locals := 92 } : Room) s m ([.ref (a 0), .int x1] : List Value).toArray below meth c H locs 0 0 (MQ below (QI D cI cC cO A (wX5 a cI cC cO res.2) res.1) ([.ref (a 0), .int x1] : List Value).toArray s 0 0 A) (F0 m 71 ls []) := by
    intro n71
    induction n71 with
    | zero => intro M y2 H locs ls h hP hD hS hl; exact absurd (show (none : Option (Int32 × Mm)) = some res from h) (by simp)
    | succ n71 ih71 =>
      intro M y2 H locs ls h hP hD hS hl
      have h : F_X5_comesB_71 (F_X5_comes_71 n71) M y2 = some res := h
      unfold F_X5_comesB_71 at h
      refine lv_aload_n hx hb dX5_comes_71 rfl (lv_at hl 0 rfl) ?_
      obtain ⟨u1, M2, e3, h⟩ := b2_ok h
      refine cl_Vi (ws' := (wX5 a cI cC cO M2)) ⟨hx, hb, hml, hown, ht⟩ (c_X5_finds l D cI cC cO a M _ _ e3) (cwv 0 ht wd_703 wd_6 wd_700 wd_702 ws_32 (by decide +kernel) rfl rfl ⟨Nat.le_of_ble_eq_true rfl, Nat.le_of_ble_eq_true rfl⟩) 5 0 rfl rfl rfl hK hP hD hS hA hN [0, 1, 2, 3, 4, 5, 6, 7, 8, 9, 10, 11, 12] [] [0, 1, 2, 3, 4, 5, 6, 7, 8, 9, 10, 11, 12] (by decide) rfl rfl (by decide) (by decide) rfl (by decide) rfl hl.1 rfl (Nat.le_of_ble_eq_true rfl) dX5_comes_72 ⟨Nat.le_of_ble_eq_true rfl, Nat.le_of_ble_eq_true rfl⟩ (fun H locs hP hD hS => ?_)
      refine lv_if_eq (tgt := 88) hx hb dX5_comes_75 (by decide) (fun c4 => ?_) (fun c4 => ?_)
      · replace h := fp c4 h
        refine lv_iload_n hx hb dX5_comes_88 rfl (lv_at hl 1 rfl) ?_
        cases h
        exact rt_i hx hb hr hlocks hS hP hK hD dX5_comes_89
      · replace h := fn c4 h
        refine lv_aload_n hx hb dX5_comes_78 rfl (lv_at hl 0 rfl) ?_
        obtain ⟨M5, e6, h⟩ := b1_ok h
        refine cl_Vv (ws' := (wX5 a cI cC cO M5)) ⟨hx, hb, hml, hown, ht⟩ (c_X5_goes l D cI cC cO a M2 _ _ e6) (cwv 0 ht wd_728 wd_6 wd_725 wd_727 ws_38 (by decide +kernel) rfl rfl ⟨Nat.le_of_ble_eq_true rfl, Nat.le_of_ble_eq_true rfl⟩) 5 0 rfl rfl rfl hK hP hD hS hA hN [0, 1, 2, 3, 4, 5, 6, 7, 8, 9, 10, 11, 12] [] [0, 1, 2, 3, 4, 5, 6, 7, 8, 9, 10, 11, 12] (by decide) rfl rfl (by decide) (by decide) rfl (by decide) rfl hl.1 rfl (Nat.le_of_ble_eq_true rfl) dX5_comes_79 ⟨Nat.le_of_ble_eq_true rfl, Nat.le_of_ble_eq_true rfl⟩ (fun H locs hP hD hS => ?_)
        refine lv_iinc (v := (y2 + 1)) (lv' := [(2, .int (y2 + 1)), (0, .ref (a 0))]) hx hb dX5_comes_82 hl (k := 1) rfl rfl (by decide) rfl (fun ls hl => ?_)
        refine lv_goto (tgt := 71) hx hb dX5_comes_85 (by decide) ?_
        exact ih71 M5 (y2 + 1) _ _ ls h hP hD hS (lv_sub hl [1, 0] rfl)
  have w49 : ∀ (n49 : Nat) (M : Mm) (y2 : Int32) (H : Heap) (locs : List Loc) (ls : Array Slot), F_X5_comes_49 n49 M y2 = some res → va_P D classes (wX5 a cI cC cO M) H → va_D A (wX5 a cI cC cO M) → va_S A s.heap H locs → lv_has ls 3 [(0, .ref (a 0)), (2, .int y2)] → W p l e ({ frames := 4, cells := 0, slots := 0, locals := 92 } : Room) s m ([.ref (a 0), .int x1] : List Value).toArray below meth c H locs 0 0 (MQ below (QI D cI cC cO A (wX5 a cI cC cO res.2) res.1) ([.ref (a 0), .int x1] : List Value).toArray s 0 0 A) (F0 m 49 ls []) := by
    intro n49
    induction n49 with
    | zero => intro M y2 H locs ls h hP hD hS hl; exact absurd (show (none : Option (Int32 × Mm)) = some res from h) (by simp)
    | succ n49 ih49 =>
      intro M y2 H locs ls h hP hD hS hl
      have h : F_X5_comesB_49 (F_X5_comes_49 n49) M y2 = some res := h
      unfold F_X5_comesB_49 at h
      refine lv_iload_n hx hb dX5_comes_49 rfl (lv_at hl 1 rfl) ?_
      refine lv_sipush (v := (160 : Int32)) hx hb dX5_comes_50 (by decide) ?_
      refine lv_icmp_ge (tgt := 69) hx hb dX5_comes_53 (by decide) (fun c1 => ?_) (fun c1 => ?_)
      · replace h := fp c1 h
        refine lv_iconst (v := (0 : Int32)) hx hb dX5_comes_69 (by decide) ?_
        refine lv_istore_n (lv' := [(2, .int (0 : Int32)), (0, .ref (a 0))]) hx hb dX5_comes_70 rfl hl (by decide) rfl (fun ls hl => ?_)
        exact w71 FU M (0 : Int32) _ _ ls h hP hD hS (lv_sub hl [1, 0] rfl)
      · replace h := fn c1 h
        refine lv_aload_n hx hb dX5_comes_56 rfl (lv_at hl 0 rfl) ?_
        refine va_get (D := D) (ci := 5) (v := .ref (a 9)) (C := RX5) (T := TX5) (N := 23) hx hb ht i_X5 hown hK hP 0 rfl rfl 13 (by decide) (ht _ wd_549) (fun _ h9 => h9) rfl dX5_comes_57 ?_
        refine lv_iload_n hx hb dX5_comes_60 rfl (lv_at hl 1 rfl) ?_
        refine lv_iconst (v := (0 : Int32)) hx hb dX5_comes_61 (by decide) ?_
        obtain ⟨i2, h⟩ := ck_ok h
        refine va_iast hx hb hK hP hD hS 9 0 rfl rfl i2 dX5_comes_62 (fun H locs hP hD hS => ?_)
        obtain ⟨M3, e4, h⟩ := sv_ok h
        have hP : va_P D classes (wX5 a cI cC cO M3) H := by rw [← e4]; exact hP
        have hD : va_D A (wX5 a cI cC cO M3) := by rw [← e4]; exact hD
        refine lv_iinc (v := (y2 + 1)) (lv' := [(2, .int (y2 + 1)), (0, .ref (a 0))]) hx hb dX5_comes_63 hl (k := 1) rfl rfl (by decide) rfl (fun ls hl => ?_)
        refine lv_goto (tgt := 49) hx hb dX5_comes_66 (by decide) ?_
        exact ih49 M3 (y2 + 1) _ _ ls h hP hD hS (lv_sub hl [1, 0] rfl)
  have w28 : ∀ (n28 : Nat) (M : Mm) (y2 : Int32) (H : Heap) (locs : List Loc) (ls : Array Slot), F_X5_comes_28 n28 M y2 = some res → va_P D classes (wX5 a cI cC cO M) H → va_D A (wX5 a cI cC cO M) → va_S A s.heap H locs → lv_has ls 3 [(0, .ref (a 0)), (2, .int y2)] → W p l e ({ frames := 4, cells := 0, slots := 0, locals := 92 } : Room) s m ([.ref (a 0), .int x1] : List Value).toArray below meth c H locs 0 0 (MQ below (QI D cI cC cO A (wX5 a cI cC cO res.2) res.1) ([.ref (a 0), .int x1] : List Value).toArray s 0 0 A) (F0 m 28 ls []) := by
    intro n28
    induction n28 with
    | zero => intro M y2 H locs ls h hP hD hS hl; exact absurd (show (none : Option (Int32 × Mm)) = some res from h) (by simp)
    | succ n28 ih28 =>
      intro M y2 H locs ls h hP hD hS hl
      have h : F_X5_comesB_28 (F_X5_comes_28 n28) M y2 = some res := h
      unfold F_X5_comesB_28 at h
      refine lv_iload_n hx hb dX5_comes_28 rfl (lv_at hl 1 rfl) ?_
      refine lv_bipush (v := (96 : Int32)) hx hb dX5_comes_29 (by decide) ?_
      refine lv_icmp_ge (tgt := 47) hx hb dX5_comes_31 (by decide) (fun c1 => ?_) (fun c1 => ?_)
      · replace h := fp c1 h
        refine lv_iconst (v := (0 : Int32)) hx hb dX5_comes_47 (by decide) ?_
        refine lv_istore_n (lv' := [(2, .int (0 : Int32)), (0, .ref (a 0))]) hx hb dX5_comes_48 rfl hl (by decide) rfl (fun ls hl => ?_)
        exact w49 FU M (0 : Int32) _ _ ls h hP hD hS (lv_sub hl [1, 0] rfl)
      · replace h := fn c1 h
        refine lv_aload_n hx hb dX5_comes_34 rfl (lv_at hl 0 rfl) ?_
        refine va_get (D := D) (ci := 5) (v := .ref (a 8)) (C := RX5) (T := TX5) (N := 23) hx hb ht i_X5 hown hK hP 0 rfl rfl 12 (by decide) (ht _ wd_548) (fun _ h9 => h9) rfl dX5_comes_35 ?_
        refine lv_iload_n hx hb dX5_comes_38 rfl (lv_at hl 1 rfl) ?_
        refine lv_iconst (v := (0 : Int32)) hx hb dX5_comes_39 (by decide) ?_
        obtain ⟨i2, h⟩ := ck_ok h
        refine va_iast hx hb hK hP hD hS 8 0 rfl rfl i2 dX5_comes_40 (fun H locs hP hD hS => ?_)
        obtain ⟨M3, e4, h⟩ := sv_ok h
        have hP : va_P D classes (wX5 a cI cC cO M3) H := by rw [← e4]; exact hP
        have hD : va_D A (wX5 a cI cC cO M3) := by rw [← e4]; exact hD
        refine lv_iinc (v := (y2 + 1)) (lv' := [(2, .int (y2 + 1)), (0, .ref (a 0))]) hx hb dX5_comes_41 hl (k := 1) rfl rfl (by decide) rfl (fun ls hl => ?_)
        refine lv_goto (tgt := 28) hx hb dX5_comes_44 (by decide) ?_
        exact ih28 M3 (y2 + 1) _ _ ls h hP hD hS (lv_sub hl [1, 0] rfl)
  have w7 : ∀ (n7 : Nat) (M : Mm) (y2 : Int32) (H : Heap) (locs : List Loc) (ls : Array Slot), F_X5_comes_7 n7 M y2 = some res → va_P D classes (wX5 a cI cC cO M) H → va_D A (wX5 a cI cC cO M) → va_S A s.heap H locs → lv_has ls 3 [(0, .ref (a 0)), (2, .int y2)] → W p l e ({ frames := 4, cells := 0, slots := 0, locals := 92 } : Room) s m ([.ref (a 0), .int x1] : List Value).toArray below meth c H locs 0 0 (MQ below (QI D cI cC cO A (wX5 a cI cC cO res.2) res.1) ([.ref (a 0), .int x1] : List Value).toArray s 0 0 A) (F0 m 7 ls []) := by
    intro n7
    induction n7 with
    | zero => intro M y2 H locs ls h hP hD hS hl; exact absurd (show (none : Option (Int32 × Mm)) = some res from h) (by simp)
    | succ n7 ih7 =>
      intro M y2 H locs ls h hP hD hS hl
      have h : F_X5_comesB_7 (F_X5_comes_7 n7) M y2 = some res := h
      unfold F_X5_comesB_7 at h
      refine lv_iload_n hx hb dX5_comes_7 rfl (lv_at hl 1 rfl) ?_
      refine lv_bipush (v := (6 : Int32)) hx hb dX5_comes_8 (by decide) ?_
      refine lv_icmp_ge (tgt := 26) hx hb dX5_comes_10 (by decide) (fun c1 => ?_) (fun c1 => ?_)
      · replace h := fp c1 h
        refine lv_iconst (v := (0 : Int32)) hx hb dX5_comes_26 (by decide) ?_
        refine lv_istore_n (lv' := [(2, .int (0 : Int32)), (0, .ref (a 0))]) hx hb dX5_comes_27 rfl hl (by decide) rfl (fun ls hl => ?_)
        exact w28 FU M (0 : Int32) _ _ ls h hP hD hS (lv_sub hl [1, 0] rfl)
      · replace h := fn c1 h
        refine lv_aload_n hx hb dX5_comes_13 rfl (lv_at hl 0 rfl) ?_
        refine va_get (D := D) (ci := 5) (v := .ref (a 7)) (C := RX5) (T := TX5) (N := 23) hx hb ht i_X5 hown hK hP 0 rfl rfl 11 (by decide) (ht _ wd_547) (fun _ h9 => h9) rfl dX5_comes_14 ?_
        refine lv_iload_n hx hb dX5_comes_17 rfl (lv_at hl 1 rfl) ?_
        refine lv_iconst (v := (0 : Int32)) hx hb dX5_comes_18 (by decide) ?_
        obtain ⟨i2, h⟩ := ck_ok h
        refine va_iast hx hb hK hP hD hS 7 0 rfl rfl i2 dX5_comes_19 (fun H locs hP hD hS => ?_)
        obtain ⟨M3, e4, h⟩ := sv_ok h
        have hP : va_P D classes (wX5 a cI cC cO M3) H := by rw [← e4]; exact hP
        have hD : va_D A (wX5 a cI cC cO M3) := by rw [← e4]; exact hD
        refine lv_iinc (v := (y2 + 1)) (lv' := [(2, .int (y2 + 1)), (0, .ref (a 0))]) hx hb dX5_comes_20 hl (k := 1) rfl rfl (by decide) rfl (fun ls hl => ?_)
        refine lv_goto (tgt := 7) hx hb dX5_comes_23 (by decide) ?_
        exact ih7 M3 (y2 + 1) _ _ ls h hP hD hS (lv_sub hl [1, 0] rfl)
  unfold F_X5_comes at h
  refine lv_aload_n hx hb dX5_comes_0 rfl (lv_at hl 0 rfl) ?_
  refine lv_iload_n hx hb dX5_comes_1 rfl (lv_at hl 1 rfl) ?_
  refine va_put (D := D) (ci := 5) (v := .int x1) (ty := .int) (C := RX5) (T := TX5) (N := 23) hx hb ht i_X5 tyX5 tyX5_ok nmX5 hown hK hP hD hS 0 rfl rfl 17 (by decide) (ht _ wd_553) (fun _ h9 => h9) rfl (by decide +kernel) rfl rfl (Nat.le_of_ble_eq_true rfl) dX5_comes_2 (fun H locs hP hD hS => ?_)
  obtain ⟨M1, e2, h⟩ := sv_ok h
  have hP : va_P D classes (wX5 a cI cC cO M1) H := by rw [← e2]; exact hP
  have hD : va_D A (wX5 a cI cC cO M1) := by rw [← e2]; exact hD
  refine lv_iconst (v := (0 : Int32)) hx hb dX5_comes_5 (by decide) ?_
  refine lv_istore_n (lv' := [(2, .int (0 : Int32)), (0, .ref (a 0)), (1, .int x1)]) hx hb dX5_comes_6 rfl hl (by decide) rfl (fun ls hl => ?_)
  exact w7 FU M1 (0 : Int32) _ _ ls h hP hD hS (lv_sub hl [1, 0] rfl)
theorem dX5_come_0 : decode cX5_come 0 = .ok (.iload_n 1, 1) := by decide +kernel
theorem dX5_come_1 : decode cX5_come 1 = .ok (.iconst 0, 1) := by decide +kernel
theorem dX5_come_2 : decode cX5_come 2 = .ok (.bipush 15, 2) := by decide +kernel
theorem dX5_come_4 : decode cX5_come 4 = .ok (.invokestatic 63, 3) := by decide +kernel
theorem dX5_come_7 : decode cX5_come 7 = .ok (.ifCond .eq 11, 3) := by decide +kernel
theorem dX5_come_10 : decode cX5_come 10 = .ok (.aload_n 0, 1) := by decide +kernel
theorem dX5_come_11 : decode cX5_come 11 = .ok (.iload_n 1, 1) := by decide +kernel
theorem dX5_come_12 : decode cX5_come 12 = .ok (.invokevirtual 143, 3) := by decide +kernel
theorem dX5_come_15 : decode cX5_come 15 = .ok (.goto 5, 3) := by decide +kernel
theorem dX5_come_18 : decode cX5_come 18 = .ok (.ldc 67, 2) := by decide +kernel
theorem dX5_come_20 : decode cX5_come 20 = .ok (.ireturn, 1) := by decide +kernel
set_option maxHeartbeats 4000000 in
set_option maxRecDepth 100000 in
theorem c_X5_come (l : Launch) (D : va_G) (cI cC cO : ClassId) (a : Nat → Nat) (M : Mm) (x1 : Int32) (res : Int32 × Mm) (sz : Nat) (h : F_X5_come M x1 = some res) : Met l yX5_come (Cond.code yX5_come cX5_come 2 (Option.some Jvm.ClassFile.FieldType.int) :: lw_g) ({ frames := 5, cells := 0, slots := 0, locals := 114 } : Room) (va_Pc [.ref (a 0), .int x1] (pS D cI cC cO sz (wX5 a cI cC cO M))) (QI D cI cC cO (va_A (wX5 a cI cC cO M) sz) (wX5 a cI cC cO res.2) res.1) 0 0 (va_A (wX5 a cI cC cO M) sz) := by
  refine Met.ofW (cc := cX5_come) (maxL := 2) (ret := (Option.some Jvm.ClassFile.FieldType.int)) (by decide) rfl ?_
  intro p e s m args below meth c s₁ B hml hv
  obtain ⟨rfl, rfl, hP, hK, hD0, hN⟩ := hv
  have hx := B.exec
  have hb := B.bytes
  have hr := B.returns
  have ht : ∀ w ∈ lw_g, w.before ([.ref (a 0), .int x1] : List Value).toArray s = true := fun w hw => atoms_spec (ws := Cond.code yX5_come cX5_come 2 (Option.some Jvm.ClassFile.FieldType.int) :: lw_g) B.pre w (List.mem_cons_of_mem _ hw)
  have hown : s.vm.findClass RX5 = some m.cls := findClass_of_methodNamed B.named
  have hlocks := B.notSynchronized
  have hD := hD0.self (sz := s.heap.size)
  generalize hAe : va_A (wX5 a cI cC cO M) s.heap.size = A at hD ⊢
  have hA : ∀ q : Nat, s.heap.size ≤ q → A q := fun q hq => by rw [← hAe]; exact Or.inr hq
  have hS : va_S A s.heap s.heap [] := va_S.rf
  have hl := lv_entry ([.ref (a 0), .int x1]) (n := 2) (Nat.le_of_ble_eq_true rfl)
  rw [lg_entry_eq]
  generalize (lg_sl ([.ref (a 0), .int x1]) ++ List.replicate (2 - (lg_sl ([.ref (a 0), .int x1])).length) Slot.unset).toArray = ls at hl ⊢
  have hl : lv_has ls 2 [(0, .ref (a 0)), (1, .int x1)] := hl
  unfold F_X5_come at h
  refine lv_iload_n hx hb dX5_come_0 rfl (lv_at hl 1 rfl) ?_
  refine lv_iconst (v := (0 : Int32)) hx hb dX5_come_1 (by decide) ?_
  refine lv_bipush (v := (15 : Int32)) hx hb dX5_come_2 (by decide) ?_
  obtain ⟨u1, e2, h⟩ := b1_ok h
  refine cl_Si (ws' := (wX5 a cI cC cO M)) ⟨hx, hb, hml, hown, ht⟩ (c_X5_in l D cI cC cO x1 (0 : Int32) (15 : Int32) _ _ e2) (cwst 3 ht wd_612 wd_6 wd_610 wd_611 (by decide +kernel) rfl rfl ⟨Nat.le_of_ble_eq_true rfl, Nat.le_of_ble_eq_true rfl⟩) hK hP hD hS hA hN [] [0, 1, 2, 3, 4, 5, 6, 7, 8, 9, 10, 11, 12] [0, 1, 2, 3, 4, 5, 6, 7, 8, 9, 10, 11, 12] (by decide) rfl rfl (by decide) (by decide) rfl (by decide) rfl hl.1 rfl (Nat.le_of_ble_eq_true rfl) dX5_come_4 ⟨Nat.le_of_ble_eq_true rfl, Nat.le_of_ble_eq_true rfl⟩ (fun H locs hP hD hS => ?_)
  refine lv_if_eq (tgt := 18) hx hb dX5_come_7 (by decide) (fun c3 => ?_) (fun c3 => ?_)
  · replace h := fp c3 h
    refine lv_ldc hx hb hown (ht _ wd_613) dX5_come_18 ?_
    cases h
    exact rt_i hx hb hr hlocks hS hP hK hD dX5_come_20
  · replace h := fn c3 h
    refine lv_aload_n hx hb dX5_come_10 rfl (lv_at hl 0 rfl) ?_
    refine lv_iload_n hx hb dX5_come_11 rfl (lv_at hl 1 rfl) ?_
    obtain ⟨u4, M5, e6, h⟩ := b2_ok h
    refine cl_Vi (ws' := (wX5 a cI cC cO M5)) ⟨hx, hb, hml, hown, ht⟩ (c_X5_comes l D cI cC cO a M x1 _ _ e6) (cwv 1 ht wd_699 wd_6 wd_696 wd_698 ws_31 (by decide +kernel) rfl rfl ⟨Nat.le_of_ble_eq_true rfl, Nat.le_of_ble_eq_true rfl⟩) 5 0 rfl rfl rfl hK hP hD hS hA hN [0, 1, 2, 3, 4, 5, 6, 7, 8, 9, 10, 11, 12] [] [0, 1, 2, 3, 4, 5, 6, 7, 8, 9, 10, 11, 12] (by decide) rfl rfl (by decide) (by decide) rfl (by decide) rfl hl.1 rfl (Nat.le_of_ble_eq_true rfl) dX5_come_12 ⟨Nat.le_of_ble_eq_true rfl, Nat.le_of_ble_eq_true rfl⟩ (fun H locs hP hD hS => ?_)
    refine lv_goto (tgt := 20) hx hb dX5_come_15 (by decide) ?_
    cases h
    exact rt_i hx hb hr hlocks hS hP hK hD dX5_come_20
theorem dX5_all_0 : decode cX5_all 0 = .ok (.iconst 0, 1) := by decide +kernel
theorem dX5_all_1 : decode cX5_all 1 = .ok (.istore_n 1, 1) := by decide +kernel
theorem dX5_all_2 : decode cX5_all 2 = .ok (.iconst 0, 1) := by decide +kernel
theorem dX5_all_3 : decode cX5_all 3 = .ok (.istore_n 2, 1) := by decide +kernel
theorem dX5_all_4 : decode cX5_all 4 = .ok (.iload_n 2, 1) := by decide +kernel
theorem dX5_all_5 : decode cX5_all 5 = .ok (.aload_n 0, 1) := by decide +kernel
theorem dX5_all_6 : decode cX5_all 6 = .ok (.getfield 7, 3) := by decide +kernel
theorem dX5_all_9 : decode cX5_all 9 = .ok (.iconst 0, 1) := by decide +kernel
theorem dX5_all_10 : decode cX5_all 10 = .ok (.iaload, 1) := by decide +kernel
theorem dX5_all_11 : decode cX5_all 11 = .ok (.if_icmp .ge 22, 3) := by decide +kernel
theorem dX5_all_14 : decode cX5_all 14 = .ok (.iload_n 1, 1) := by decide +kernel
theorem dX5_all_15 : decode cX5_all 15 = .ok (.aload_n 0, 1) := by decide +kernel
theorem dX5_all_16 : decode cX5_all 16 = .ok (.getfield 7, 3) := by decide +kernel
theorem dX5_all_19 : decode cX5_all 19 = .ok (.iconst 2, 1) := by decide +kernel
theorem dX5_all_20 : decode cX5_all 20 = .ok (.iconst 2, 1) := by decide +kernel
theorem dX5_all_21 : decode cX5_all 21 = .ok (.iload_n 2, 1) := by decide +kernel
theorem dX5_all_22 : decode cX5_all 22 = .ok (.imul, 1) := by decide +kernel
theorem dX5_all_23 : decode cX5_all 23 = .ok (.iadd, 1) := by decide +kernel
theorem dX5_all_24 : decode cX5_all 24 = .ok (.iaload, 1) := by decide +kernel
theorem dX5_all_25 : decode cX5_all 25 = .ok (.iadd, 1) := by decide +kernel
theorem dX5_all_26 : decode cX5_all 26 = .ok (.istore_n 1, 1) := by decide +kernel
theorem dX5_all_27 : decode cX5_all 27 = .ok (.iinc 2 1, 3) := by decide +kernel
theorem dX5_all_30 : decode cX5_all 30 = .ok (.goto (-26), 3) := by decide +kernel
theorem dX5_all_33 : decode cX5_all 33 = .ok (.iload_n 1, 1) := by decide +kernel
theorem dX5_all_34 : decode cX5_all 34 = .ok (.ireturn, 1) := by decide +kernel
set_option maxHeartbeats 4000000 in
set_option maxRecDepth 100000 in
theorem c_X5_all (l : Launch) (D : va_G) (cI cC cO : ClassId) (a : Nat → Nat) (M : Mm) (res : Int32) (sz : Nat) (h : F_X5_all M = some res) : Met l yX5_all (Cond.code yX5_all cX5_all 3 (Option.some Jvm.ClassFile.FieldType.int) :: lw_g) ({ frames := 0, cells := 0, slots := 0, locals := 0 } : Room) (va_Pc [.ref (a 0)] (pS D cI cC cO sz (wX5 a cI cC cO M))) (QI D cI cC cO (va_A (wX5 a cI cC cO M) sz) (wX5 a cI cC cO M) res) 0 0 (va_A (wX5 a cI cC cO M) sz) := by
  refine Met.ofW (cc := cX5_all) (maxL := 3) (ret := (Option.some Jvm.ClassFile.FieldType.int)) (by decide) rfl ?_
  intro p e s m args below meth c s₁ B hml hv
  obtain ⟨rfl, rfl, hP, hK, hD0, hN⟩ := hv
  have hx := B.exec
  have hb := B.bytes
  have hr := B.returns
  have ht : ∀ w ∈ lw_g, w.before ([.ref (a 0)] : List Value).toArray s = true := fun w hw => atoms_spec (ws := Cond.code yX5_all cX5_all 3 (Option.some Jvm.ClassFile.FieldType.int) :: lw_g) B.pre w (List.mem_cons_of_mem _ hw)
  have hown : s.vm.findClass RX5 = some m.cls := findClass_of_methodNamed B.named
  have hlocks := B.notSynchronized
  have hD := hD0.self (sz := s.heap.size)
  generalize hAe : va_A (wX5 a cI cC cO M) s.heap.size = A at hD ⊢
  have hA : ∀ q : Nat, s.heap.size ≤ q → A q := fun q hq => by rw [← hAe]; exact Or.inr hq
  have hS : va_S A s.heap s.heap [] := va_S.rf
  have hl := lv_entry ([.ref (a 0)]) (n := 3) (Nat.le_of_ble_eq_true rfl)
  rw [lg_entry_eq]
  generalize (lg_sl ([.ref (a 0)]) ++ List.replicate (3 - (lg_sl ([.ref (a 0)])).length) Slot.unset).toArray = ls at hl ⊢
  have hl : lv_has ls 3 [(0, .ref (a 0))] := hl
  have w4 : ∀ (n4 : Nat) (y1 y2 : Int32) (H : Heap) (locs : List Loc) (ls : Array Slot), F_X5_all_4 n4 M y1 y2 = some res → va_P D classes (wX5 a cI cC cO M) H → va_D A (wX5 a cI cC cO M) → va_S A s.heap H locs → lv_has ls 3 [(0, .ref (a 0)), (1, .int y1), (2, .int y2)] → W p l e ({ frames := 0, cells := 0, slots := 0, locals := 0 } : Room) s m ([.ref (a 0)] : List Value).toArray below meth c H locs 0 0 (MQ below (QI D cI cC cO A (wX5 a cI cC cO M) res) ([.ref (a 0)] : List Value).toArray s 0 0 A) (F0 m 4 ls []) := by
    intro n4
    induction n4 with
    | zero => intro y1 y2 H locs ls h hP hD hS hl; exact absurd (show (none : Option (Int32)) = some res from h) (by simp)
    | succ n4 ih4 =>
      intro y1 y2 H locs ls h hP hD hS hl
      have h : F_X5_allB_4 (F_X5_all_4 n4) M y1 y2 = some res := h
      unfold F_X5_allB_4 at h
      refine lv_iload_n hx hb dX5_all_4 rfl (lv_at hl 2 rfl) ?_
      refine lv_aload_n hx hb dX5_all_5 rfl (lv_at hl 0 rfl) ?_
      refine va_get (D := D) (ci := 5) (v := .ref (a 1)) (C := RX5) (T := TX5) (N := 23) hx hb ht i_X5 hown hK hP 0 rfl rfl 0 (by decide) (ht _ wd_536) (fun _ h9 => h9) rfl dX5_all_6 ?_
      refine lv_iconst (v := (0 : Int32)) hx hb dX5_all_9 (by decide) ?_
      obtain ⟨i1, h⟩ := ck_ok h
      refine va_iald hx hb hK hP 1 0 rfl rfl i1 dX5_all_10 ?_
      refine lv_icmp_ge (tgt := 33) hx hb dX5_all_11 (by decide) (fun c2 => ?_) (fun c2 => ?_)
      · replace h := fp c2 h
        refine lv_iload_n hx hb dX5_all_33 rfl (lv_at hl 1 rfl) ?_
        cases h
        exact rt_i hx hb hr hlocks hS hP hK hD dX5_all_34
      · replace h := fn c2 h
        refine lv_iload_n hx hb dX5_all_14 rfl (lv_at hl 1 rfl) ?_
        refine lv_aload_n hx hb dX5_all_15 rfl (lv_at hl 0 rfl) ?_
        refine va_get (D := D) (ci := 5) (v := .ref (a 1)) (C := RX5) (T := TX5) (N := 23) hx hb ht i_X5 hown hK hP 0 rfl rfl 0 (by decide) (ht _ wd_536) (fun _ h9 => h9) rfl dX5_all_16 ?_
        refine lv_iconst (v := (2 : Int32)) hx hb dX5_all_19 (by decide) ?_
        refine lv_iconst (v := (2 : Int32)) hx hb dX5_all_20 (by decide) ?_
        refine lv_iload_n hx hb dX5_all_21 rfl (lv_at hl 2 rfl) ?_
        refine lv_imul hx hb dX5_all_22 ?_
        refine lv_iadd hx hb dX5_all_23 ?_
        obtain ⟨i3, h⟩ := ck_ok h
        refine va_iald hx hb hK hP 1 0 rfl rfl i3 dX5_all_24 ?_
        refine lv_iadd hx hb dX5_all_25 ?_
        refine lv_istore_n (lv' := [(1, .int (y1 + (M 0 ((2 : Int32) + ((2 : Int32) * y2)).toNatClampNeg))), (0, .ref (a 0)), (2, .int y2)]) hx hb dX5_all_26 rfl hl (by decide) rfl (fun ls hl => ?_)
        refine lv_iinc (v := (y2 + 1)) (lv' := [(2, .int (y2 + 1)), (1, .int (y1 + (M 0 ((2 : Int32) + ((2 : Int32) * y2)).toNatClampNeg))), (0, .ref (a 0))]) hx hb dX5_all_27 hl (k := 2) rfl rfl (by decide) rfl (fun ls hl => ?_)
        refine lv_goto (tgt := 4) hx hb dX5_all_30 (by decide) ?_
        exact ih4 (y1 + (M 0 ((2 : Int32) + ((2 : Int32) * y2)).toNatClampNeg)) (y2 + 1) _ _ ls h hP hD hS (lv_sub hl [2, 1, 0] rfl)
  unfold F_X5_all at h
  refine lv_iconst (v := (0 : Int32)) hx hb dX5_all_0 (by decide) ?_
  refine lv_istore_n (lv' := [(1, .int (0 : Int32)), (0, .ref (a 0))]) hx hb dX5_all_1 rfl hl (by decide) rfl (fun ls hl => ?_)
  refine lv_iconst (v := (0 : Int32)) hx hb dX5_all_2 (by decide) ?_
  refine lv_istore_n (lv' := [(2, .int (0 : Int32)), (1, .int (0 : Int32)), (0, .ref (a 0))]) hx hb dX5_all_3 rfl hl (by decide) rfl (fun ls hl => ?_)
  exact w4 FU (0 : Int32) (0 : Int32) _ _ ls h hP hD hS (lv_sub hl [2, 1, 0] rfl)
theorem dX5_earliest_0 : decode cX5_earliest 0 = .ok (.iload_n 1, 1) := by decide +kernel
theorem dX5_earliest_1 : decode cX5_earliest 1 = .ok (.iconst (-1), 1) := by decide +kernel
theorem dX5_earliest_2 : decode cX5_earliest 2 = .ok (.bipush 120, 2) := by decide +kernel
theorem dX5_earliest_4 : decode cX5_earliest 4 = .ok (.invokestatic 63, 3) := by decide +kernel
theorem dX5_earliest_7 : decode cX5_earliest 7 = .ok (.ifCond .ne 6, 3) := by decide +kernel
theorem dX5_earliest_10 : decode cX5_earliest 10 = .ok (.ldc 67, 2) := by decide +kernel
theorem dX5_earliest_12 : decode cX5_earliest 12 = .ok (.ireturn, 1) := by decide +kernel
theorem dX5_earliest_13 : decode cX5_earliest 13 = .ok (.iload_n 1, 1) := by decide +kernel
theorem dX5_earliest_14 : decode cX5_earliest 14 = .ok (.ifCond .ge 10, 3) := by decide +kernel
theorem dX5_earliest_17 : decode cX5_earliest 17 = .ok (.aload_n 0, 1) := by decide +kernel
theorem dX5_earliest_18 : decode cX5_earliest 18 = .ok (.invokevirtual 146, 3) := by decide +kernel
theorem dX5_earliest_21 : decode cX5_earliest 21 = .ok (.goto 4, 3) := by decide +kernel
theorem dX5_earliest_24 : decode cX5_earliest 24 = .ok (.iload_n 1, 1) := by decide +kernel
theorem dX5_earliest_25 : decode cX5_earliest 25 = .ok (.istore_n 2, 1) := by decide +kernel
theorem dX5_earliest_26 : decode cX5_earliest 26 = .ok (.iconst 0, 1) := by decide +kernel
theorem dX5_earliest_27 : decode cX5_earliest 27 = .ok (.istore_n 3, 1) := by decide +kernel
theorem dX5_earliest_28 : decode cX5_earliest 28 = .ok (.iload_n 3, 1) := by decide +kernel
theorem dX5_earliest_29 : decode cX5_earliest 29 = .ok (.bipush 16, 2) := by decide +kernel
theorem dX5_earliest_31 : decode cX5_earliest 31 = .ok (.if_icmp .ge 18, 3) := by decide +kernel
theorem dX5_earliest_34 : decode cX5_earliest 34 = .ok (.aload_n 0, 1) := by decide +kernel
theorem dX5_earliest_35 : decode cX5_earliest 35 = .ok (.iload_n 3, 1) := by decide +kernel
theorem dX5_earliest_36 : decode cX5_earliest 36 = .ok (.invokevirtual 143, 3) := by decide +kernel
theorem dX5_earliest_39 : decode cX5_earliest 39 = .ok (.iload_n 2, 1) := by decide +kernel
theorem dX5_earliest_40 : decode cX5_earliest 40 = .ok (.if_icmp .ge 9, 3) := by decide +kernel
theorem dX5_earliest_43 : decode cX5_earliest 43 = .ok (.iinc 3 1, 3) := by decide +kernel
theorem dX5_earliest_46 : decode cX5_earliest 46 = .ok (.goto (-18), 3) := by decide +kernel
theorem dX5_earliest_49 : decode cX5_earliest 49 = .ok (.iload_n 3, 1) := by decide +kernel
theorem dX5_earliest_50 : decode cX5_earliest 50 = .ok (.bipush 16, 2) := by decide +kernel
theorem dX5_earliest_52 : decode cX5_earliest 52 = .ok (.if_icmp .ne 8, 3) := by decide +kernel
theorem dX5_earliest_55 : decode cX5_earliest 55 = .ok (.ldc 104, 2) := by decide +kernel
theorem dX5_earliest_57 : decode cX5_earliest 57 = .ok (.goto 4, 3) := by decide +kernel
theorem dX5_earliest_60 : decode cX5_earliest 60 = .ok (.iload_n 3, 1) := by decide +kernel
theorem dX5_earliest_61 : decode cX5_earliest 61 = .ok (.ireturn, 1) := by decide +kernel
set_option maxHeartbeats 4000000 in
set_option maxRecDepth 100000 in
theorem c_X5_earliest (l : Launch) (D : va_G) (cI cC cO : ClassId) (a : Nat → Nat) (M : Mm) (x1 : Int32) (res : Int32 × Mm) (sz : Nat) (h : F_X5_earliest M x1 = some res) : Met l yX5_earliest (Cond.code yX5_earliest cX5_earliest 4 (Option.some Jvm.ClassFile.FieldType.int) :: lw_g) ({ frames := 5, cells := 0, slots := 0, locals := 114 } : Room) (va_Pc [.ref (a 0), .int x1] (pS D cI cC cO sz (wX5 a cI cC cO M))) (QI D cI cC cO (va_A (wX5 a cI cC cO M) sz) (wX5 a cI cC cO res.2) res.1) 0 0 (va_A (wX5 a cI cC cO M) sz) := by
  refine Met.ofW (cc := cX5_earliest) (maxL := 4) (ret := (Option.some Jvm.ClassFile.FieldType.int)) (by decide) rfl ?_
  intro p e s m args below meth c s₁ B hml hv
  obtain ⟨rfl, rfl, hP, hK, hD0, hN⟩ := hv
  have hx := B.exec
  have hb := B.bytes
  have hr := B.returns
  have ht : ∀ w ∈ lw_g, w.before ([.ref (a 0), .int x1] : List Value).toArray s = true := fun w hw => atoms_spec (ws := Cond.code yX5_earliest cX5_earliest 4 (Option.some Jvm.ClassFile.FieldType.int) :: lw_g) B.pre w (List.mem_cons_of_mem _ hw)
  have hown : s.vm.findClass RX5 = some m.cls := findClass_of_methodNamed B.named
  have hlocks := B.notSynchronized
  have hD := hD0.self (sz := s.heap.size)
  generalize hAe : va_A (wX5 a cI cC cO M) s.heap.size = A at hD ⊢
  have hA : ∀ q : Nat, s.heap.size ≤ q → A q := fun q hq => by rw [← hAe]; exact Or.inr hq
  have hS : va_S A s.heap s.heap [] := va_S.rf
  have hl := lv_entry ([.ref (a 0), .int x1]) (n := 4) (Nat.le_of_ble_eq_true rfl)
  rw [lg_entry_eq]
  generalize (lg_sl ([.ref (a 0), .int x1]) ++ List.replicate (4 - (lg_sl ([.ref (a 0), .int x1])).length) Slot.unset).toArray = ls at hl ⊢
  have hl : lv_has ls 4 [(0, .ref (a 0)), (1, .int x1)] := hl
  have w49 : ∀ (M : Mm) (y3 : Int32) (H : Heap) (locs : List Loc) (ls : Array Slot), F_X5_earliest_49 M y3 = some res → va_P D classes (wX5 a cI cC cO M) H → va_D A (wX5 a cI cC cO M) → va_S A s.heap H locs → lv_has ls 4 [(3, .int y3)] → W p l e ({ frames := 5, cells := 0, slots := 0, locals := 114 } : Room) s m ([.ref (a 0), .int x1] : List Value).toArray below meth c H locs 0 0 (MQ below (QI D cI cC cO A (wX5 a cI cC cO res.2) res.1) ([.ref (a 0), .int x1] : List Value).toArray s 0 0 A) (F0 m 49 ls []) := by
    intro M y3 H locs ls h hP hD hS hl
    unfold F_X5_earliest_49 at h
    refine lv_iload_n hx hb dX5_earliest_49 rfl (lv_at hl 0 rfl) ?_
    refine lv_bipush (v := (16 : Int32)) hx hb dX5_earliest_50 (by decide) ?_
    refine lv_icmp_ne (tgt := 60) hx hb dX5_earliest_52 (by decide) (fun c1 => ?_) (fun c1 => ?_)
    · replace h := fn c1 h
      refine lv_iload_n hx hb dX5_earliest_60 rfl (lv_at hl 0 rfl) ?_
      cases h
      exact rt_i hx hb hr hlocks hS hP hK hD dX5_earliest_61
    · replace h := fp c1 h
      refine lv_ldc hx hb hown (ht _ wd_691) dX5_earliest_55 ?_
      refine lv_goto (tgt := 61) hx hb dX5_earliest_57 (by decide) ?_
      cases h
      exact rt_i hx hb hr hlocks hS hP hK hD dX5_earliest_61
  have w28 : ∀ (n28 : Nat) (M : Mm) (y2 y3 : Int32) (H : Heap) (locs : List Loc) (ls : Array Slot), F_X5_earliest_28 n28 M y2 y3 = some res → va_P D classes (wX5 a cI cC cO M) H → va_D A (wX5 a cI cC cO M) → va_S A s.heap H locs → lv_has ls 4 [(0, .ref (a 0)), (2, .int y2), (3, .int y3)] → W p l e ({ frames := 5, cells := 0, slots := 0, locals := 114 } : Room) s m ([.ref (a 0), .int x1] : List Value).toArray below meth c H locs 0 0 (MQ below (QI D cI cC cO A (wX5 a cI cC cO res.2) res.1) ([.ref (a 0), .int x1] : List Value).toArray s 0 0 A) (F0 m 28 ls []) := by
    intro n28
    induction n28 with
    | zero => intro M y2 y3 H locs ls h hP hD hS hl; exact absurd (show (none : Option (Int32 × Mm)) = some res from h) (by simp)
    | succ n28 ih28 =>
      intro M y2 y3 H locs ls h hP hD hS hl
      have h : F_X5_earliestB_28 (F_X5_earliest_28 n28) M y2 y3 = some res := h
      unfold F_X5_earliestB_28 at h
      refine lv_iload_n hx hb dX5_earliest_28 rfl (lv_at hl 2 rfl) ?_
      refine lv_bipush (v := (16 : Int32)) hx hb dX5_earliest_29 (by decide) ?_
      refine lv_icmp_ge (tgt := 49) hx hb dX5_earliest_31 (by decide) (fun c1 => ?_) (fun c1 => ?_)
      · replace h := fp c1 h
        exact w49 M y3 _ _ ls h hP hD hS (lv_sub hl [2] rfl)
      · replace h := fn c1 h
        refine lv_aload_n hx hb dX5_earliest_34 rfl (lv_at hl 0 rfl) ?_
        refine lv_iload_n hx hb dX5_earliest_35 rfl (lv_at hl 2 rfl) ?_
        obtain ⟨u2, M3, e4, h⟩ := b2_ok h
        refine cl_Vi (ws' := (wX5 a cI cC cO M3)) ⟨hx, hb, hml, hown, ht⟩ (c_X5_comes l D cI cC cO a M y3 _ _ e4) (cwv 1 ht wd_699 wd_6 wd_696 wd_698 ws_31 (by decide +kernel) rfl rfl ⟨Nat.le_of_ble_eq_true rfl, Nat.le_of_ble_eq_true rfl⟩) 5 0 rfl rfl rfl hK hP hD hS hA hN [0, 1, 2, 3, 4, 5, 6, 7, 8, 9, 10, 11, 12] [] [0, 1, 2, 3, 4, 5, 6, 7, 8, 9, 10, 11, 12] (by decide) rfl rfl (by decide) (by decide) rfl (by decide) rfl hl.1 rfl (Nat.le_of_ble_eq_true rfl) dX5_earliest_36 ⟨Nat.le_of_ble_eq_true rfl, Nat.le_of_ble_eq_true rfl⟩ (fun H locs hP hD hS => ?_)
        refine lv_iload_n hx hb dX5_earliest_39 rfl (lv_at hl 1 rfl) ?_
        refine lv_icmp_ge (tgt := 49) hx hb dX5_earliest_40 (by decide) (fun c5 => ?_) (fun c5 => ?_)
        · replace h := fp c5 h
          exact w49 M3 y3 _ _ ls h hP hD hS (lv_sub hl [2] rfl)
        · replace h := fn c5 h
          refine lv_iinc (v := (y3 + 1)) (lv' := [(3, .int (y3 + 1)), (0, .ref (a 0)), (2, .int y2)]) hx hb dX5_earliest_43 hl (k := 2) rfl rfl (by decide) rfl (fun ls hl => ?_)
          refine lv_goto (tgt := 28) hx hb dX5_earliest_46 (by decide) ?_
          exact ih28 M3 y2 (y3 + 1) _ _ ls h hP hD hS (lv_sub hl [1, 2, 0] rfl)
  unfold F_X5_earliest at h
  refine lv_iload_n hx hb dX5_earliest_0 rfl (lv_at hl 1 rfl) ?_
  refine lv_iconst (v := (-1 : Int32)) hx hb dX5_earliest_1 (by decide) ?_
  refine lv_bipush (v := (120 : Int32)) hx hb dX5_earliest_2 (by decide) ?_
  obtain ⟨u1, e2, h⟩ := b1_ok h
  refine cl_Si (ws' := (wX5 a cI cC cO M)) ⟨hx, hb, hml, hown, ht⟩ (c_X5_in l D cI cC cO x1 (-1 : Int32) (120 : Int32) _ _ e2) (cwst 3 ht wd_612 wd_6 wd_610 wd_611 (by decide +kernel) rfl rfl ⟨Nat.le_of_ble_eq_true rfl, Nat.le_of_ble_eq_true rfl⟩) hK hP hD hS hA hN [] [0, 1, 2, 3, 4, 5, 6, 7, 8, 9, 10, 11, 12] [0, 1, 2, 3, 4, 5, 6, 7, 8, 9, 10, 11, 12] (by decide) rfl rfl (by decide) (by decide) rfl (by decide) rfl hl.1 rfl (Nat.le_of_ble_eq_true rfl) dX5_earliest_4 ⟨Nat.le_of_ble_eq_true rfl, Nat.le_of_ble_eq_true rfl⟩ (fun H locs hP hD hS => ?_)
  refine lv_if_ne (tgt := 13) hx hb dX5_earliest_7 (by decide) (fun c3 => ?_) (fun c3 => ?_)
  · replace h := fn c3 h
    refine lv_iload_n hx hb dX5_earliest_13 rfl (lv_at hl 1 rfl) ?_
    refine lv_if_ge (tgt := 24) hx hb dX5_earliest_14 (by decide) (fun c4 => ?_) (fun c4 => ?_)
    · replace h := fp c4 h
      refine lv_iload_n hx hb dX5_earliest_24 rfl (lv_at hl 1 rfl) ?_
      refine lv_istore_n (lv' := [(2, .int x1), (0, .ref (a 0)), (1, .int x1)]) hx hb dX5_earliest_25 rfl hl (by decide) rfl (fun ls hl => ?_)
      refine lv_iconst (v := (0 : Int32)) hx hb dX5_earliest_26 (by decide) ?_
      refine lv_istore_n (lv' := [(3, .int (0 : Int32)), (2, .int x1), (0, .ref (a 0)), (1, .int x1)]) hx hb dX5_earliest_27 rfl hl (by decide) rfl (fun ls hl => ?_)
      exact w28 FU M x1 (0 : Int32) _ _ ls h hP hD hS (lv_sub hl [2, 1, 0] rfl)
    · replace h := fn c4 h
      refine lv_aload_n hx hb dX5_earliest_17 rfl (lv_at hl 0 rfl) ?_
      obtain ⟨u5, e6, h⟩ := b1_ok h
      refine cl_Vi (ws' := (wX5 a cI cC cO M)) ⟨hx, hb, hml, hown, ht⟩ (c_X5_all l D cI cC cO a M _ _ e6) (cwv 0 ht wd_736 wd_6 wd_733 wd_735 ws_39 (by decide +kernel) rfl rfl ⟨Nat.le_of_ble_eq_true rfl, Nat.le_of_ble_eq_true rfl⟩) 5 0 rfl rfl rfl hK hP hD hS hA hN [0, 1, 2, 3, 4, 5, 6, 7, 8, 9, 10, 11, 12] [] [0, 1, 2, 3, 4, 5, 6, 7, 8, 9, 10, 11, 12] (by decide) rfl rfl (by decide) (by decide) rfl (by decide) rfl hl.1 rfl (Nat.le_of_ble_eq_true rfl) dX5_earliest_18 ⟨Nat.le_of_ble_eq_true rfl, Nat.le_of_ble_eq_true rfl⟩ (fun H locs hP hD hS => ?_)
      refine lv_goto (tgt := 25) hx hb dX5_earliest_21 (by decide) ?_
      refine lv_istore_n (lv' := [(2, .int u5), (0, .ref (a 0)), (1, .int x1)]) hx hb dX5_earliest_25 rfl hl (by decide) rfl (fun ls hl => ?_)
      refine lv_iconst (v := (0 : Int32)) hx hb dX5_earliest_26 (by decide) ?_
      refine lv_istore_n (lv' := [(3, .int (0 : Int32)), (2, .int u5), (0, .ref (a 0)), (1, .int x1)]) hx hb dX5_earliest_27 rfl hl (by decide) rfl (fun ls hl => ?_)
      exact w28 FU M u5 (0 : Int32) _ _ ls h hP hD hS (lv_sub hl [2, 1, 0] rfl)
  · replace h := fp c3 h
    refine lv_ldc hx hb hown (ht _ wd_613) dX5_earliest_10 ?_
    cases h
    exact rt_i hx hb hr hlocks hS hP hK hD dX5_earliest_12
theorem dX5_repeated_0 : decode cX5_repeated 0 = .ok (.aload_n 0, 1) := by decide +kernel
theorem dX5_repeated_1 : decode cX5_repeated 1 = .ok (.iload_n 1, 1) := by decide +kernel
theorem dX5_repeated_2 : decode cX5_repeated 2 = .ok (.invokevirtual 83, 3) := by decide +kernel
theorem dX5_repeated_5 : decode cX5_repeated 5 = .ok (.ifCond .eq 17, 3) := by decide +kernel
theorem dX5_repeated_8 : decode cX5_repeated 8 = .ok (.iload_n 1, 1) := by decide +kernel
theorem dX5_repeated_9 : decode cX5_repeated 9 = .ok (.ifCond .eq 13, 3) := by decide +kernel
theorem dX5_repeated_12 : decode cX5_repeated 12 = .ok (.iload_n 2, 1) := by decide +kernel
theorem dX5_repeated_13 : decode cX5_repeated 13 = .ok (.iconst 0, 1) := by decide +kernel
theorem dX5_repeated_14 : decode cX5_repeated 14 = .ok (.bipush 15, 2) := by decide +kernel
theorem dX5_repeated_16 : decode cX5_repeated 16 = .ok (.invokestatic 63, 3) := by decide +kernel
theorem dX5_repeated_19 : decode cX5_repeated 19 = .ok (.ifCond .ne 6, 3) := by decide +kernel
theorem dX5_repeated_22 : decode cX5_repeated 22 = .ok (.ldc 67, 2) := by decide +kernel
theorem dX5_repeated_24 : decode cX5_repeated 24 = .ok (.ireturn, 1) := by decide +kernel
theorem dX5_repeated_25 : decode cX5_repeated 25 = .ok (.aload_n 0, 1) := by decide +kernel
theorem dX5_repeated_26 : decode cX5_repeated 26 = .ok (.iload_n 1, 1) := by decide +kernel
theorem dX5_repeated_27 : decode cX5_repeated 27 = .ok (.putfield 60, 3) := by decide +kernel
theorem dX5_repeated_30 : decode cX5_repeated 30 = .ok (.aload_n 0, 1) := by decide +kernel
theorem dX5_repeated_31 : decode cX5_repeated 31 = .ok (.iload_n 2, 1) := by decide +kernel
theorem dX5_repeated_32 : decode cX5_repeated 32 = .ok (.invokevirtual 143, 3) := by decide +kernel
theorem dX5_repeated_35 : decode cX5_repeated 35 = .ok (.istore_n 3, 1) := by decide +kernel
theorem dX5_repeated_36 : decode cX5_repeated 36 = .ok (.aload_n 0, 1) := by decide +kernel
theorem dX5_repeated_37 : decode cX5_repeated 37 = .ok (.invokevirtual 47, 3) := by decide +kernel
theorem dX5_repeated_40 : decode cX5_repeated 40 = .ok (.iload_n 3, 1) := by decide +kernel
theorem dX5_repeated_41 : decode cX5_repeated 41 = .ok (.ireturn, 1) := by decide +kernel
set_option maxHeartbeats 4000000 in
set_option maxRecDepth 100000 in
theorem c_X5_repeated (l : Launch) (D : va_G) (cI cC cO : ClassId) (a : Nat → Nat) (M : Mm) (x1 x2 : Int32) (res : Int32 × Mm) (sz : Nat) (h : F_X5_repeated M x1 x2 = some res) : Met l yX5_repeated (Cond.code yX5_repeated cX5_repeated 4 (Option.some Jvm.ClassFile.FieldType.int) :: lw_g) ({ frames := 5, cells := 0, slots := 0, locals := 114 } : Room) (va_Pc [.ref (a 0), .int x1, .int x2] (pS D cI cC cO sz (wX5 a cI cC cO M))) (QI D cI cC cO (va_A (wX5 a cI cC cO M) sz) (wX5 a cI cC cO res.2) res.1) 0 0 (va_A (wX5 a cI cC cO M) sz) := by
  refine Met.ofW (cc := cX5_repeated) (maxL := 4) (ret := (Option.some Jvm.ClassFile.FieldType.int)) (by decide) rfl ?_
  intro p e s m args below meth c s₁ B hml hv
  obtain ⟨rfl, rfl, hP, hK, hD0, hN⟩ := hv
  have hx := B.exec
  have hb := B.bytes
  have hr := B.returns
  have ht : ∀ w ∈ lw_g, w.before ([.ref (a 0), .int x1, .int x2] : List Value).toArray s = true := fun w hw => atoms_spec (ws := Cond.code yX5_repeated cX5_repeated 4 (Option.some Jvm.ClassFile.FieldType.int) :: lw_g) B.pre w (List.mem_cons_of_mem _ hw)
  have hown : s.vm.findClass RX5 = some m.cls := findClass_of_methodNamed B.named
  have hlocks := B.notSynchronized
  have hD := hD0.self (sz := s.heap.size)
  generalize hAe : va_A (wX5 a cI cC cO M) s.heap.size = A at hD ⊢
  have hA : ∀ q : Nat, s.heap.size ≤ q → A q := fun q hq => by rw [← hAe]; exact Or.inr hq
  have hS : va_S A s.heap s.heap [] := va_S.rf
  have hl := lv_entry ([.ref (a 0), .int x1, .int x2]) (n := 4) (Nat.le_of_ble_eq_true rfl)
  rw [lg_entry_eq]
  generalize (lg_sl ([.ref (a 0), .int x1, .int x2]) ++ List.replicate (4 - (lg_sl ([.ref (a 0), .int x1, .int x2])).length) Slot.unset).toArray = ls at hl ⊢
  have hl : lv_has ls 4 [(0, .ref (a 0)), (1, .int x1), (2, .int x2)] := hl
  unfold F_X5_repeated at h
  refine lv_aload_n hx hb dX5_repeated_0 rfl (lv_at hl 0 rfl) ?_
  refine lv_iload_n hx hb dX5_repeated_1 rfl (lv_at hl 1 rfl) ?_
  obtain ⟨u1, e2, h⟩ := b1_ok h
  refine cl_Vi (ws' := (wX5 a cI cC cO M)) ⟨hx, hb, hml, hown, ht⟩ (c_X5_isPlace l D cI cC cO a M x1 _ _ e2) (cwv 1 ht wd_634 wd_6 wd_631 wd_633 ws_23 (by decide +kernel) rfl rfl ⟨Nat.le_of_ble_eq_true rfl, Nat.le_of_ble_eq_true rfl⟩) 5 0 rfl rfl rfl hK hP hD hS hA hN [0, 1, 2, 3, 4, 5, 6, 7, 8, 9, 10, 11, 12] [] [0, 1, 2, 3, 4, 5, 6, 7, 8, 9, 10, 11, 12] (by decide) rfl rfl (by decide) (by decide) rfl (by decide) rfl hl.1 rfl (Nat.le_of_ble_eq_true rfl) dX5_repeated_2 ⟨Nat.le_of_ble_eq_true rfl, Nat.le_of_ble_eq_true rfl⟩ (fun H locs hP hD hS => ?_)
  refine lv_if_eq (tgt := 22) hx hb dX5_repeated_5 (by decide) (fun c3 => ?_) (fun c3 => ?_)
  · replace h := fp c3 h
    refine lv_ldc hx hb hown (ht _ wd_613) dX5_repeated_22 ?_
    cases h
    exact rt_i hx hb hr hlocks hS hP hK hD dX5_repeated_24
  · replace h := fn c3 h
    refine lv_iload_n hx hb dX5_repeated_8 rfl (lv_at hl 1 rfl) ?_
    refine lv_if_eq (tgt := 22) hx hb dX5_repeated_9 (by decide) (fun c4 => ?_) (fun c4 => ?_)
    · replace h := fp c4 h
      refine lv_ldc hx hb hown (ht _ wd_613) dX5_repeated_22 ?_
      cases h
      exact rt_i hx hb hr hlocks hS hP hK hD dX5_repeated_24
    · replace h := fn c4 h
      refine lv_iload_n hx hb dX5_repeated_12 rfl (lv_at hl 2 rfl) ?_
      refine lv_iconst (v := (0 : Int32)) hx hb dX5_repeated_13 (by decide) ?_
      refine lv_bipush (v := (15 : Int32)) hx hb dX5_repeated_14 (by decide) ?_
      obtain ⟨u5, e6, h⟩ := b1_ok h
      refine cl_Si (ws' := (wX5 a cI cC cO M)) ⟨hx, hb, hml, hown, ht⟩ (c_X5_in l D cI cC cO x2 (0 : Int32) (15 : Int32) _ _ e6) (cwst 3 ht wd_612 wd_6 wd_610 wd_611 (by decide +kernel) rfl rfl ⟨Nat.le_of_ble_eq_true rfl, Nat.le_of_ble_eq_true rfl⟩) hK hP hD hS hA hN [] [0, 1, 2, 3, 4, 5, 6, 7, 8, 9, 10, 11, 12] [0, 1, 2, 3, 4, 5, 6, 7, 8, 9, 10, 11, 12] (by decide) rfl rfl (by decide) (by decide) rfl (by decide) rfl hl.1 rfl (Nat.le_of_ble_eq_true rfl) dX5_repeated_16 ⟨Nat.le_of_ble_eq_true rfl, Nat.le_of_ble_eq_true rfl⟩ (fun H locs hP hD hS => ?_)
      refine lv_if_ne (tgt := 25) hx hb dX5_repeated_19 (by decide) (fun c7 => ?_) (fun c7 => ?_)
      · replace h := fn c7 h
        refine lv_aload_n hx hb dX5_repeated_25 rfl (lv_at hl 0 rfl) ?_
        refine lv_iload_n hx hb dX5_repeated_26 rfl (lv_at hl 1 rfl) ?_
        refine va_put (D := D) (ci := 5) (v := .int x1) (ty := .int) (C := RX5) (T := TX5) (N := 23) hx hb ht i_X5 tyX5 tyX5_ok nmX5 hown hK hP hD hS 0 rfl rfl 22 (by decide) (ht _ wd_558) (fun _ h9 => h9) rfl (by decide +kernel) rfl rfl (Nat.le_of_ble_eq_true rfl) dX5_repeated_27 (fun H locs hP hD hS => ?_)
        obtain ⟨M8, e9, h⟩ := sv_ok h
        have hP : va_P D classes (wX5 a cI cC cO M8) H := by rw [← e9]; exact hP
        have hD : va_D A (wX5 a cI cC cO M8) := by rw [← e9]; exact hD
        refine lv_aload_n hx hb dX5_repeated_30 rfl (lv_at hl 0 rfl) ?_
        refine lv_iload_n hx hb dX5_repeated_31 rfl (lv_at hl 2 rfl) ?_
        obtain ⟨u10, M11, e12, h⟩ := b2_ok h
        refine cl_Vi (ws' := (wX5 a cI cC cO M11)) ⟨hx, hb, hml, hown, ht⟩ (c_X5_comes l D cI cC cO a M8 x2 _ _ e12) (cwv 1 ht wd_699 wd_6 wd_696 wd_698 ws_31 (by decide +kernel) rfl rfl ⟨Nat.le_of_ble_eq_true rfl, Nat.le_of_ble_eq_true rfl⟩) 5 0 rfl rfl rfl hK hP hD hS hA hN [0, 1, 2, 3, 4, 5, 6, 7, 8, 9, 10, 11, 12] [] [0, 1, 2, 3, 4, 5, 6, 7, 8, 9, 10, 11, 12] (by decide) rfl rfl (by decide) (by decide) rfl (by decide) rfl hl.1 rfl (Nat.le_of_ble_eq_true rfl) dX5_repeated_32 ⟨Nat.le_of_ble_eq_true rfl, Nat.le_of_ble_eq_true rfl⟩ (fun H locs hP hD hS => ?_)
        refine lv_istore_n (lv' := [(3, .int u10), (0, .ref (a 0)), (1, .int x1), (2, .int x2)]) hx hb dX5_repeated_35 rfl hl (by decide) rfl (fun ls hl => ?_)
        refine lv_aload_n hx hb dX5_repeated_36 rfl (lv_at hl 1 rfl) ?_
        obtain ⟨M13, e14, h⟩ := b1_ok h
        refine cl_Vv (ws' := (wX5 a cI cC cO M13)) ⟨hx, hb, hml, hown, ht⟩ (c_X5_asIs l D cI cC cO a M11 _ _ e14) (cwv 0 ht wd_535 wd_6 wd_532 wd_534 ws_19 (by decide +kernel) rfl rfl ⟨Nat.le_of_ble_eq_true rfl, Nat.le_of_ble_eq_true rfl⟩) 5 0 rfl rfl rfl hK hP hD hS hA hN [0, 1, 2, 3, 4, 5, 6, 7, 8, 9, 10, 11, 12] [] [0, 1, 2, 3, 4, 5, 6, 7, 8, 9, 10, 11, 12] (by decide) rfl rfl (by decide) (by decide) rfl (by decide) rfl hl.1 rfl (Nat.le_of_ble_eq_true rfl) dX5_repeated_37 ⟨Nat.le_of_ble_eq_true rfl, Nat.le_of_ble_eq_true rfl⟩ (fun H locs hP hD hS => ?_)
        refine lv_iload_n hx hb dX5_repeated_40 rfl (lv_at hl 0 rfl) ?_
        cases h
        exact rt_i hx hb hr hlocks hS hP hK hD dX5_repeated_41
      · replace h := fp c7 h
        refine lv_ldc hx hb hown (ht _ wd_613) dX5_repeated_22 ?_
        cases h
        exact rt_i hx hb hr hlocks hS hP hK hD dX5_repeated_24
theorem dX5_isNarrow_0 : decode cX5_isNarrow 0 = .ok (.iconst 0, 1) := by decide +kernel
theorem dX5_isNarrow_1 : decode cX5_isNarrow 1 = .ok (.istore_n 2, 1) := by decide +kernel
theorem dX5_isNarrow_2 : decode cX5_isNarrow 2 = .ok (.iconst 0, 1) := by decide +kernel
theorem dX5_isNarrow_3 : decode cX5_isNarrow 3 = .ok (.istore_n 3, 1) := by decide +kernel
theorem dX5_isNarrow_4 : decode cX5_isNarrow 4 = .ok (.iload_n 3, 1) := by decide +kernel
theorem dX5_isNarrow_5 : decode cX5_isNarrow 5 = .ok (.aload_n 0, 1) := by decide +kernel
theorem dX5_isNarrow_6 : decode cX5_isNarrow 6 = .ok (.getfield 112, 3) := by decide +kernel
theorem dX5_isNarrow_9 : decode cX5_isNarrow 9 = .ok (.if_icmp .gt 94, 3) := by decide +kernel
theorem dX5_isNarrow_12 : decode cX5_isNarrow 12 = .ok (.aload_n 0, 1) := by decide +kernel
theorem dX5_isNarrow_13 : decode cX5_isNarrow 13 = .ok (.iload_n 1, 1) := by decide +kernel
theorem dX5_isNarrow_14 : decode cX5_isNarrow 14 = .ok (.iconst 0, 1) := by decide +kernel
theorem dX5_isNarrow_15 : decode cX5_isNarrow 15 = .ok (.invokevirtual 101, 3) := by decide +kernel
theorem dX5_isNarrow_18 : decode cX5_isNarrow 18 = .ok (.ifCond .eq 35, 3) := by decide +kernel
theorem dX5_isNarrow_21 : decode cX5_isNarrow 21 = .ok (.aload_n 0, 1) := by decide +kernel
theorem dX5_isNarrow_22 : decode cX5_isNarrow 22 = .ok (.iload_n 1, 1) := by decide +kernel
theorem dX5_isNarrow_23 : decode cX5_isNarrow 23 = .ok (.iload_n 3, 1) := by decide +kernel
theorem dX5_isNarrow_24 : decode cX5_isNarrow 24 = .ok (.invokevirtual 125, 3) := by decide +kernel
theorem dX5_isNarrow_27 : decode cX5_isNarrow 27 = .ok (.ifCond .eq 26, 3) := by decide +kernel
theorem dX5_isNarrow_30 : decode cX5_isNarrow 30 = .ok (.aload_n 0, 1) := by decide +kernel
theorem dX5_isNarrow_31 : decode cX5_isNarrow 31 = .ok (.getfield 38, 3) := by decide +kernel
theorem dX5_isNarrow_34 : decode cX5_isNarrow 34 = .ok (.bipush 16, 2) := by decide +kernel
theorem dX5_isNarrow_36 : decode cX5_isNarrow 36 = .ok (.aload_n 0, 1) := by decide +kernel
theorem dX5_isNarrow_37 : decode cX5_isNarrow 37 = .ok (.iload_n 1, 1) := by decide +kernel
theorem dX5_isNarrow_38 : decode cX5_isNarrow 38 = .ok (.iconst 0, 1) := by decide +kernel
theorem dX5_isNarrow_39 : decode cX5_isNarrow 39 = .ok (.invokevirtual 101, 3) := by decide +kernel
theorem dX5_isNarrow_42 : decode cX5_isNarrow 42 = .ok (.imul, 1) := by decide +kernel
theorem dX5_isNarrow_43 : decode cX5_isNarrow 43 = .ok (.iload_n 3, 1) := by decide +kernel
theorem dX5_isNarrow_44 : decode cX5_isNarrow 44 = .ok (.iadd, 1) := by decide +kernel
theorem dX5_isNarrow_45 : decode cX5_isNarrow 45 = .ok (.iaload, 1) := by decide +kernel
theorem dX5_isNarrow_46 : decode cX5_isNarrow 46 = .ok (.ifCond .lt 7, 3) := by decide +kernel
theorem dX5_isNarrow_49 : decode cX5_isNarrow 49 = .ok (.iconst 1, 1) := by decide +kernel
theorem dX5_isNarrow_50 : decode cX5_isNarrow 50 = .ok (.goto 4, 3) := by decide +kernel
theorem dX5_isNarrow_53 : decode cX5_isNarrow 53 = .ok (.iconst 0, 1) := by decide +kernel
theorem dX5_isNarrow_54 : decode cX5_isNarrow 54 = .ok (.istore 4, 2) := by decide +kernel
theorem dX5_isNarrow_56 : decode cX5_isNarrow 56 = .ok (.iload_n 2, 1) := by decide +kernel
theorem dX5_isNarrow_57 : decode cX5_isNarrow 57 = .ok (.ifCond .ne 34, 3) := by decide +kernel
theorem dX5_isNarrow_60 : decode cX5_isNarrow 60 = .ok (.iload 4, 2) := by decide +kernel
theorem dX5_isNarrow_62 : decode cX5_isNarrow 62 = .ok (.ifCond .eq 33, 3) := by decide +kernel
theorem dX5_isNarrow_65 : decode cX5_isNarrow 65 = .ok (.aload_n 0, 1) := by decide +kernel
theorem dX5_isNarrow_66 : decode cX5_isNarrow 66 = .ok (.getfield 38, 3) := by decide +kernel
theorem dX5_isNarrow_69 : decode cX5_isNarrow 69 = .ok (.bipush 16, 2) := by decide +kernel
theorem dX5_isNarrow_71 : decode cX5_isNarrow 71 = .ok (.aload_n 0, 1) := by decide +kernel
theorem dX5_isNarrow_72 : decode cX5_isNarrow 72 = .ok (.iload_n 1, 1) := by decide +kernel
theorem dX5_isNarrow_73 : decode cX5_isNarrow 73 = .ok (.iconst 1, 1) := by decide +kernel
theorem dX5_isNarrow_74 : decode cX5_isNarrow 74 = .ok (.invokevirtual 101, 3) := by decide +kernel
theorem dX5_isNarrow_77 : decode cX5_isNarrow 77 = .ok (.imul, 1) := by decide +kernel
theorem dX5_isNarrow_78 : decode cX5_isNarrow 78 = .ok (.iload_n 3, 1) := by decide +kernel
theorem dX5_isNarrow_79 : decode cX5_isNarrow 79 = .ok (.iadd, 1) := by decide +kernel
theorem dX5_isNarrow_80 : decode cX5_isNarrow 80 = .ok (.aload_n 0, 1) := by decide +kernel
theorem dX5_isNarrow_81 : decode cX5_isNarrow 81 = .ok (.iload_n 1, 1) := by decide +kernel
theorem dX5_isNarrow_82 : decode cX5_isNarrow 82 = .ok (.iconst 2, 1) := by decide +kernel
theorem dX5_isNarrow_83 : decode cX5_isNarrow 83 = .ok (.invokevirtual 101, 3) := by decide +kernel
theorem dX5_isNarrow_86 : decode cX5_isNarrow 86 = .ok (.iadd, 1) := by decide +kernel
theorem dX5_isNarrow_87 : decode cX5_isNarrow 87 = .ok (.iaload, 1) := by decide +kernel
theorem dX5_isNarrow_88 : decode cX5_isNarrow 88 = .ok (.ifCond .ge 7, 3) := by decide +kernel
theorem dX5_isNarrow_91 : decode cX5_isNarrow 91 = .ok (.iconst 1, 1) := by decide +kernel
theorem dX5_isNarrow_92 : decode cX5_isNarrow 92 = .ok (.goto 4, 3) := by decide +kernel
theorem dX5_isNarrow_95 : decode cX5_isNarrow 95 = .ok (.iconst 0, 1) := by decide +kernel
theorem dX5_isNarrow_96 : decode cX5_isNarrow 96 = .ok (.istore_n 2, 1) := by decide +kernel
theorem dX5_isNarrow_97 : decode cX5_isNarrow 97 = .ok (.iinc 3 1, 3) := by decide +kernel
theorem dX5_isNarrow_100 : decode cX5_isNarrow 100 = .ok (.goto (-96), 3) := by decide +kernel
theorem dX5_isNarrow_103 : decode cX5_isNarrow 103 = .ok (.iload_n 2, 1) := by decide +kernel
theorem dX5_isNarrow_104 : decode cX5_isNarrow 104 = .ok (.ireturn, 1) := by decide +kernel
set_option maxHeartbeats 4000000 in
set_option maxRecDepth 100000 in
theorem c_X5_isNarrow (l : Launch) (D : va_G) (cI cC cO : ClassId) (a : Nat → Nat) (M : Mm) (x1 : Int32) (res : Int32) (sz : Nat) (h : F_X5_isNarrow M x1 = some res) : Met l yX5_isNarrow (Cond.code yX5_isNarrow cX5_isNarrow 5 (Option.some Jvm.ClassFile.FieldType.boolean) :: lw_g) ({ frames := 2, cells := 0, slots := 0, locals := 45 } : Room) (va_Pc [.ref (a 0), .int x1] (pS D cI cC cO sz (wX5 a cI cC cO M))) (QI D cI cC cO (va_A (wX5 a cI cC cO M) sz) (wX5 a cI cC cO M) res) 0 0 (va_A (wX5 a cI cC cO M) sz) := by
  refine Met.ofW (cc := cX5_isNarrow) (maxL := 5) (ret := (Option.some Jvm.ClassFile.FieldType.boolean)) (by decide) rfl ?_
  intro p e s m args below meth c s₁ B hml hv
  obtain ⟨rfl, rfl, hP, hK, hD0, hN⟩ := hv
  have hx := B.exec
  have hb := B.bytes
  have hr := B.returns
  have ht : ∀ w ∈ lw_g, w.before ([.ref (a 0), .int x1] : List Value).toArray s = true := fun w hw => atoms_spec (ws := Cond.code yX5_isNarrow cX5_isNarrow 5 (Option.some Jvm.ClassFile.FieldType.boolean) :: lw_g) B.pre w (List.mem_cons_of_mem _ hw)
  have hown : s.vm.findClass RX5 = some m.cls := findClass_of_methodNamed B.named
  have hlocks := B.notSynchronized
  have hD := hD0.self (sz := s.heap.size)
  generalize hAe : va_A (wX5 a cI cC cO M) s.heap.size = A at hD ⊢
  have hA : ∀ q : Nat, s.heap.size ≤ q → A q := fun q hq => by rw [← hAe]; exact Or.inr hq
  have hS : va_S A s.heap s.heap [] := va_S.rf
  have hl := lv_entry ([.ref (a 0), .int x1]) (n := 5) (Nat.le_of_ble_eq_true rfl)
  rw [lg_entry_eq]
  generalize (lg_sl ([.ref (a 0), .int x1]) ++ List.replicate (5 - (lg_sl ([.ref (a 0), .int x1])).length) Slot.unset).toArray = ls at hl ⊢
  have hl : lv_has ls 5 [(0, .ref (a 0)), (1, .int x1)] := hl
  have w4 : ∀ (n4 : Nat) (y1 y2 y3 : Int32) (H : Heap) (locs : List Loc) (ls : Array Slot), F_X5_isNarrow_4 n4 M y1 y2 y3 = some res → va_P D classes (wX5 a cI cC cO M) H → va_D A (wX5 a cI cC cO M) → va_S A s.heap H locs → lv_has ls 5 [(0, .ref (a 0)), (1, .int y1), (2, .int y2), (3, .int y3)] → W p l e ({ frames := 2, cells := 0, slots := 0, locals := 45 } : Room) s m ([.ref (a 0), .int x1] : List Value).toArray below meth c H locs 0 0 (MQ below (QI D cI cC cO A (wX5 a cI cC cO M) res) ([.ref (a 0), .int x1] : List Value).toArray s 0 0 A) (F0 m 4 ls []) := by
    intro n4
    induction n4 with
    | zero => intro y1 y2 y3 H locs ls h hP hD hS hl; exact absurd (show (none : Option (Int32)) = some res from h) (by simp)
    | succ n4 ih4 =>
      have w54 : ∀ (y1 y2 y3 s0 : Int32) (H : Heap) (locs : List Loc) (ls : Array Slot), F_X5_isNarrow_54 (F_X5_isNarrow_4 n4) M y1 y2 y3 s0 = some res → va_P D classes (wX5 a cI cC cO M) H → va_D A (wX5 a cI cC cO M) → va_S A s.heap H locs → lv_has ls 5 [(0, .ref (a 0)), (1, .int y1), (2, .int y2), (3, .int y3)] → W p l e ({ frames := 2, cells := 0, slots := 0, locals := 45 } : Room) s m ([.ref (a 0), .int x1] : List Value).toArray below meth c H locs 0 0 (MQ below (QI D cI cC cO A (wX5 a cI cC cO M) res) ([.ref (a 0), .int x1] : List Value).toArray s 0 0 A) (F0 m 54 ls [.int s0]) := by
        intro y1 y2 y3 s0 H locs ls h hP hD hS hl
        unfold F_X5_isNarrow_54 at h
        refine lv_istore (lv' := [(4, .int s0), (0, .ref (a 0)), (1, .int y1), (2, .int y2), (3, .int y3)]) hx hb dX5_isNarrow_54 hl (by decide) rfl (fun ls hl => ?_)
        refine lv_iload_n hx hb dX5_isNarrow_56 rfl (lv_at hl 3 rfl) ?_
        refine lv_if_ne (tgt := 91) hx hb dX5_isNarrow_57 (by decide) (fun c1 => ?_) (fun c1 => ?_)
        · replace h := fn c1 h
          refine lv_iconst (v := (1 : Int32)) hx hb dX5_isNarrow_91 (by decide) ?_
          refine lv_goto (tgt := 96) hx hb dX5_isNarrow_92 (by decide) ?_
          refine lv_istore_n (lv' := [(2, .int (1 : Int32)), (4, .int s0), (0, .ref (a 0)), (1, .int y1), (3, .int y3)]) hx hb dX5_isNarrow_96 rfl hl (by decide) rfl (fun ls hl => ?_)
          refine lv_iinc (v := (y3 + 1)) (lv' := [(3, .int (y3 + 1)), (2, .int (1 : Int32)), (4, .int s0), (0, .ref (a 0)), (1, .int y1)]) hx hb dX5_isNarrow_97 hl (k := 4) rfl rfl (by decide) rfl (fun ls hl => ?_)
          refine lv_goto (tgt := 4) hx hb dX5_isNarrow_100 (by decide) ?_
          exact ih4 y1 (1 : Int32) (y3 + 1) _ _ ls h hP hD hS (lv_sub hl [3, 4, 1, 0] rfl)
        · replace h := fp c1 h
          refine lv_iload hx hb dX5_isNarrow_60 (lv_at hl 0 rfl) ?_
          refine lv_if_eq (tgt := 95) hx hb dX5_isNarrow_62 (by decide) (fun c2 => ?_) (fun c2 => ?_)
          · replace h := fp c2 h
            refine lv_iconst (v := (0 : Int32)) hx hb dX5_isNarrow_95 (by decide) ?_
            refine lv_istore_n (lv' := [(2, .int (0 : Int32)), (4, .int s0), (0, .ref (a 0)), (1, .int y1), (3, .int y3)]) hx hb dX5_isNarrow_96 rfl hl (by decide) rfl (fun ls hl => ?_)
            refine lv_iinc (v := (y3 + 1)) (lv' := [(3, .int (y3 + 1)), (2, .int (0 : Int32)), (4, .int s0), (0, .ref (a 0)), (1, .int y1)]) hx hb dX5_isNarrow_97 hl (k := 4) rfl rfl (by decide) rfl (fun ls hl => ?_)
            refine lv_goto (tgt := 4) hx hb dX5_isNarrow_100 (by decide) ?_
            exact ih4 y1 (0 : Int32) (y3 + 1) _ _ ls h hP hD hS (lv_sub hl [3, 4, 1, 0] rfl)
          · replace h := fn c2 h
            refine lv_aload_n hx hb dX5_isNarrow_65 rfl (lv_at hl 1 rfl) ?_
            refine va_get (D := D) (ci := 5) (v := .ref (a 10)) (C := RX5) (T := TX5) (N := 23) hx hb ht i_X5 hown hK hP 0 rfl rfl 14 (by decide) (ht _ wd_550) (fun _ h9 => h9) rfl dX5_isNarrow_66 ?_
            refine lv_bipush (v := (16 : Int32)) hx hb dX5_isNarrow_69 (by decide) ?_
            refine lv_aload_n hx hb dX5_isNarrow_71 rfl (lv_at hl 1 rfl) ?_
            refine lv_iload_n hx hb dX5_isNarrow_72 rfl (lv_at hl 2 rfl) ?_
            refine lv_iconst (v := (1 : Int32)) hx hb dX5_isNarrow_73 (by decide) ?_
            obtain ⟨u3, e4, h⟩ := b1_ok h
            refine cl_Vi (ws' := (wX5 a cI cC cO M)) ⟨hx, hb, hml, hown, ht⟩ (c_X5_pi l D cI cC cO a M y1 (1 : Int32) _ _ e4) (cwv 2 ht wd_678 wd_6 wd_675 wd_677 ws_28 (by decide +kernel) rfl rfl ⟨Nat.le_of_ble_eq_true rfl, Nat.le_of_ble_eq_true rfl⟩) 5 0 rfl rfl rfl hK hP hD hS hA hN [0, 1, 2, 3, 4, 5, 6, 7, 8, 9, 10, 11, 12] [] [0, 1, 2, 3, 4, 5, 6, 7, 8, 9, 10, 11, 12] (by decide) rfl rfl (by decide) (by decide) rfl (by decide) rfl hl.1 rfl (Nat.le_of_ble_eq_true rfl) dX5_isNarrow_74 ⟨Nat.le_of_ble_eq_true rfl, Nat.le_of_ble_eq_true rfl⟩ (fun H locs hP hD hS => ?_)
            refine lv_imul hx hb dX5_isNarrow_77 ?_
            refine lv_iload_n hx hb dX5_isNarrow_78 rfl (lv_at hl 4 rfl) ?_
            refine lv_iadd hx hb dX5_isNarrow_79 ?_
            refine lv_aload_n hx hb dX5_isNarrow_80 rfl (lv_at hl 1 rfl) ?_
            refine lv_iload_n hx hb dX5_isNarrow_81 rfl (lv_at hl 2 rfl) ?_
            refine lv_iconst (v := (2 : Int32)) hx hb dX5_isNarrow_82 (by decide) ?_
            obtain ⟨u5, e6, h⟩ := b1_ok h
            refine cl_Vi (ws' := (wX5 a cI cC cO M)) ⟨hx, hb, hml, hown, ht⟩ (c_X5_pi l D cI cC cO a M y1 (2 : Int32) _ _ e6) (cwv 2 ht wd_678 wd_6 wd_675 wd_677 ws_28 (by decide +kernel) rfl rfl ⟨Nat.le_of_ble_eq_true rfl, Nat.le_of_ble_eq_true rfl⟩) 5 0 rfl rfl rfl hK hP hD hS hA hN [0, 1, 2, 3, 4, 5, 6, 7, 8, 9, 10, 11, 12] [] [0, 1, 2, 3, 4, 5, 6, 7, 8, 9, 10, 11, 12] (by decide) rfl rfl (by decide) (by decide) rfl (by decide) rfl hl.1 rfl (Nat.le_of_ble_eq_true rfl) dX5_isNarrow_83 ⟨Nat.le_of_ble_eq_true rfl, Nat.le_of_ble_eq_true rfl⟩ (fun H locs hP hD hS => ?_)
            refine lv_iadd hx hb dX5_isNarrow_86 ?_
            obtain ⟨i7, h⟩ := ck_ok h
            refine va_iald hx hb hK hP 10 0 rfl rfl i7 dX5_isNarrow_87 ?_
            refine lv_if_ge (tgt := 95) hx hb dX5_isNarrow_88 (by decide) (fun c8 => ?_) (fun c8 => ?_)
            · replace h := fp c8 h
              refine lv_iconst (v := (0 : Int32)) hx hb dX5_isNarrow_95 (by decide) ?_
              refine lv_istore_n (lv' := [(2, .int (0 : Int32)), (4, .int s0), (0, .ref (a 0)), (1, .int y1), (3, .int y3)]) hx hb dX5_isNarrow_96 rfl hl (by decide) rfl (fun ls hl => ?_)
              refine lv_iinc (v := (y3 + 1)) (lv' := [(3, .int (y3 + 1)), (2, .int (0 : Int32)), (4, .int s0), (0, .ref (a 0)), (1, .int y1)]) hx hb dX5_isNarrow_97 hl (k := 4) rfl rfl (by decide) rfl (fun ls hl => ?_)
              refine lv_goto (tgt := 4) hx hb dX5_isNarrow_100 (by decide) ?_
              exact ih4 y1 (0 : Int32) (y3 + 1) _ _ ls h hP hD hS (lv_sub hl [3, 4, 1, 0] rfl)
            · replace h := fn c8 h
              refine lv_iconst (v := (1 : Int32)) hx hb dX5_isNarrow_91 (by decide) ?_
              refine lv_goto (tgt := 96) hx hb dX5_isNarrow_92 (by decide) ?_
              refine lv_istore_n (lv' := [(2, .int (1 : Int32)), (4, .int s0), (0, .ref (a 0)), (1, .int y1), (3, .int y3)]) hx hb dX5_isNarrow_96 rfl hl (by decide) rfl (fun ls hl => ?_)
              refine lv_iinc (v := (y3 + 1)) (lv' := [(3, .int (y3 + 1)), (2, .int (1 : Int32)), (4, .int s0), (0, .ref (a 0)), (1, .int y1)]) hx hb dX5_isNarrow_97 hl (k := 4) rfl rfl (by decide) rfl (fun ls hl => ?_)
              refine lv_goto (tgt := 4) hx hb dX5_isNarrow_100 (by decide) ?_
              exact ih4 y1 (1 : Int32) (y3 + 1) _ _ ls h hP hD hS (lv_sub hl [3, 4, 1, 0] rfl)
      have w53 : ∀ (y1 y2 y3 : Int32) (H : Heap) (locs : List Loc) (ls : Array Slot), F_X5_isNarrow_53 (F_X5_isNarrow_4 n4) M y1 y2 y3 = some res → va_P D classes (wX5 a cI cC cO M) H → va_D A (wX5 a cI cC cO M) → va_S A s.heap H locs → lv_has ls 5 [(0, .ref (a 0)), (1, .int y1), (2, .int y2), (3, .int y3)] → W p l e ({ frames := 2, cells := 0, slots := 0, locals := 45 } : Room) s m ([.ref (a 0), .int x1] : List Value).toArray below meth c H locs 0 0 (MQ below (QI D cI cC cO A (wX5 a cI cC cO M) res) ([.ref (a 0), .int x1] : List Value).toArray s 0 0 A) (F0 m 53 ls []) := by
        intro y1 y2 y3 H locs ls h hP hD hS hl
        unfold F_X5_isNarrow_53 at h
        refine lv_iconst (v := (0 : Int32)) hx hb dX5_isNarrow_53 (by decide) ?_
        exact w54 y1 y2 y3 (0 : Int32) _ _ ls h hP hD hS (lv_sub hl [0, 1, 2, 3] rfl)
      intro y1 y2 y3 H locs ls h hP hD hS hl
      have h : F_X5_isNarrowB_4 (F_X5_isNarrow_4 n4) M y1 y2 y3 = some res := h
      unfold F_X5_isNarrowB_4 at h
      refine lv_iload_n hx hb dX5_isNarrow_4 rfl (lv_at hl 3 rfl) ?_
      refine lv_aload_n hx hb dX5_isNarrow_5 rfl (lv_at hl 0 rfl) ?_
      refine va_get (D := D) (ci := 5) (v := .int (M 12 5)) (C := RX5) (T := TX5) (N := 23) hx hb ht i_X5 hown hK hP 0 rfl rfl 17 (by decide) (ht _ wd_553) (fun _ h9 => h9) rfl dX5_isNarrow_6 ?_
      refine lv_icmp_gt (tgt := 103) hx hb dX5_isNarrow_9 (by decide) (fun c1 => ?_) (fun c1 => ?_)
      · replace h := fp c1 h
        refine lv_iload_n hx hb dX5_isNarrow_103 rfl (lv_at hl 2 rfl) ?_
        obtain ⟨z2, h⟩ := cz_ok h
        cases h
        exact rt_z hx hb hr (nz z2) hlocks hS hP hK hD dX5_isNarrow_104
      · replace h := fn c1 h
        refine lv_aload_n hx hb dX5_isNarrow_12 rfl (lv_at hl 0 rfl) ?_
        refine lv_iload_n hx hb dX5_isNarrow_13 rfl (lv_at hl 1 rfl) ?_
        refine lv_iconst (v := (0 : Int32)) hx hb dX5_isNarrow_14 (by decide) ?_
        obtain ⟨u3, e4, h⟩ := b1_ok h
        refine cl_Vi (ws' := (wX5 a cI cC cO M)) ⟨hx, hb, hml, hown, ht⟩ (c_X5_pi l D cI cC cO a M y1 (0 : Int32) _ _ e4) (cwv 2 ht wd_678 wd_6 wd_675 wd_677 ws_28 (by decide +kernel) rfl rfl ⟨Nat.le_of_ble_eq_true rfl, Nat.le_of_ble_eq_true rfl⟩) 5 0 rfl rfl rfl hK hP hD hS hA hN [0, 1, 2, 3, 4, 5, 6, 7, 8, 9, 10, 11, 12] [] [0, 1, 2, 3, 4, 5, 6, 7, 8, 9, 10, 11, 12] (by decide) rfl rfl (by decide) (by decide) rfl (by decide) rfl hl.1 rfl (Nat.le_of_ble_eq_true rfl) dX5_isNarrow_15 ⟨Nat.le_of_ble_eq_true rfl, Nat.le_of_ble_eq_true rfl⟩ (fun H locs hP hD hS => ?_)
        refine lv_if_eq (tgt := 53) hx hb dX5_isNarrow_18 (by decide) (fun c5 => ?_) (fun c5 => ?_)
        · replace h := fp c5 h
          exact w53 y1 y2 y3 _ _ ls h hP hD hS (lv_sub hl [0, 1, 2, 3] rfl)
        · replace h := fn c5 h
          refine lv_aload_n hx hb dX5_isNarrow_21 rfl (lv_at hl 0 rfl) ?_
          refine lv_iload_n hx hb dX5_isNarrow_22 rfl (lv_at hl 1 rfl) ?_
          refine lv_iload_n hx hb dX5_isNarrow_23 rfl (lv_at hl 3 rfl) ?_
          obtain ⟨u6, e7, h⟩ := b1_ok h
          refine cl_Vi (ws' := (wX5 a cI cC cO M)) ⟨hx, hb, hml, hown, ht⟩ (c_X5_isOpen l D cI cC cO a M y1 y3 _ _ e7) (cwv 2 ht wd_724 wd_6 wd_721 wd_723 ws_37 (by decide +kernel) rfl rfl ⟨Nat.le_of_ble_eq_true rfl, Nat.le_of_ble_eq_true rfl⟩) 5 0 rfl rfl rfl hK hP hD hS hA hN [0, 1, 2, 3, 4, 5, 6, 7, 8, 9, 10, 11, 12] [] [0, 1, 2, 3, 4, 5, 6, 7, 8, 9, 10, 11, 12] (by decide) rfl rfl (by decide) (by decide) rfl (by decide) rfl hl.1 rfl (Nat.le_of_ble_eq_true rfl) dX5_isNarrow_24 ⟨Nat.le_of_ble_eq_true rfl, Nat.le_of_ble_eq_true rfl⟩ (fun H locs hP hD hS => ?_)
          refine lv_if_eq (tgt := 53) hx hb dX5_isNarrow_27 (by decide) (fun c8 => ?_) (fun c8 => ?_)
          · replace h := fp c8 h
            exact w53 y1 y2 y3 _ _ ls h hP hD hS (lv_sub hl [0, 1, 2, 3] rfl)
          · replace h := fn c8 h
            refine lv_aload_n hx hb dX5_isNarrow_30 rfl (lv_at hl 0 rfl) ?_
            refine va_get (D := D) (ci := 5) (v := .ref (a 10)) (C := RX5) (T := TX5) (N := 23) hx hb ht i_X5 hown hK hP 0 rfl rfl 14 (by decide) (ht _ wd_550) (fun _ h9 => h9) rfl dX5_isNarrow_31 ?_
            refine lv_bipush (v := (16 : Int32)) hx hb dX5_isNarrow_34 (by decide) ?_
            refine lv_aload_n hx hb dX5_isNarrow_36 rfl (lv_at hl 0 rfl) ?_
            refine lv_iload_n hx hb dX5_isNarrow_37 rfl (lv_at hl 1 rfl) ?_
            refine lv_iconst (v := (0 : Int32)) hx hb dX5_isNarrow_38 (by decide) ?_
            obtain ⟨u9, e10, h⟩ := b1_ok h
            refine cl_Vi (ws' := (wX5 a cI cC cO M)) ⟨hx, hb, hml, hown, ht⟩ (c_X5_pi l D cI cC cO a M y1 (0 : Int32) _ _ e10) (cwv 2 ht wd_678 wd_6 wd_675 wd_677 ws_28 (by decide +kernel) rfl rfl ⟨Nat.le_of_ble_eq_true rfl, Nat.le_of_ble_eq_true rfl⟩) 5 0 rfl rfl rfl hK hP hD hS hA hN [0, 1, 2, 3, 4, 5, 6, 7, 8, 9, 10, 11, 12] [] [0, 1, 2, 3, 4, 5, 6, 7, 8, 9, 10, 11, 12] (by decide) rfl rfl (by decide) (by decide) rfl (by decide) rfl hl.1 rfl (Nat.le_of_ble_eq_true rfl) dX5_isNarrow_39 ⟨Nat.le_of_ble_eq_true rfl, Nat.le_of_ble_eq_true rfl⟩ (fun H locs hP hD hS => ?_)
            refine lv_imul hx hb dX5_isNarrow_42 ?_
            refine lv_iload_n hx hb dX5_isNarrow_43 rfl (lv_at hl 3 rfl) ?_
            refine lv_iadd hx hb dX5_isNarrow_44 ?_
            obtain ⟨i11, h⟩ := ck_ok h
            refine va_iald hx hb hK hP 10 0 rfl rfl i11 dX5_isNarrow_45 ?_
            refine lv_if_lt (tgt := 53) hx hb dX5_isNarrow_46 (by decide) (fun c12 => ?_) (fun c12 => ?_)
            · replace h := fp c12 h
              exact w53 y1 y2 y3 _ _ ls h hP hD hS (lv_sub hl [0, 1, 2, 3] rfl)
            · replace h := fn c12 h
              refine lv_iconst (v := (1 : Int32)) hx hb dX5_isNarrow_49 (by decide) ?_
              refine lv_goto (tgt := 54) hx hb dX5_isNarrow_50 (by decide) ?_
              exact w54 y1 y2 y3 (1 : Int32) _ _ ls h hP hD hS (lv_sub hl [0, 1, 2, 3] rfl)
  unfold F_X5_isNarrow at h
  refine lv_iconst (v := (0 : Int32)) hx hb dX5_isNarrow_0 (by decide) ?_
  refine lv_istore_n (lv' := [(2, .int (0 : Int32)), (0, .ref (a 0)), (1, .int x1)]) hx hb dX5_isNarrow_1 rfl hl (by decide) rfl (fun ls hl => ?_)
  refine lv_iconst (v := (0 : Int32)) hx hb dX5_isNarrow_2 (by decide) ?_
  refine lv_istore_n (lv' := [(3, .int (0 : Int32)), (2, .int (0 : Int32)), (0, .ref (a 0)), (1, .int x1)]) hx hb dX5_isNarrow_3 rfl hl (by decide) rfl (fun ls hl => ?_)
  exact w4 FU x1 (0 : Int32) (0 : Int32) _ _ ls h hP hD hS (lv_sub hl [2, 3, 1, 0] rfl)
theorem dX5_narrow_0 : decode cX5_narrow 0 = .ok (.iload_n 1, 1) := by decide +kernel
theorem dX5_narrow_1 : decode cX5_narrow 1 = .ok (.iconst 0, 1) := by decide +kernel
theorem dX5_narrow_2 : decode cX5_narrow 2 = .ok (.bipush 15, 2) := by decide +kernel
theorem dX5_narrow_4 : decode cX5_narrow 4 = .ok (.invokestatic 63, 3) := by decide +kernel
theorem dX5_narrow_7 : decode cX5_narrow 7 = .ok (.ifCond .ne 6, 3) := by decide +kernel
theorem dX5_narrow_10 : decode cX5_narrow 10 = .ok (.ldc 67, 2) := by decide +kernel
theorem dX5_narrow_12 : decode cX5_narrow 12 = .ok (.ireturn, 1) := by decide +kernel
theorem dX5_narrow_13 : decode cX5_narrow 13 = .ok (.aload_n 0, 1) := by decide +kernel
theorem dX5_narrow_14 : decode cX5_narrow 14 = .ok (.iload_n 1, 1) := by decide +kernel
theorem dX5_narrow_15 : decode cX5_narrow 15 = .ok (.invokevirtual 143, 3) := by decide +kernel
theorem dX5_narrow_18 : decode cX5_narrow 18 = .ok (.pop, 1) := by decide +kernel
theorem dX5_narrow_19 : decode cX5_narrow 19 = .ok (.iconst 0, 1) := by decide +kernel
theorem dX5_narrow_20 : decode cX5_narrow 20 = .ok (.istore_n 2, 1) := by decide +kernel
theorem dX5_narrow_21 : decode cX5_narrow 21 = .ok (.iconst 0, 1) := by decide +kernel
theorem dX5_narrow_22 : decode cX5_narrow 22 = .ok (.istore_n 3, 1) := by decide +kernel
theorem dX5_narrow_23 : decode cX5_narrow 23 = .ok (.iload_n 3, 1) := by decide +kernel
theorem dX5_narrow_24 : decode cX5_narrow 24 = .ok (.aload_n 0, 1) := by decide +kernel
theorem dX5_narrow_25 : decode cX5_narrow 25 = .ok (.getfield 7, 3) := by decide +kernel
theorem dX5_narrow_28 : decode cX5_narrow 28 = .ok (.iconst 1, 1) := by decide +kernel
theorem dX5_narrow_29 : decode cX5_narrow 29 = .ok (.iaload, 1) := by decide +kernel
theorem dX5_narrow_30 : decode cX5_narrow 30 = .ok (.if_icmp .ge 27, 3) := by decide +kernel
theorem dX5_narrow_33 : decode cX5_narrow 33 = .ok (.iload_n 2, 1) := by decide +kernel
theorem dX5_narrow_34 : decode cX5_narrow 34 = .ok (.aload_n 0, 1) := by decide +kernel
theorem dX5_narrow_35 : decode cX5_narrow 35 = .ok (.iload_n 3, 1) := by decide +kernel
theorem dX5_narrow_36 : decode cX5_narrow 36 = .ok (.invokevirtual 150, 3) := by decide +kernel
theorem dX5_narrow_39 : decode cX5_narrow 39 = .ok (.ifCond .eq 9, 3) := by decide +kernel
theorem dX5_narrow_42 : decode cX5_narrow 42 = .ok (.iconst 1, 1) := by decide +kernel
theorem dX5_narrow_43 : decode cX5_narrow 43 = .ok (.iload_n 3, 1) := by decide +kernel
theorem dX5_narrow_44 : decode cX5_narrow 44 = .ok (.ishl, 1) := by decide +kernel
theorem dX5_narrow_45 : decode cX5_narrow 45 = .ok (.goto 4, 3) := by decide +kernel
theorem dX5_narrow_48 : decode cX5_narrow 48 = .ok (.iconst 0, 1) := by decide +kernel
theorem dX5_narrow_49 : decode cX5_narrow 49 = .ok (.ior, 1) := by decide +kernel
theorem dX5_narrow_50 : decode cX5_narrow 50 = .ok (.istore_n 2, 1) := by decide +kernel
theorem dX5_narrow_51 : decode cX5_narrow 51 = .ok (.iinc 3 1, 3) := by decide +kernel
theorem dX5_narrow_54 : decode cX5_narrow 54 = .ok (.goto (-31), 3) := by decide +kernel
theorem dX5_narrow_57 : decode cX5_narrow 57 = .ok (.iload_n 2, 1) := by decide +kernel
theorem dX5_narrow_58 : decode cX5_narrow 58 = .ok (.ireturn, 1) := by decide +kernel
set_option maxHeartbeats 4000000 in
set_option maxRecDepth 100000 in
theorem c_X5_narrow (l : Launch) (D : va_G) (cI cC cO : ClassId) (a : Nat → Nat) (M : Mm) (x1 : Int32) (res : Int32 × Mm) (sz : Nat) (h : F_X5_narrow M x1 = some res) : Met l yX5_narrow (Cond.code yX5_narrow cX5_narrow 4 (Option.some Jvm.ClassFile.FieldType.int) :: lw_g) ({ frames := 5, cells := 0, slots := 0, locals := 114 } : Room) (va_Pc [.ref (a 0), .int x1] (pS D cI cC cO sz (wX5 a cI cC cO M))) (QI D cI cC cO (va_A (wX5 a cI cC cO M) sz) (wX5 a cI cC cO res.2) res.1) 0 0 (va_A (wX5 a cI cC cO M) sz) := by
  refine Met.ofW (cc := cX5_narrow) (maxL := 4) (ret := (Option.some Jvm.ClassFile.FieldType.int)) (by decide) rfl ?_
  intro p e s m args below meth c s₁ B hml hv
  obtain ⟨rfl, rfl, hP, hK, hD0, hN⟩ := hv
  have hx := B.exec
  have hb := B.bytes
  have hr := B.returns
  have ht : ∀ w ∈ lw_g, w.before ([.ref (a 0), .int x1] : List Value).toArray s = true := fun w hw => atoms_spec (ws := Cond.code yX5_narrow cX5_narrow 4 (Option.some Jvm.ClassFile.FieldType.int) :: lw_g) B.pre w (List.mem_cons_of_mem _ hw)
  have hown : s.vm.findClass RX5 = some m.cls := findClass_of_methodNamed B.named
  have hlocks := B.notSynchronized
  have hD := hD0.self (sz := s.heap.size)
  generalize hAe : va_A (wX5 a cI cC cO M) s.heap.size = A at hD ⊢
  have hA : ∀ q : Nat, s.heap.size ≤ q → A q := fun q hq => by rw [← hAe]; exact Or.inr hq
  have hS : va_S A s.heap s.heap [] := va_S.rf
  have hl := lv_entry ([.ref (a 0), .int x1]) (n := 4) (Nat.le_of_ble_eq_true rfl)
  rw [lg_entry_eq]
  generalize (lg_sl ([.ref (a 0), .int x1]) ++ List.replicate (4 - (lg_sl ([.ref (a 0), .int x1])).length) Slot.unset).toArray = ls at hl ⊢
  have hl : lv_has ls 4 [(0, .ref (a 0)), (1, .int x1)] := hl
  have w23 : ∀ (n23 : Nat) (M : Mm) (y2 y3 : Int32) (H : Heap) (locs : List Loc) (ls : Array Slot), F_X5_narrow_23 n23 M y2 y3 = some res → va_P D classes (wX5 a cI cC cO M) H → va_D A (wX5 a cI cC cO M) → va_S A s.heap H locs → lv_has ls 4 [(0, .ref (a 0)), (2, .int y2), (3, .int y3)] → W p l e ({ frames := 5, cells := 0, slots := 0, locals := 114 } : Room) s m ([.ref (a 0), .int x1] : List Value).toArray below meth c H locs 0 0 (MQ below (QI D cI cC cO A (wX5 a cI cC cO res.2) res.1) ([.ref (a 0), .int x1] : List Value).toArray s 0 0 A) (F0 m 23 ls []) := by
    intro n23
    induction n23 with
    | zero => intro M y2 y3 H locs ls h hP hD hS hl; exact absurd (show (none : Option (Int32 × Mm)) = some res from h) (by simp)
    | succ n23 ih23 =>
      intro M y2 y3 H locs ls h hP hD hS hl
      have h : F_X5_narrowB_23 (F_X5_narrow_23 n23) M y2 y3 = some res := h
      unfold F_X5_narrowB_23 at h
      refine lv_iload_n hx hb dX5_narrow_23 rfl (lv_at hl 2 rfl) ?_
      refine lv_aload_n hx hb dX5_narrow_24 rfl (lv_at hl 0 rfl) ?_
      refine va_get (D := D) (ci := 5) (v := .ref (a 1)) (C := RX5) (T := TX5) (N := 23) hx hb ht i_X5 hown hK hP 0 rfl rfl 0 (by decide) (ht _ wd_536) (fun _ h9 => h9) rfl dX5_narrow_25 ?_
      refine lv_iconst (v := (1 : Int32)) hx hb dX5_narrow_28 (by decide) ?_
      obtain ⟨i1, h⟩ := ck_ok h
      refine va_iald hx hb hK hP 1 0 rfl rfl i1 dX5_narrow_29 ?_
      refine lv_icmp_ge (tgt := 57) hx hb dX5_narrow_30 (by decide) (fun c2 => ?_) (fun c2 => ?_)
      · replace h := fp c2 h
        refine lv_iload_n hx hb dX5_narrow_57 rfl (lv_at hl 1 rfl) ?_
        cases h
        exact rt_i hx hb hr hlocks hS hP hK hD dX5_narrow_58
      · replace h := fn c2 h
        refine lv_iload_n hx hb dX5_narrow_33 rfl (lv_at hl 1 rfl) ?_
        refine lv_aload_n hx hb dX5_narrow_34 rfl (lv_at hl 0 rfl) ?_
        refine lv_iload_n hx hb dX5_narrow_35 rfl (lv_at hl 2 rfl) ?_
        obtain ⟨u3, e4, h⟩ := b1_ok h
        refine cl_Vi (ws' := (wX5 a cI cC cO M)) ⟨hx, hb, hml, hown, ht⟩ (c_X5_isNarrow l D cI cC cO a M y3 _ _ e4) (cwv 1 ht wd_748 wd_6 wd_745 wd_747 ws_40 (by decide +kernel) rfl rfl ⟨Nat.le_of_ble_eq_true rfl, Nat.le_of_ble_eq_true rfl⟩) 5 0 rfl rfl rfl hK hP hD hS hA hN [0, 1, 2, 3, 4, 5, 6, 7, 8, 9, 10, 11, 12] [] [0, 1, 2, 3, 4, 5, 6, 7, 8, 9, 10, 11, 12] (by decide) rfl rfl (by decide) (by decide) rfl (by decide) rfl hl.1 rfl (Nat.le_of_ble_eq_true rfl) dX5_narrow_36 ⟨Nat.le_of_ble_eq_true rfl, Nat.le_of_ble_eq_true rfl⟩ (fun H locs hP hD hS => ?_)
        refine lv_if_eq (tgt := 48) hx hb dX5_narrow_39 (by decide) (fun c5 => ?_) (fun c5 => ?_)
        · replace h := fp c5 h
          refine lv_iconst (v := (0 : Int32)) hx hb dX5_narrow_48 (by decide) ?_
          refine lv_ior hx hb dX5_narrow_49 ?_
          refine lv_istore_n (lv' := [(2, .int (y2 ||| (0 : Int32))), (0, .ref (a 0)), (3, .int y3)]) hx hb dX5_narrow_50 rfl hl (by decide) rfl (fun ls hl => ?_)
          refine lv_iinc (v := (y3 + 1)) (lv' := [(3, .int (y3 + 1)), (2, .int (y2 ||| (0 : Int32))), (0, .ref (a 0))]) hx hb dX5_narrow_51 hl (k := 2) rfl rfl (by decide) rfl (fun ls hl => ?_)
          refine lv_goto (tgt := 23) hx hb dX5_narrow_54 (by decide) ?_
          exact ih23 M (y2 ||| (0 : Int32)) (y3 + 1) _ _ ls h hP hD hS (lv_sub hl [2, 1, 0] rfl)
        · replace h := fn c5 h
          refine lv_iconst (v := (1 : Int32)) hx hb dX5_narrow_42 (by decide) ?_
          refine lv_iload_n hx hb dX5_narrow_43 rfl (lv_at hl 2 rfl) ?_
          refine lv_ishl hx hb dX5_narrow_44 ?_
          refine lv_goto (tgt := 49) hx hb dX5_narrow_45 (by decide) ?_
          refine lv_ior hx hb dX5_narrow_49 ?_
          refine lv_istore_n (lv' := [(2, .int (y2 ||| ((1 : Int32) <<< (y3 &&& 31)))), (0, .ref (a 0)), (3, .int y3)]) hx hb dX5_narrow_50 rfl hl (by decide) rfl (fun ls hl => ?_)
          refine lv_iinc (v := (y3 + 1)) (lv' := [(3, .int (y3 + 1)), (2, .int (y2 ||| ((1 : Int32) <<< (y3 &&& 31)))), (0, .ref (a 0))]) hx hb dX5_narrow_51 hl (k := 2) rfl rfl (by decide) rfl (fun ls hl => ?_)
          refine lv_goto (tgt := 23) hx hb dX5_narrow_54 (by decide) ?_
          exact ih23 M (y2 ||| ((1 : Int32) <<< (y3 &&& 31))) (y3 + 1) _ _ ls h hP hD hS (lv_sub hl [2, 1, 0] rfl)
  unfold F_X5_narrow at h
  refine lv_iload_n hx hb dX5_narrow_0 rfl (lv_at hl 1 rfl) ?_
  refine lv_iconst (v := (0 : Int32)) hx hb dX5_narrow_1 (by decide) ?_
  refine lv_bipush (v := (15 : Int32)) hx hb dX5_narrow_2 (by decide) ?_
  obtain ⟨u1, e2, h⟩ := b1_ok h
  refine cl_Si (ws' := (wX5 a cI cC cO M)) ⟨hx, hb, hml, hown, ht⟩ (c_X5_in l D cI cC cO x1 (0 : Int32) (15 : Int32) _ _ e2) (cwst 3 ht wd_612 wd_6 wd_610 wd_611 (by decide +kernel) rfl rfl ⟨Nat.le_of_ble_eq_true rfl, Nat.le_of_ble_eq_true rfl⟩) hK hP hD hS hA hN [] [0, 1, 2, 3, 4, 5, 6, 7, 8, 9, 10, 11, 12] [0, 1, 2, 3, 4, 5, 6, 7, 8, 9, 10, 11, 12] (by decide) rfl rfl (by decide) (by decide) rfl (by decide) rfl hl.1 rfl (Nat.le_of_ble_eq_true rfl) dX5_narrow_4 ⟨Nat.le_of_ble_eq_true rfl, Nat.le_of_ble_eq_true rfl⟩ (fun H locs hP hD hS => ?_)
  refine lv_if_ne (tgt := 13) hx hb dX5_narrow_7 (by decide) (fun c3 => ?_) (fun c3 => ?_)
  · replace h := fn c3 h
    refine lv_aload_n hx hb dX5_narrow_13 rfl (lv_at hl 0 rfl) ?_
    refine lv_iload_n hx hb dX5_narrow_14 rfl (lv_at hl 1 rfl) ?_
    obtain ⟨u4, M5, e6, h⟩ := b2_ok h
    refine cl_Vi (ws' := (wX5 a cI cC cO M5)) ⟨hx, hb, hml, hown, ht⟩ (c_X5_comes l D cI cC cO a M x1 _ _ e6) (cwv 1 ht wd_699 wd_6 wd_696 wd_698 ws_31 (by decide +kernel) rfl rfl ⟨Nat.le_of_ble_eq_true rfl, Nat.le_of_ble_eq_true rfl⟩) 5 0 rfl rfl rfl hK hP hD hS hA hN [0, 1, 2, 3, 4, 5, 6, 7, 8, 9, 10, 11, 12] [] [0, 1, 2, 3, 4, 5, 6, 7, 8, 9, 10, 11, 12] (by decide) rfl rfl (by decide) (by decide) rfl (by decide) rfl hl.1 rfl (Nat.le_of_ble_eq_true rfl) dX5_narrow_15 ⟨Nat.le_of_ble_eq_true rfl, Nat.le_of_ble_eq_true rfl⟩ (fun H locs hP hD hS => ?_)
    refine lv_pop hx hb dX5_narrow_18 rfl ?_
    refine lv_iconst (v := (0 : Int32)) hx hb dX5_narrow_19 (by decide) ?_
    refine lv_istore_n (lv' := [(2, .int (0 : Int32)), (0, .ref (a 0)), (1, .int x1)]) hx hb dX5_narrow_20 rfl hl (by decide) rfl (fun ls hl => ?_)
    refine lv_iconst (v := (0 : Int32)) hx hb dX5_narrow_21 (by decide) ?_
    refine lv_istore_n (lv' := [(3, .int (0 : Int32)), (2, .int (0 : Int32)), (0, .ref (a 0)), (1, .int x1)]) hx hb dX5_narrow_22 rfl hl (by decide) rfl (fun ls hl => ?_)
    exact w23 FU M5 (0 : Int32) (0 : Int32) _ _ ls h hP hD hS (lv_sub hl [2, 1, 0] rfl)
  · replace h := fp c3 h
    refine lv_ldc hx hb hown (ht _ wd_613) dX5_narrow_10 ?_
    cases h
    exact rt_i hx hb hr hlocks hS hP hK hD dX5_narrow_12
theorem dX5_wanting_0 : decode cX5_wanting 0 = .ok (.iload_n 1, 1) := by decide +kernel
theorem dX5_wanting_1 : decode cX5_wanting 1 = .ok (.iconst 0, 1) := by decide +kernel
theorem dX5_wanting_2 : decode cX5_wanting 2 = .ok (.bipush 15, 2) := by decide +kernel
theorem dX5_wanting_4 : decode cX5_wanting 4 = .ok (.invokestatic 63, 3) := by decide +kernel
theorem dX5_wanting_7 : decode cX5_wanting 7 = .ok (.ifCond .eq 20, 3) := by decide +kernel
theorem dX5_wanting_10 : decode cX5_wanting 10 = .ok (.aload_n 0, 1) := by decide +kernel
theorem dX5_wanting_11 : decode cX5_wanting 11 = .ok (.iload_n 2, 1) := by decide +kernel
theorem dX5_wanting_12 : decode cX5_wanting 12 = .ok (.invokevirtual 83, 3) := by decide +kernel
theorem dX5_wanting_15 : decode cX5_wanting 15 = .ok (.ifCond .eq 12, 3) := by decide +kernel
theorem dX5_wanting_18 : decode cX5_wanting 18 = .ok (.iload_n 3, 1) := by decide +kernel
theorem dX5_wanting_19 : decode cX5_wanting 19 = .ok (.iconst 0, 1) := by decide +kernel
theorem dX5_wanting_20 : decode cX5_wanting 20 = .ok (.iload_n 1, 1) := by decide +kernel
theorem dX5_wanting_21 : decode cX5_wanting 21 = .ok (.invokestatic 63, 3) := by decide +kernel
theorem dX5_wanting_24 : decode cX5_wanting 24 = .ok (.ifCond .ne 6, 3) := by decide +kernel
theorem dX5_wanting_27 : decode cX5_wanting 27 = .ok (.ldc 67, 2) := by decide +kernel
theorem dX5_wanting_29 : decode cX5_wanting 29 = .ok (.ireturn, 1) := by decide +kernel
theorem dX5_wanting_30 : decode cX5_wanting 30 = .ok (.aload_n 0, 1) := by decide +kernel
theorem dX5_wanting_31 : decode cX5_wanting 31 = .ok (.iload_n 1, 1) := by decide +kernel
theorem dX5_wanting_32 : decode cX5_wanting 32 = .ok (.invokevirtual 143, 3) := by decide +kernel
theorem dX5_wanting_35 : decode cX5_wanting 35 = .ok (.pop, 1) := by decide +kernel
theorem dX5_wanting_36 : decode cX5_wanting 36 = .ok (.aload_n 0, 1) := by decide +kernel
theorem dX5_wanting_37 : decode cX5_wanting 37 = .ok (.getfield 38, 3) := by decide +kernel
theorem dX5_wanting_40 : decode cX5_wanting 40 = .ok (.bipush 16, 2) := by decide +kernel
theorem dX5_wanting_42 : decode cX5_wanting 42 = .ok (.iload_n 2, 1) := by decide +kernel
theorem dX5_wanting_43 : decode cX5_wanting 43 = .ok (.imul, 1) := by decide +kernel
theorem dX5_wanting_44 : decode cX5_wanting 44 = .ok (.iload_n 3, 1) := by decide +kernel
theorem dX5_wanting_45 : decode cX5_wanting 45 = .ok (.iadd, 1) := by decide +kernel
theorem dX5_wanting_46 : decode cX5_wanting 46 = .ok (.iaload, 1) := by decide +kernel
theorem dX5_wanting_47 : decode cX5_wanting 47 = .ok (.ifCond .lt 7, 3) := by decide +kernel
theorem dX5_wanting_50 : decode cX5_wanting 50 = .ok (.iconst 1, 1) := by decide +kernel
theorem dX5_wanting_51 : decode cX5_wanting 51 = .ok (.goto 4, 3) := by decide +kernel
theorem dX5_wanting_54 : decode cX5_wanting 54 = .ok (.iconst 0, 1) := by decide +kernel
theorem dX5_wanting_55 : decode cX5_wanting 55 = .ok (.ireturn, 1) := by decide +kernel
set_option maxHeartbeats 4000000 in
set_option maxRecDepth 100000 in
theorem c_X5_wanting (l : Launch) (D : va_G) (cI cC cO : ClassId) (a : Nat → Nat) (M : Mm) (x1 x2 x3 : Int32) (res : Int32 × Mm) (sz : Nat) (h : F_X5_wanting M x1 x2 x3 = some res) : Met l yX5_wanting (Cond.code yX5_wanting cX5_wanting 4 (Option.some Jvm.ClassFile.FieldType.int) :: lw_g) ({ frames := 5, cells := 0, slots := 0, locals := 114 } : Room) (va_Pc [.ref (a 0), .int x1, .int x2, .int x3] (pS D cI cC cO sz (wX5 a cI cC cO M))) (QI D cI cC cO (va_A (wX5 a cI cC cO M) sz) (wX5 a cI cC cO res.2) res.1) 0 0 (va_A (wX5 a cI cC cO M) sz) := by
  refine Met.ofW (cc := cX5_wanting) (maxL := 4) (ret := (Option.some Jvm.ClassFile.FieldType.int)) (by decide) rfl ?_
  intro p e s m args below meth c s₁ B hml hv
  obtain ⟨rfl, rfl, hP, hK, hD0, hN⟩ := hv
  have hx := B.exec
  have hb := B.bytes
  have hr := B.returns
  have ht : ∀ w ∈ lw_g, w.before ([.ref (a 0), .int x1, .int x2, .int x3] : List Value).toArray s = true := fun w hw => atoms_spec (ws := Cond.code yX5_wanting cX5_wanting 4 (Option.some Jvm.ClassFile.FieldType.int) :: lw_g) B.pre w (List.mem_cons_of_mem _ hw)
  have hown : s.vm.findClass RX5 = some m.cls := findClass_of_methodNamed B.named
  have hlocks := B.notSynchronized
  have hD := hD0.self (sz := s.heap.size)
  generalize hAe : va_A (wX5 a cI cC cO M) s.heap.size = A at hD ⊢
  have hA : ∀ q : Nat, s.heap.size ≤ q → A q := fun q hq => by rw [← hAe]; exact Or.inr hq
  have hS : va_S A s.heap s.heap [] := va_S.rf
  have hl := lv_entry ([.ref (a 0), .int x1, .int x2, .int x3]) (n := 4) (Nat.le_of_ble_eq_true rfl)
  rw [lg_entry_eq]
  generalize (lg_sl ([.ref (a 0), .int x1, .int x2, .int x3]) ++ List.replicate (4 - (lg_sl ([.ref (a 0), .int x1, .int x2, .int x3])).length) Slot.unset).toArray = ls at hl ⊢
  have hl : lv_has ls 4 [(0, .ref (a 0)), (1, .int x1), (2, .int x2), (3, .int x3)] := hl
  unfold F_X5_wanting at h
  refine lv_iload_n hx hb dX5_wanting_0 rfl (lv_at hl 1 rfl) ?_
  refine lv_iconst (v := (0 : Int32)) hx hb dX5_wanting_1 (by decide) ?_
  refine lv_bipush (v := (15 : Int32)) hx hb dX5_wanting_2 (by decide) ?_
  obtain ⟨u1, e2, h⟩ := b1_ok h
  refine cl_Si (ws' := (wX5 a cI cC cO M)) ⟨hx, hb, hml, hown, ht⟩ (c_X5_in l D cI cC cO x1 (0 : Int32) (15 : Int32) _ _ e2) (cwst 3 ht wd_612 wd_6 wd_610 wd_611 (by decide +kernel) rfl rfl ⟨Nat.le_of_ble_eq_true rfl, Nat.le_of_ble_eq_true rfl⟩) hK hP hD hS hA hN [] [0, 1, 2, 3, 4, 5, 6, 7, 8, 9, 10, 11, 12] [0, 1, 2, 3, 4, 5, 6, 7, 8, 9, 10, 11, 12] (by decide) rfl rfl (by decide) (by decide) rfl (by decide) rfl hl.1 rfl (Nat.le_of_ble_eq_true rfl) dX5_wanting_4 ⟨Nat.le_of_ble_eq_true rfl, Nat.le_of_ble_eq_true rfl⟩ (fun H locs hP hD hS => ?_)
  refine lv_if_eq (tgt := 27) hx hb dX5_wanting_7 (by decide) (fun c3 => ?_) (fun c3 => ?_)
  · replace h := fp c3 h
    refine lv_ldc hx hb hown (ht _ wd_613) dX5_wanting_27 ?_
    cases h
    exact rt_i hx hb hr hlocks hS hP hK hD dX5_wanting_29
  · replace h := fn c3 h
    refine lv_aload_n hx hb dX5_wanting_10 rfl (lv_at hl 0 rfl) ?_
    refine lv_iload_n hx hb dX5_wanting_11 rfl (lv_at hl 2 rfl) ?_
    obtain ⟨u4, e5, h⟩ := b1_ok h
    refine cl_Vi (ws' := (wX5 a cI cC cO M)) ⟨hx, hb, hml, hown, ht⟩ (c_X5_isPlace l D cI cC cO a M x2 _ _ e5) (cwv 1 ht wd_634 wd_6 wd_631 wd_633 ws_23 (by decide +kernel) rfl rfl ⟨Nat.le_of_ble_eq_true rfl, Nat.le_of_ble_eq_true rfl⟩) 5 0 rfl rfl rfl hK hP hD hS hA hN [0, 1, 2, 3, 4, 5, 6, 7, 8, 9, 10, 11, 12] [] [0, 1, 2, 3, 4, 5, 6, 7, 8, 9, 10, 11, 12] (by decide) rfl rfl (by decide) (by decide) rfl (by decide) rfl hl.1 rfl (Nat.le_of_ble_eq_true rfl) dX5_wanting_12 ⟨Nat.le_of_ble_eq_true rfl, Nat.le_of_ble_eq_true rfl⟩ (fun H locs hP hD hS => ?_)
    refine lv_if_eq (tgt := 27) hx hb dX5_wanting_15 (by decide) (fun c6 => ?_) (fun c6 => ?_)
    · replace h := fp c6 h
      refine lv_ldc hx hb hown (ht _ wd_613) dX5_wanting_27 ?_
      cases h
      exact rt_i hx hb hr hlocks hS hP hK hD dX5_wanting_29
    · replace h := fn c6 h
      refine lv_iload_n hx hb dX5_wanting_18 rfl (lv_at hl 3 rfl) ?_
      refine lv_iconst (v := (0 : Int32)) hx hb dX5_wanting_19 (by decide) ?_
      refine lv_iload_n hx hb dX5_wanting_20 rfl (lv_at hl 1 rfl) ?_
      obtain ⟨u7, e8, h⟩ := b1_ok h
      refine cl_Si (ws' := (wX5 a cI cC cO M)) ⟨hx, hb, hml, hown, ht⟩ (c_X5_in l D cI cC cO x3 (0 : Int32) x1 _ _ e8) (cwst 3 ht wd_612 wd_6 wd_610 wd_611 (by decide +kernel) rfl rfl ⟨Nat.le_of_ble_eq_true rfl, Nat.le_of_ble_eq_true rfl⟩) hK hP hD hS hA hN [] [0, 1, 2, 3, 4, 5, 6, 7, 8, 9, 10, 11, 12] [0, 1, 2, 3, 4, 5, 6, 7, 8, 9, 10, 11, 12] (by decide) rfl rfl (by decide) (by decide) rfl (by decide) rfl hl.1 rfl (Nat.le_of_ble_eq_true rfl) dX5_wanting_21 ⟨Nat.le_of_ble_eq_true rfl, Nat.le_of_ble_eq_true rfl⟩ (fun H locs hP hD hS => ?_)
      refine lv_if_ne (tgt := 30) hx hb dX5_wanting_24 (by decide) (fun c9 => ?_) (fun c9 => ?_)
      · replace h := fn c9 h
        refine lv_aload_n hx hb dX5_wanting_30 rfl (lv_at hl 0 rfl) ?_
        refine lv_iload_n hx hb dX5_wanting_31 rfl (lv_at hl 1 rfl) ?_
        obtain ⟨u10, M11, e12, h⟩ := b2_ok h
        refine cl_Vi (ws' := (wX5 a cI cC cO M11)) ⟨hx, hb, hml, hown, ht⟩ (c_X5_comes l D cI cC cO a M x1 _ _ e12) (cwv 1 ht wd_699 wd_6 wd_696 wd_698 ws_31 (by decide +kernel) rfl rfl ⟨Nat.le_of_ble_eq_true rfl, Nat.le_of_ble_eq_true rfl⟩) 5 0 rfl rfl rfl hK hP hD hS hA hN [0, 1, 2, 3, 4, 5, 6, 7, 8, 9, 10, 11, 12] [] [0, 1, 2, 3, 4, 5, 6, 7, 8, 9, 10, 11, 12] (by decide) rfl rfl (by decide) (by decide) rfl (by decide) rfl hl.1 rfl (Nat.le_of_ble_eq_true rfl) dX5_wanting_32 ⟨Nat.le_of_ble_eq_true rfl, Nat.le_of_ble_eq_true rfl⟩ (fun H locs hP hD hS => ?_)
        refine lv_pop hx hb dX5_wanting_35 rfl ?_
        refine lv_aload_n hx hb dX5_wanting_36 rfl (lv_at hl 0 rfl) ?_
        refine va_get (D := D) (ci := 5) (v := .ref (a 10)) (C := RX5) (T := TX5) (N := 23) hx hb ht i_X5 hown hK hP 0 rfl rfl 14 (by decide) (ht _ wd_550) (fun _ h9 => h9) rfl dX5_wanting_37 ?_
        refine lv_bipush (v := (16 : Int32)) hx hb dX5_wanting_40 (by decide) ?_
        refine lv_iload_n hx hb dX5_wanting_42 rfl (lv_at hl 2 rfl) ?_
        refine lv_imul hx hb dX5_wanting_43 ?_
        refine lv_iload_n hx hb dX5_wanting_44 rfl (lv_at hl 3 rfl) ?_
        refine lv_iadd hx hb dX5_wanting_45 ?_
        obtain ⟨i13, h⟩ := ck_ok h
        refine va_iald hx hb hK hP 10 0 rfl rfl i13 dX5_wanting_46 ?_
        refine lv_if_lt (tgt := 54) hx hb dX5_wanting_47 (by decide) (fun c14 => ?_) (fun c14 => ?_)
        · replace h := fp c14 h
          refine lv_iconst (v := (0 : Int32)) hx hb dX5_wanting_54 (by decide) ?_
          cases h
          exact rt_i hx hb hr hlocks hS hP hK hD dX5_wanting_55
        · replace h := fn c14 h
          refine lv_iconst (v := (1 : Int32)) hx hb dX5_wanting_50 (by decide) ?_
          refine lv_goto (tgt := 55) hx hb dX5_wanting_51 (by decide) ?_
          cases h
          exact rt_i hx hb hr hlocks hS hP hK hD dX5_wanting_55
      · replace h := fp c9 h
        refine lv_ldc hx hb hown (ht _ wd_613) dX5_wanting_27 ?_
        cases h
        exact rt_i hx hb hr hlocks hS hP hK hD dX5_wanting_29
theorem dX5_dearest_0 : decode cX5_dearest 0 = .ok (.iload_n 1, 1) := by decide +kernel
theorem dX5_dearest_1 : decode cX5_dearest 1 = .ok (.iconst 0, 1) := by decide +kernel
theorem dX5_dearest_2 : decode cX5_dearest 2 = .ok (.bipush 15, 2) := by decide +kernel
theorem dX5_dearest_4 : decode cX5_dearest 4 = .ok (.invokestatic 63, 3) := by decide +kernel
theorem dX5_dearest_7 : decode cX5_dearest 7 = .ok (.ifCond .eq 12, 3) := by decide +kernel
theorem dX5_dearest_10 : decode cX5_dearest 10 = .ok (.iload_n 2, 1) := by decide +kernel
theorem dX5_dearest_11 : decode cX5_dearest 11 = .ok (.iconst 0, 1) := by decide +kernel
theorem dX5_dearest_12 : decode cX5_dearest 12 = .ok (.iconst 1, 1) := by decide +kernel
theorem dX5_dearest_13 : decode cX5_dearest 13 = .ok (.invokestatic 63, 3) := by decide +kernel
theorem dX5_dearest_16 : decode cX5_dearest 16 = .ok (.ifCond .ne 6, 3) := by decide +kernel
theorem dX5_dearest_19 : decode cX5_dearest 19 = .ok (.ldc 67, 2) := by decide +kernel
theorem dX5_dearest_21 : decode cX5_dearest 21 = .ok (.ireturn, 1) := by decide +kernel
theorem dX5_dearest_22 : decode cX5_dearest 22 = .ok (.ldc 104, 2) := by decide +kernel
theorem dX5_dearest_24 : decode cX5_dearest 24 = .ok (.istore_n 3, 1) := by decide +kernel
theorem dX5_dearest_25 : decode cX5_dearest 25 = .ok (.iconst 0, 1) := by decide +kernel
theorem dX5_dearest_26 : decode cX5_dearest 26 = .ok (.istore 4, 2) := by decide +kernel
theorem dX5_dearest_28 : decode cX5_dearest 28 = .ok (.iconst 0, 1) := by decide +kernel
theorem dX5_dearest_29 : decode cX5_dearest 29 = .ok (.istore 5, 2) := by decide +kernel
theorem dX5_dearest_31 : decode cX5_dearest 31 = .ok (.iload 5, 2) := by decide +kernel
theorem dX5_dearest_33 : decode cX5_dearest 33 = .ok (.aload_n 0, 1) := by decide +kernel
theorem dX5_dearest_34 : decode cX5_dearest 34 = .ok (.getfield 7, 3) := by decide +kernel
theorem dX5_dearest_37 : decode cX5_dearest 37 = .ok (.iconst 1, 1) := by decide +kernel
theorem dX5_dearest_38 : decode cX5_dearest 38 = .ok (.iaload, 1) := by decide +kernel
theorem dX5_dearest_39 : decode cX5_dearest 39 = .ok (.if_icmp .ge 66, 3) := by decide +kernel
theorem dX5_dearest_42 : decode cX5_dearest 42 = .ok (.aload_n 0, 1) := by decide +kernel
theorem dX5_dearest_43 : decode cX5_dearest 43 = .ok (.iload 5, 2) := by decide +kernel
theorem dX5_dearest_45 : decode cX5_dearest 45 = .ok (.putfield 50, 3) := by decide +kernel
theorem dX5_dearest_48 : decode cX5_dearest 48 = .ok (.aload_n 0, 1) := by decide +kernel
theorem dX5_dearest_49 : decode cX5_dearest 49 = .ok (.iload_n 1, 1) := by decide +kernel
theorem dX5_dearest_50 : decode cX5_dearest 50 = .ok (.invokevirtual 143, 3) := by decide +kernel
theorem dX5_dearest_53 : decode cX5_dearest 53 = .ok (.istore 6, 2) := by decide +kernel
theorem dX5_dearest_55 : decode cX5_dearest 55 = .ok (.iload_n 3, 1) := by decide +kernel
theorem dX5_dearest_56 : decode cX5_dearest 56 = .ok (.ifCond .lt 10, 3) := by decide +kernel
theorem dX5_dearest_59 : decode cX5_dearest 59 = .ok (.iload 6, 2) := by decide +kernel
theorem dX5_dearest_61 : decode cX5_dearest 61 = .ok (.iload 4, 2) := by decide +kernel
theorem dX5_dearest_63 : decode cX5_dearest 63 = .ok (.if_icmp .ge 7, 3) := by decide +kernel
theorem dX5_dearest_66 : decode cX5_dearest 66 = .ok (.iconst 1, 1) := by decide +kernel
theorem dX5_dearest_67 : decode cX5_dearest 67 = .ok (.goto 4, 3) := by decide +kernel
theorem dX5_dearest_70 : decode cX5_dearest 70 = .ok (.iconst 0, 1) := by decide +kernel
theorem dX5_dearest_71 : decode cX5_dearest 71 = .ok (.istore 7, 2) := by decide +kernel
theorem dX5_dearest_73 : decode cX5_dearest 73 = .ok (.iload 7, 2) := by decide +kernel
theorem dX5_dearest_75 : decode cX5_dearest 75 = .ok (.ifCond .eq 8, 3) := by decide +kernel
theorem dX5_dearest_78 : decode cX5_dearest 78 = .ok (.iload 5, 2) := by decide +kernel
theorem dX5_dearest_80 : decode cX5_dearest 80 = .ok (.goto 4, 3) := by decide +kernel
theorem dX5_dearest_83 : decode cX5_dearest 83 = .ok (.iload_n 3, 1) := by decide +kernel
theorem dX5_dearest_84 : decode cX5_dearest 84 = .ok (.istore_n 3, 1) := by decide +kernel
theorem dX5_dearest_85 : decode cX5_dearest 85 = .ok (.iload 7, 2) := by decide +kernel
theorem dX5_dearest_87 : decode cX5_dearest 87 = .ok (.ifCond .eq 8, 3) := by decide +kernel
theorem dX5_dearest_90 : decode cX5_dearest 90 = .ok (.iload 6, 2) := by decide +kernel
theorem dX5_dearest_92 : decode cX5_dearest 92 = .ok (.goto 5, 3) := by decide +kernel
theorem dX5_dearest_95 : decode cX5_dearest 95 = .ok (.iload 4, 2) := by decide +kernel
theorem dX5_dearest_97 : decode cX5_dearest 97 = .ok (.istore 4, 2) := by decide +kernel
theorem dX5_dearest_99 : decode cX5_dearest 99 = .ok (.iinc 5 1, 3) := by decide +kernel
theorem dX5_dearest_102 : decode cX5_dearest 102 = .ok (.goto (-71), 3) := by decide +kernel
theorem dX5_dearest_105 : decode cX5_dearest 105 = .ok (.aload_n 0, 1) := by decide +kernel
theorem dX5_dearest_106 : decode cX5_dearest 106 = .ok (.invokevirtual 47, 3) := by decide +kernel
theorem dX5_dearest_109 : decode cX5_dearest 109 = .ok (.iload_n 2, 1) := by decide +kernel
theorem dX5_dearest_110 : decode cX5_dearest 110 = .ok (.ifCond .eq 7, 3) := by decide +kernel
theorem dX5_dearest_113 : decode cX5_dearest 113 = .ok (.iload_n 3, 1) := by decide +kernel
theorem dX5_dearest_114 : decode cX5_dearest 114 = .ok (.ifCond .ge 7, 3) := by decide +kernel
theorem dX5_dearest_117 : decode cX5_dearest 117 = .ok (.iload_n 3, 1) := by decide +kernel
theorem dX5_dearest_118 : decode cX5_dearest 118 = .ok (.goto 5, 3) := by decide +kernel
theorem dX5_dearest_121 : decode cX5_dearest 121 = .ok (.iload 4, 2) := by decide +kernel
theorem dX5_dearest_123 : decode cX5_dearest 123 = .ok (.ireturn, 1) := by decide +kernel
set_option maxHeartbeats 4000000 in
set_option maxRecDepth 100000 in
theorem c_X5_dearest (l : Launch) (D : va_G) (cI cC cO : ClassId) (a : Nat → Nat) (M : Mm) (x1 x2 : Int32) (res : Int32 × Mm) (sz : Nat) (h : F_X5_dearest M x1 x2 = some res) : Met l yX5_dearest (Cond.code yX5_dearest cX5_dearest 8 (Option.some Jvm.ClassFile.FieldType.int) :: lw_g) ({ frames := 5, cells := 0, slots := 0, locals := 114 } : Room) (va_Pc [.ref (a 0), .int x1, .int x2] (pS D cI cC cO sz (wX5 a cI cC cO M))) (QI D cI cC cO (va_A (wX5 a cI cC cO M) sz) (wX5 a cI cC cO res.2) res.1) 0 0 (va_A (wX5 a cI cC cO M) sz) := by
  refine Met.ofW (cc := cX5_dearest) (maxL := 8) (ret := (Option.some Jvm.ClassFile.FieldType.int)) (by decide) rfl ?_
  intro p e s m args below meth c s₁ B hml hv
  obtain ⟨rfl, rfl, hP, hK, hD0, hN⟩ := hv
  have hx := B.exec
  have hb := B.bytes
  have hr := B.returns
  have ht : ∀ w ∈ lw_g, w.before ([.ref (a 0), .int x1, .int x2] : List Value).toArray s = true := fun w hw => atoms_spec (ws := Cond.code yX5_dearest cX5_dearest 8 (Option.some Jvm.ClassFile.FieldType.int) :: lw_g) B.pre w (List.mem_cons_of_mem _ hw)
  have hown : s.vm.findClass RX5 = some m.cls := findClass_of_methodNamed B.named
  have hlocks := B.notSynchronized
  have hD := hD0.self (sz := s.heap.size)
  generalize hAe : va_A (wX5 a cI cC cO M) s.heap.size = A at hD ⊢
  have hA : ∀ q : Nat, s.heap.size ≤ q → A q := fun q hq => by rw [← hAe]; exact Or.inr hq
  have hS : va_S A s.heap s.heap [] := va_S.rf
  have hl := lv_entry ([.ref (a 0), .int x1, .int x2]) (n := 8) (Nat.le_of_ble_eq_true rfl)
  rw [lg_entry_eq]
  generalize (lg_sl ([.ref (a 0), .int x1, .int x2]) ++ List.replicate (8 - (lg_sl ([.ref (a 0), .int x1, .int x2])).length) Slot.unset).toArray = ls at hl ⊢
  have hl : lv_has ls 8 [(0, .ref (a 0)), (1, .int x1), (2, .int x2)] := hl
  have w31 : ∀ (n31 : Nat) (M : Mm) (y1 y2 y3 y4 y5 : Int32) (H : Heap) (locs : List Loc) (ls : Array Slot), F_X5_dearest_31 n31 M y1 y2 y3 y4 y5 = some res → va_P D classes (wX5 a cI cC cO M) H → va_D A (wX5 a cI cC cO M) → va_S A s.heap H locs → lv_has ls 8 [(0, .ref (a 0)), (1, .int y1), (2, .int y2), (3, .int y3), (4, .int y4), (5, .int y5)] → W p l e ({ frames := 5, cells := 0, slots := 0, locals := 114 } : Room) s m ([.ref (a 0), .int x1, .int x2] : List Value).toArray below meth c H locs 0 0 (MQ below (QI D cI cC cO A (wX5 a cI cC cO res.2) res.1) ([.ref (a 0), .int x1, .int x2] : List Value).toArray s 0 0 A) (F0 m 31 ls []) := by
    intro n31
    induction n31 with
    | zero => intro M y1 y2 y3 y4 y5 H locs ls h hP hD hS hl; exact absurd (show (none : Option (Int32 × Mm)) = some res from h) (by simp)
    | succ n31 ih31 =>
      have w84 : ∀ (M : Mm) (y1 y2 y4 y5 y6 y7 s0 : Int32) (H : Heap) (locs : List Loc) (ls : Array Slot), F_X5_dearest_84 (F_X5_dearest_31 n31) M y1 y2 y4 y5 y6 y7 s0 = some res → va_P D classes (wX5 a cI cC cO M) H → va_D A (wX5 a cI cC cO M) → va_S A s.heap H locs → lv_has ls 8 [(0, .ref (a 0)), (1, .int y1), (2, .int y2), (4, .int y4), (5, .int y5), (6, .int y6), (7, .int y7)] → W p l e ({ frames := 5, cells := 0, slots := 0, locals := 114 } : Room) s m ([.ref (a 0), .int x1, .int x2] : List Value).toArray below meth c H locs 0 0 (MQ below (QI D cI cC cO A (wX5 a cI cC cO res.2) res.1) ([.ref (a 0), .int x1, .int x2] : List Value).toArray s 0 0 A) (F0 m 84 ls [.int s0]) := by
        intro M y1 y2 y4 y5 y6 y7 s0 H locs ls h hP hD hS hl
        unfold F_X5_dearest_84 at h
        refine lv_istore_n (lv' := [(3, .int s0), (0, .ref (a 0)), (1, .int y1), (2, .int y2), (4, .int y4), (5, .int y5), (6, .int y6), (7, .int y7)]) hx hb dX5_dearest_84 rfl hl (by decide) rfl (fun ls hl => ?_)
        refine lv_iload hx hb dX5_dearest_85 (lv_at hl 7 rfl) ?_
        refine lv_if_eq (tgt := 95) hx hb dX5_dearest_87 (by decide) (fun c1 => ?_) (fun c1 => ?_)
        · replace h := fp c1 h
          refine lv_iload hx hb dX5_dearest_95 (lv_at hl 4 rfl) ?_
          refine lv_istore (lv' := [(4, .int y4), (3, .int s0), (0, .ref (a 0)), (1, .int y1), (2, .int y2), (5, .int y5), (6, .int y6), (7, .int y7)]) hx hb dX5_dearest_97 hl (by decide) rfl (fun ls hl => ?_)
          refine lv_iinc (v := (y5 + 1)) (lv' := [(5, .int (y5 + 1)), (4, .int y4), (3, .int s0), (0, .ref (a 0)), (1, .int y1), (2, .int y2), (6, .int y6), (7, .int y7)]) hx hb dX5_dearest_99 hl (k := 5) rfl rfl (by decide) rfl (fun ls hl => ?_)
          refine lv_goto (tgt := 31) hx hb dX5_dearest_102 (by decide) ?_
          exact ih31 M y1 y2 s0 y4 (y5 + 1) _ _ ls h hP hD hS (lv_sub hl [3, 4, 5, 2, 1, 0] rfl)
        · replace h := fn c1 h
          refine lv_iload hx hb dX5_dearest_90 (lv_at hl 6 rfl) ?_
          refine lv_goto (tgt := 97) hx hb dX5_dearest_92 (by decide) ?_
          refine lv_istore (lv' := [(4, .int y6), (3, .int s0), (0, .ref (a 0)), (1, .int y1), (2, .int y2), (5, .int y5), (6, .int y6), (7, .int y7)]) hx hb dX5_dearest_97 hl (by decide) rfl (fun ls hl => ?_)
          refine lv_iinc (v := (y5 + 1)) (lv' := [(5, .int (y5 + 1)), (4, .int y6), (3, .int s0), (0, .ref (a 0)), (1, .int y1), (2, .int y2), (6, .int y6), (7, .int y7)]) hx hb dX5_dearest_99 hl (k := 5) rfl rfl (by decide) rfl (fun ls hl => ?_)
          refine lv_goto (tgt := 31) hx hb dX5_dearest_102 (by decide) ?_
          exact ih31 M y1 y2 s0 y6 (y5 + 1) _ _ ls h hP hD hS (lv_sub hl [3, 4, 5, 2, 1, 0] rfl)
      have w71 : ∀ (M : Mm) (y1 y2 y3 y4 y5 y6 s0 : Int32) (H : Heap) (locs : List Loc) (ls : Array Slot), F_X5_dearest_71 (F_X5_dearest_31 n31) M y1 y2 y3 y4 y5 y6 s0 = some res → va_P D classes (wX5 a cI cC cO M) H → va_D A (wX5 a cI cC cO M) → va_S A s.heap H locs → lv_has ls 8 [(0, .ref (a 0)), (1, .int y1), (2, .int y2), (3, .int y3), (4, .int y4), (5, .int y5), (6, .int y6)] → W p l e ({ frames := 5, cells := 0, slots := 0, locals := 114 } : Room) s m ([.ref (a 0), .int x1, .int x2] : List Value).toArray below meth c H locs 0 0 (MQ below (QI D cI cC cO A (wX5 a cI cC cO res.2) res.1) ([.ref (a 0), .int x1, .int x2] : List Value).toArray s 0 0 A) (F0 m 71 ls [.int s0]) := by
        intro M y1 y2 y3 y4 y5 y6 s0 H locs ls h hP hD hS hl
        unfold F_X5_dearest_71 at h
        refine lv_istore (lv' := [(7, .int s0), (0, .ref (a 0)), (1, .int y1), (2, .int y2), (3, .int y3), (4, .int y4), (5, .int y5), (6, .int y6)]) hx hb dX5_dearest_71 hl (by decide) rfl (fun ls hl => ?_)
        refine lv_iload hx hb dX5_dearest_73 (lv_at hl 0 rfl) ?_
        refine lv_if_eq (tgt := 83) hx hb dX5_dearest_75 (by decide) (fun c1 => ?_) (fun c1 => ?_)
        · replace h := fp c1 h
          refine lv_iload_n hx hb dX5_dearest_83 rfl (lv_at hl 4 rfl) ?_
          exact w84 M y1 y2 y4 y5 y6 s0 y3 _ _ ls h hP hD hS (lv_sub hl [1, 2, 3, 5, 6, 7, 0] rfl)
        · replace h := fn c1 h
          refine lv_iload hx hb dX5_dearest_78 (lv_at hl 6 rfl) ?_
          refine lv_goto (tgt := 84) hx hb dX5_dearest_80 (by decide) ?_
          exact w84 M y1 y2 y4 y5 y6 s0 y5 _ _ ls h hP hD hS (lv_sub hl [1, 2, 3, 5, 6, 7, 0] rfl)
      have w66 : ∀ (M : Mm) (y1 y2 y3 y4 y5 y6 : Int32) (H : Heap) (locs : List Loc) (ls : Array Slot), F_X5_dearest_66 (F_X5_dearest_31 n31) M y1 y2 y3 y4 y5 y6 = some res → va_P D classes (wX5 a cI cC cO M) H → va_D A (wX5 a cI cC cO M) → va_S A s.heap H locs → lv_has ls 8 [(0, .ref (a 0)), (1, .int y1), (2, .int y2), (3, .int y3), (4, .int y4), (5, .int y5), (6, .int y6)] → W p l e ({ frames := 5, cells := 0, slots := 0, locals := 114 } : Room) s m ([.ref (a 0), .int x1, .int x2] : List Value).toArray below meth c H locs 0 0 (MQ below (QI D cI cC cO A (wX5 a cI cC cO res.2) res.1) ([.ref (a 0), .int x1, .int x2] : List Value).toArray s 0 0 A) (F0 m 66 ls []) := by
        intro M y1 y2 y3 y4 y5 y6 H locs ls h hP hD hS hl
        unfold F_X5_dearest_66 at h
        refine lv_iconst (v := (1 : Int32)) hx hb dX5_dearest_66 (by decide) ?_
        refine lv_goto (tgt := 71) hx hb dX5_dearest_67 (by decide) ?_
        exact w71 M y1 y2 y3 y4 y5 y6 (1 : Int32) _ _ ls h hP hD hS (lv_sub hl [0, 1, 2, 3, 4, 5, 6] rfl)
      intro M y1 y2 y3 y4 y5 H locs ls h hP hD hS hl
      have h : F_X5_dearestB_31 (F_X5_dearest_31 n31) M y1 y2 y3 y4 y5 = some res := h
      unfold F_X5_dearestB_31 at h
      refine lv_iload hx hb dX5_dearest_31 (lv_at hl 5 rfl) ?_
      refine lv_aload_n hx hb dX5_dearest_33 rfl (lv_at hl 0 rfl) ?_
      refine va_get (D := D) (ci := 5) (v := .ref (a 1)) (C := RX5) (T := TX5) (N := 23) hx hb ht i_X5 hown hK hP 0 rfl rfl 0 (by decide) (ht _ wd_536) (fun _ h9 => h9) rfl dX5_dearest_34 ?_
      refine lv_iconst (v := (1 : Int32)) hx hb dX5_dearest_37 (by decide) ?_
      obtain ⟨i1, h⟩ := ck_ok h
      refine va_iald hx hb hK hP 1 0 rfl rfl i1 dX5_dearest_38 ?_
      refine lv_icmp_ge (tgt := 105) hx hb dX5_dearest_39 (by decide) (fun c2 => ?_) (fun c2 => ?_)
      · replace h := fp c2 h
        refine lv_aload_n hx hb dX5_dearest_105 rfl (lv_at hl 0 rfl) ?_
        obtain ⟨M3, e4, h⟩ := b1_ok h
        refine cl_Vv (ws' := (wX5 a cI cC cO M3)) ⟨hx, hb, hml, hown, ht⟩ (c_X5_asIs l D cI cC cO a M _ _ e4) (cwv 0 ht wd_535 wd_6 wd_532 wd_534 ws_19 (by decide +kernel) rfl rfl ⟨Nat.le_of_ble_eq_true rfl, Nat.le_of_ble_eq_true rfl⟩) 5 0 rfl rfl rfl hK hP hD hS hA hN [0, 1, 2, 3, 4, 5, 6, 7, 8, 9, 10, 11, 12] [] [0, 1, 2, 3, 4, 5, 6, 7, 8, 9, 10, 11, 12] (by decide) rfl rfl (by decide) (by decide) rfl (by decide) rfl hl.1 rfl (Nat.le_of_ble_eq_true rfl) dX5_dearest_106 ⟨Nat.le_of_ble_eq_true rfl, Nat.le_of_ble_eq_true rfl⟩ (fun H locs hP hD hS => ?_)
        refine lv_iload_n hx hb dX5_dearest_109 rfl (lv_at hl 2 rfl) ?_
        refine lv_if_eq (tgt := 117) hx hb dX5_dearest_110 (by decide) (fun c5 => ?_) (fun c5 => ?_)
        · replace h := fp c5 h
          refine lv_iload_n hx hb dX5_dearest_117 rfl (lv_at hl 3 rfl) ?_
          refine lv_goto (tgt := 123) hx hb dX5_dearest_118 (by decide) ?_
          cases h
          exact rt_i hx hb hr hlocks hS hP hK hD dX5_dearest_123
        · replace h := fn c5 h
          refine lv_iload_n hx hb dX5_dearest_113 rfl (lv_at hl 3 rfl) ?_
          refine lv_if_ge (tgt := 121) hx hb dX5_dearest_114 (by decide) (fun c6 => ?_) (fun c6 => ?_)
          · replace h := fp c6 h
            refine lv_iload hx hb dX5_dearest_121 (lv_at hl 4 rfl) ?_
            cases h
            exact rt_i hx hb hr hlocks hS hP hK hD dX5_dearest_123
          · replace h := fn c6 h
            refine lv_iload_n hx hb dX5_dearest_117 rfl (lv_at hl 3 rfl) ?_
            refine lv_goto (tgt := 123) hx hb dX5_dearest_118 (by decide) ?_
            cases h
            exact rt_i hx hb hr hlocks hS hP hK hD dX5_dearest_123
      · replace h := fn c2 h
        refine lv_aload_n hx hb dX5_dearest_42 rfl (lv_at hl 0 rfl) ?_
        refine lv_iload hx hb dX5_dearest_43 (lv_at hl 5 rfl) ?_
        refine va_put (D := D) (ci := 5) (v := .int y5) (ty := .int) (C := RX5) (T := TX5) (N := 23) hx hb ht i_X5 tyX5 tyX5_ok nmX5 hown hK hP hD hS 0 rfl rfl 19 (by decide) (ht _ wd_555) (fun _ h9 => h9) rfl (by decide +kernel) rfl rfl (Nat.le_of_ble_eq_true rfl) dX5_dearest_45 (fun H locs hP hD hS => ?_)
        obtain ⟨M7, e8, h⟩ := sv_ok h
        have hP : va_P D classes (wX5 a cI cC cO M7) H := by rw [← e8]; exact hP
        have hD : va_D A (wX5 a cI cC cO M7) := by rw [← e8]; exact hD
        refine lv_aload_n hx hb dX5_dearest_48 rfl (lv_at hl 0 rfl) ?_
        refine lv_iload_n hx hb dX5_dearest_49 rfl (lv_at hl 1 rfl) ?_
        obtain ⟨u9, M10, e11, h⟩ := b2_ok h
        refine cl_Vi (ws' := (wX5 a cI cC cO M10)) ⟨hx, hb, hml, hown, ht⟩ (c_X5_comes l D cI cC cO a M7 y1 _ _ e11) (cwv 1 ht wd_699 wd_6 wd_696 wd_698 ws_31 (by decide +kernel) rfl rfl ⟨Nat.le_of_ble_eq_true rfl, Nat.le_of_ble_eq_true rfl⟩) 5 0 rfl rfl rfl hK hP hD hS hA hN [0, 1, 2, 3, 4, 5, 6, 7, 8, 9, 10, 11, 12] [] [0, 1, 2, 3, 4, 5, 6, 7, 8, 9, 10, 11, 12] (by decide) rfl rfl (by decide) (by decide) rfl (by decide) rfl hl.1 rfl (Nat.le_of_ble_eq_true rfl) dX5_dearest_50 ⟨Nat.le_of_ble_eq_true rfl, Nat.le_of_ble_eq_true rfl⟩ (fun H locs hP hD hS => ?_)
        refine lv_istore (lv' := [(6, .int u9), (0, .ref (a 0)), (1, .int y1), (2, .int y2), (3, .int y3), (4, .int y4), (5, .int y5)]) hx hb dX5_dearest_53 hl (by decide) rfl (fun ls hl => ?_)
        refine lv_iload_n hx hb dX5_dearest_55 rfl (lv_at hl 4 rfl) ?_
        refine lv_if_lt (tgt := 66) hx hb dX5_dearest_56 (by decide) (fun c12 => ?_) (fun c12 => ?_)
        · replace h := fp c12 h
          exact w66 M10 y1 y2 y3 y4 y5 u9 _ _ ls h hP hD hS (lv_sub hl [1, 2, 3, 4, 5, 6, 0] rfl)
        · replace h := fn c12 h
          refine lv_iload hx hb dX5_dearest_59 (lv_at hl 0 rfl) ?_
          refine lv_iload hx hb dX5_dearest_61 (lv_at hl 5 rfl) ?_
          refine lv_icmp_ge (tgt := 70) hx hb dX5_dearest_63 (by decide) (fun c13 => ?_) (fun c13 => ?_)
          · replace h := fp c13 h
            refine lv_iconst (v := (0 : Int32)) hx hb dX5_dearest_70 (by decide) ?_
            exact w71 M10 y1 y2 y3 y4 y5 u9 (0 : Int32) _ _ ls h hP hD hS (lv_sub hl [1, 2, 3, 4, 5, 6, 0] rfl)
          · replace h := fn c13 h
            exact w66 M10 y1 y2 y3 y4 y5 u9 _ _ ls h hP hD hS (lv_sub hl [1, 2, 3, 4, 5, 6, 0] rfl)
  unfold F_X5_dearest at h
  refine lv_iload_n hx hb dX5_dearest_0 rfl (lv_at hl 1 rfl) ?_
  refine lv_iconst (v := (0 : Int32)) hx hb dX5_dearest_1 (by decide) ?_
  refine lv_bipush (v := (15 : Int32)) hx hb dX5_dearest_2 (by decide) ?_
  obtain ⟨u1, e2, h⟩ := b1_ok h
  refine cl_Si (ws' := (wX5 a cI cC cO M)) ⟨hx, hb, hml, hown, ht⟩ (c_X5_in l D cI cC cO x1 (0 : Int32) (15 : Int32) _ _ e2) (cwst 3 ht wd_612 wd_6 wd_610 wd_611 (by decide +kernel) rfl rfl ⟨Nat.le_of_ble_eq_true rfl, Nat.le_of_ble_eq_true rfl⟩) hK hP hD hS hA hN [] [0, 1, 2, 3, 4, 5, 6, 7, 8, 9, 10, 11, 12] [0, 1, 2, 3, 4, 5, 6, 7, 8, 9, 10, 11, 12] (by decide) rfl rfl (by decide) (by decide) rfl (by decide) rfl hl.1 rfl (Nat.le_of_ble_eq_true rfl) dX5_dearest_4 ⟨Nat.le_of_ble_eq_true rfl, Nat.le_of_ble_eq_true rfl⟩ (fun H locs hP hD hS => ?_)
  refine lv_if_eq (tgt := 19) hx hb dX5_dearest_7 (by decide) (fun c3 => ?_) (fun c3 => ?_)
  · replace h := fp c3 h
    refine lv_ldc hx hb hown (ht _ wd_613) dX5_dearest_19 ?_
    cases h
    exact rt_i hx hb hr hlocks hS hP hK hD dX5_dearest_21
  · replace h := fn c3 h
    refine lv_iload_n hx hb dX5_dearest_10 rfl (lv_at hl 2 rfl) ?_
    refine lv_iconst (v := (0 : Int32)) hx hb dX5_dearest_11 (by decide) ?_
    refine lv_iconst (v := (1 : Int32)) hx hb dX5_dearest_12 (by decide) ?_
    obtain ⟨u4, e5, h⟩ := b1_ok h
    refine cl_Si (ws' := (wX5 a cI cC cO M)) ⟨hx, hb, hml, hown, ht⟩ (c_X5_in l D cI cC cO x2 (0 : Int32) (1 : Int32) _ _ e5) (cwst 3 ht wd_612 wd_6 wd_610 wd_611 (by decide +kernel) rfl rfl ⟨Nat.le_of_ble_eq_true rfl, Nat.le_of_ble_eq_true rfl⟩) hK hP hD hS hA hN [] [0, 1, 2, 3, 4, 5, 6, 7, 8, 9, 10, 11, 12] [0, 1, 2, 3, 4, 5, 6, 7, 8, 9, 10, 11, 12] (by decide) rfl rfl (by decide) (by decide) rfl (by decide) rfl hl.1 rfl (Nat.le_of_ble_eq_true rfl) dX5_dearest_13 ⟨Nat.le_of_ble_eq_true rfl, Nat.le_of_ble_eq_true rfl⟩ (fun H locs hP hD hS => ?_)
    refine lv_if_ne (tgt := 22) hx hb dX5_dearest_16 (by decide) (fun c6 => ?_) (fun c6 => ?_)
    · replace h := fn c6 h
      refine lv_ldc hx hb hown (ht _ wd_691) dX5_dearest_22 ?_
      refine lv_istore_n (lv' := [(3, .int (-1000004 : Int32)), (0, .ref (a 0)), (1, .int x1), (2, .int x2)]) hx hb dX5_dearest_24 rfl hl (by decide) rfl (fun ls hl => ?_)
      refine lv_iconst (v := (0 : Int32)) hx hb dX5_dearest_25 (by decide) ?_
      refine lv_istore (lv' := [(4, .int (0 : Int32)), (3, .int (-1000004 : Int32)), (0, .ref (a 0)), (1, .int x1), (2, .int x2)]) hx hb dX5_dearest_26 hl (by decide) rfl (fun ls hl => ?_)
      refine lv_iconst (v := (0 : Int32)) hx hb dX5_dearest_28 (by decide) ?_
      refine lv_istore (lv' := [(5, .int (0 : Int32)), (4, .int (0 : Int32)), (3, .int (-1000004 : Int32)), (0, .ref (a 0)), (1, .int x1), (2, .int x2)]) hx hb dX5_dearest_29 hl (by decide) rfl (fun ls hl => ?_)
      exact w31 FU M x1 x2 (-1000004 : Int32) (0 : Int32) (0 : Int32) _ _ ls h hP hD hS (lv_sub hl [3, 4, 5, 2, 1, 0] rfl)
    · replace h := fp c6 h
      refine lv_ldc hx hb hown (ht _ wd_613) dX5_dearest_19 ?_
      cases h
      exact rt_i hx hb hr hlocks hS hP hK hD dX5_dearest_21
end
section
theorem dX5_helpful_0 : decode cX5_helpful 0 = .ok (.iload_n 1, 1) := by decide +kernel
theorem dX5_helpful_1 : decode cX5_helpful 1 = .ok (.iconst 0, 1) := by decide +kernel
theorem dX5_helpful_2 : decode cX5_helpful 2 = .ok (.bipush 15, 2) := by decide +kernel
theorem dX5_helpful_4 : decode cX5_helpful 4 = .ok (.invokestatic 63, 3) := by decide +kernel
theorem dX5_helpful_7 : decode cX5_helpful 7 = .ok (.ifCond .eq 12, 3) := by decide +kernel
theorem dX5_helpful_10 : decode cX5_helpful 10 = .ok (.iload_n 2, 1) := by decide +kernel
theorem dX5_helpful_11 : decode cX5_helpful 11 = .ok (.iconst 0, 1) := by decide +kernel
theorem dX5_helpful_12 : decode cX5_helpful 12 = .ok (.iconst 1, 1) := by decide +kernel
theorem dX5_helpful_13 : decode cX5_helpful 13 = .ok (.invokestatic 63, 3) := by decide +kernel
theorem dX5_helpful_16 : decode cX5_helpful 16 = .ok (.ifCond .ne 6, 3) := by decide +kernel
theorem dX5_helpful_19 : decode cX5_helpful 19 = .ok (.ldc 67, 2) := by decide +kernel
theorem dX5_helpful_21 : decode cX5_helpful 21 = .ok (.ireturn, 1) := by decide +kernel
theorem dX5_helpful_22 : decode cX5_helpful 22 = .ok (.aload_n 0, 1) := by decide +kernel
theorem dX5_helpful_23 : decode cX5_helpful 23 = .ok (.iload_n 1, 1) := by decide +kernel
theorem dX5_helpful_24 : decode cX5_helpful 24 = .ok (.invokevirtual 143, 3) := by decide +kernel
theorem dX5_helpful_27 : decode cX5_helpful 27 = .ok (.istore_n 3, 1) := by decide +kernel
theorem dX5_helpful_28 : decode cX5_helpful 28 = .ok (.ldc 104, 2) := by decide +kernel
theorem dX5_helpful_30 : decode cX5_helpful 30 = .ok (.istore 4, 2) := by decide +kernel
theorem dX5_helpful_32 : decode cX5_helpful 32 = .ok (.iconst 0, 1) := by decide +kernel
theorem dX5_helpful_33 : decode cX5_helpful 33 = .ok (.istore 5, 2) := by decide +kernel
theorem dX5_helpful_35 : decode cX5_helpful 35 = .ok (.iconst 0, 1) := by decide +kernel
theorem dX5_helpful_36 : decode cX5_helpful 36 = .ok (.istore 6, 2) := by decide +kernel
theorem dX5_helpful_38 : decode cX5_helpful 38 = .ok (.iload 6, 2) := by decide +kernel
theorem dX5_helpful_40 : decode cX5_helpful 40 = .ok (.aload_n 0, 1) := by decide +kernel
theorem dX5_helpful_41 : decode cX5_helpful 41 = .ok (.getfield 7, 3) := by decide +kernel
theorem dX5_helpful_44 : decode cX5_helpful 44 = .ok (.iconst 1, 1) := by decide +kernel
theorem dX5_helpful_45 : decode cX5_helpful 45 = .ok (.iaload, 1) := by decide +kernel
theorem dX5_helpful_46 : decode cX5_helpful 46 = .ok (.if_icmp .ge 56, 3) := by decide +kernel
theorem dX5_helpful_49 : decode cX5_helpful 49 = .ok (.aload_n 0, 1) := by decide +kernel
theorem dX5_helpful_50 : decode cX5_helpful 50 = .ok (.iload 6, 2) := by decide +kernel
theorem dX5_helpful_52 : decode cX5_helpful 52 = .ok (.putfield 54, 3) := by decide +kernel
theorem dX5_helpful_55 : decode cX5_helpful 55 = .ok (.aload_n 0, 1) := by decide +kernel
theorem dX5_helpful_56 : decode cX5_helpful 56 = .ok (.iload_n 1, 1) := by decide +kernel
theorem dX5_helpful_57 : decode cX5_helpful 57 = .ok (.invokevirtual 143, 3) := by decide +kernel
theorem dX5_helpful_60 : decode cX5_helpful 60 = .ok (.iload_n 3, 1) := by decide +kernel
theorem dX5_helpful_61 : decode cX5_helpful 61 = .ok (.isub, 1) := by decide +kernel
theorem dX5_helpful_62 : decode cX5_helpful 62 = .ok (.istore 7, 2) := by decide +kernel
theorem dX5_helpful_64 : decode cX5_helpful 64 = .ok (.iload 7, 2) := by decide +kernel
theorem dX5_helpful_66 : decode cX5_helpful 66 = .ok (.iload 5, 2) := by decide +kernel
theorem dX5_helpful_68 : decode cX5_helpful 68 = .ok (.if_icmp .le 8, 3) := by decide +kernel
theorem dX5_helpful_71 : decode cX5_helpful 71 = .ok (.iload 6, 2) := by decide +kernel
theorem dX5_helpful_73 : decode cX5_helpful 73 = .ok (.goto 5, 3) := by decide +kernel
theorem dX5_helpful_76 : decode cX5_helpful 76 = .ok (.iload 4, 2) := by decide +kernel
theorem dX5_helpful_78 : decode cX5_helpful 78 = .ok (.istore 4, 2) := by decide +kernel
theorem dX5_helpful_80 : decode cX5_helpful 80 = .ok (.iload 7, 2) := by decide +kernel
theorem dX5_helpful_82 : decode cX5_helpful 82 = .ok (.iload 5, 2) := by decide +kernel
theorem dX5_helpful_84 : decode cX5_helpful 84 = .ok (.if_icmp .le 8, 3) := by decide +kernel
theorem dX5_helpful_87 : decode cX5_helpful 87 = .ok (.iload 7, 2) := by decide +kernel
theorem dX5_helpful_89 : decode cX5_helpful 89 = .ok (.goto 5, 3) := by decide +kernel
theorem dX5_helpful_92 : decode cX5_helpful 92 = .ok (.iload 5, 2) := by decide +kernel
theorem dX5_helpful_94 : decode cX5_helpful 94 = .ok (.istore 5, 2) := by decide +kernel
theorem dX5_helpful_96 : decode cX5_helpful 96 = .ok (.iinc 6 1, 3) := by decide +kernel
theorem dX5_helpful_99 : decode cX5_helpful 99 = .ok (.goto (-61), 3) := by decide +kernel
theorem dX5_helpful_102 : decode cX5_helpful 102 = .ok (.aload_n 0, 1) := by decide +kernel
theorem dX5_helpful_103 : decode cX5_helpful 103 = .ok (.invokevirtual 47, 3) := by decide +kernel
theorem dX5_helpful_106 : decode cX5_helpful 106 = .ok (.iload_n 2, 1) := by decide +kernel
theorem dX5_helpful_107 : decode cX5_helpful 107 = .ok (.ifCond .eq 8, 3) := by decide +kernel
theorem dX5_helpful_110 : decode cX5_helpful 110 = .ok (.iload 4, 2) := by decide +kernel
theorem dX5_helpful_112 : decode cX5_helpful 112 = .ok (.ifCond .ge 8, 3) := by decide +kernel
theorem dX5_helpful_115 : decode cX5_helpful 115 = .ok (.iload 4, 2) := by decide +kernel
theorem dX5_helpful_117 : decode cX5_helpful 117 = .ok (.goto 5, 3) := by decide +kernel
theorem dX5_helpful_120 : decode cX5_helpful 120 = .ok (.iload 5, 2) := by decide +kernel
theorem dX5_helpful_122 : decode cX5_helpful 122 = .ok (.ireturn, 1) := by decide +kernel
set_option maxHeartbeats 4000000 in
set_option maxRecDepth 100000 in
theorem c_X5_helpful (l : Launch) (D : va_G) (cI cC cO : ClassId) (a : Nat → Nat) (M : Mm) (x1 x2 : Int32) (res : Int32 × Mm) (sz : Nat) (h : F_X5_helpful M x1 x2 = some res) : Met l yX5_helpful (Cond.code yX5_helpful cX5_helpful 8 (Option.some Jvm.ClassFile.FieldType.int) :: lw_g) ({ frames := 5, cells := 0, slots := 0, locals := 114 } : Room) (va_Pc [.ref (a 0), .int x1, .int x2] (pS D cI cC cO sz (wX5 a cI cC cO M))) (QI D cI cC cO (va_A (wX5 a cI cC cO M) sz) (wX5 a cI cC cO res.2) res.1) 0 0 (va_A (wX5 a cI cC cO M) sz) := by
  refine Met.ofW (cc := cX5_helpful) (maxL := 8) (ret := (Option.some Jvm.ClassFile.FieldType.int)) (by decide) rfl ?_
  intro p e s m args below meth c s₁ B hml hv
  obtain ⟨rfl, rfl, hP, hK, hD0, hN⟩ := hv
  have hx := B.exec
  have hb := B.bytes
  have hr := B.returns
  have ht : ∀ w ∈ lw_g, w.before ([.ref (a 0), .int x1, .int x2] : List Value).toArray s = true := fun w hw => atoms_spec (ws := Cond.code yX5_helpful cX5_helpful 8 (Option.some Jvm.ClassFile.FieldType.int) :: lw_g) B.pre w (List.mem_cons_of_mem _ hw)
  have hown : s.vm.findClass RX5 = some m.cls := findClass_of_methodNamed B.named
  have hlocks := B.notSynchronized
  have hD := hD0.self (sz := s.heap.size)
  generalize hAe : va_A (wX5 a cI cC cO M) s.heap.size = A at hD ⊢
  have hA : ∀ q : Nat, s.heap.size ≤ q → A q := fun q hq => by rw [← hAe]; exact Or.inr hq
  have hS : va_S A s.heap s.heap [] := va_S.rf
  have hl := lv_entry ([.ref (a 0), .int x1, .int x2]) (n := 8) (Nat.le_of_ble_eq_true rfl)
  rw [lg_entry_eq]
  generalize (lg_sl ([.ref (a 0), .int x1, .int x2]) ++ List.replicate (8 - (lg_sl ([.ref (a 0), .int x1, .int x2])).length) Slot.unset).toArray = ls at hl ⊢
  have hl : lv_has ls 8 [(0, .ref (a 0)), (1, .int x1), (2, .int x2)] := hl
  have w38 : ∀ (n38 : Nat) (M : Mm) (y1 y2 y3 y4 y5 y6 : Int32) (H : Heap) (locs : List Loc) (ls : Array Slot), F_X5_helpful_38 n38 M y1 y2 y3 y4 y5 y6 = some res → va_P D classes (wX5 a cI cC cO M) H → va_D A (wX5 a cI cC cO M) → va_S A s.heap H locs → lv_has ls 8 [(0, .ref (a 0)), (1, .int y1), (2, .int y2), (3, .int y3), (4, .int y4), (5, .int y5), (6, .int y6)] → W p l e ({ frames := 5, cells := 0, slots := 0, locals := 114 } : Room) s m ([.ref (a 0), .int x1, .int x2] : List Value).toArray below meth c H locs 0 0 (MQ below (QI D cI cC cO A (wX5 a cI cC cO res.2) res.1) ([.ref (a 0), .int x1, .int x2] : List Value).toArray s 0 0 A) (F0 m 38 ls []) := by
    intro n38
    induction n38 with
    | zero => intro M y1 y2 y3 y4 y5 y6 H locs ls h hP hD hS hl; exact absurd (show (none : Option (Int32 × Mm)) = some res from h) (by simp)
    | succ n38 ih38 =>
      have w78 : ∀ (M : Mm) (y1 y2 y3 y5 y6 y7 s0 : Int32) (H : Heap) (locs : List Loc) (ls : Array Slot), F_X5_helpful_78 (F_X5_helpful_38 n38) M y1 y2 y3 y5 y6 y7 s0 = some res → va_P D classes (wX5 a cI cC cO M) H → va_D A (wX5 a cI cC cO M) → va_S A s.heap H locs → lv_has ls 8 [(0, .ref (a 0)), (1, .int y1), (2, .int y2), (3, .int y3), (5, .int y5), (6, .int y6), (7, .int y7)] → W p l e ({ frames := 5, cells := 0, slots := 0, locals := 114 } : Room) s m ([.ref (a 0), .int x1, .int x2] : List Value).toArray below meth c H locs 0 0 (MQ below (QI D cI cC cO A (wX5 a cI cC cO res.2) res.1) ([.ref (a 0), .int x1, .int x2] : List Value).toArray s 0 0 A) (F0 m 78 ls [.int s0]) := by
        intro M y1 y2 y3 y5 y6 y7 s0 H locs ls h hP hD hS hl
        unfold F_X5_helpful_78 at h
        refine lv_istore (lv' := [(4, .int s0), (0, .ref (a 0)), (1, .int y1), (2, .int y2), (3, .int y3), (5, .int y5), (6, .int y6), (7, .int y7)]) hx hb dX5_helpful_78 hl (by decide) rfl (fun ls hl => ?_)
        refine lv_iload hx hb dX5_helpful_80 (lv_at hl 7 rfl) ?_
        refine lv_iload hx hb dX5_helpful_82 (lv_at hl 5 rfl) ?_
        refine lv_icmp_le (tgt := 92) hx hb dX5_helpful_84 (by decide) (fun c1 => ?_) (fun c1 => ?_)
        · replace h := fp c1 h
          refine lv_iload hx hb dX5_helpful_92 (lv_at hl 5 rfl) ?_
          refine lv_istore (lv' := [(5, .int y5), (4, .int s0), (0, .ref (a 0)), (1, .int y1), (2, .int y2), (3, .int y3), (6, .int y6), (7, .int y7)]) hx hb dX5_helpful_94 hl (by decide) rfl (fun ls hl => ?_)
          refine lv_iinc (v := (y6 + 1)) (lv' := [(6, .int (y6 + 1)), (5, .int y5), (4, .int s0), (0, .ref (a 0)), (1, .int y1), (2, .int y2), (3, .int y3), (7, .int y7)]) hx hb dX5_helpful_96 hl (k := 6) rfl rfl (by decide) rfl (fun ls hl => ?_)
          refine lv_goto (tgt := 38) hx hb dX5_helpful_99 (by decide) ?_
          exact ih38 M y1 y2 y3 s0 y5 (y6 + 1) _ _ ls h hP hD hS (lv_sub hl [3, 4, 5, 6, 2, 1, 0] rfl)
        · replace h := fn c1 h
          refine lv_iload hx hb dX5_helpful_87 (lv_at hl 7 rfl) ?_
          refine lv_goto (tgt := 94) hx hb dX5_helpful_89 (by decide) ?_
          refine lv_istore (lv' := [(5, .int y7), (4, .int s0), (0, .ref (a 0)), (1, .int y1), (2, .int y2), (3, .int y3), (6, .int y6), (7, .int y7)]) hx hb dX5_helpful_94 hl (by decide) rfl (fun ls hl => ?_)
          refine lv_iinc (v := (y6 + 1)) (lv' := [(6, .int (y6 + 1)), (5, .int y7), (4, .int s0), (0, .ref (a 0)), (1, .int y1), (2, .int y2), (3, .int y3), (7, .int y7)]) hx hb dX5_helpful_96 hl (k := 6) rfl rfl (by decide) rfl (fun ls hl => ?_)
          refine lv_goto (tgt := 38) hx hb dX5_helpful_99 (by decide) ?_
          exact ih38 M y1 y2 y3 s0 y7 (y6 + 1) _ _ ls h hP hD hS (lv_sub hl [3, 4, 5, 6, 2, 1, 0] rfl)
      intro M y1 y2 y3 y4 y5 y6 H locs ls h hP hD hS hl
      have h : F_X5_helpfulB_38 (F_X5_helpful_38 n38) M y1 y2 y3 y4 y5 y6 = some res := h
      unfold F_X5_helpfulB_38 at h
      refine lv_iload hx hb dX5_helpful_38 (lv_at hl 6 rfl) ?_
      refine lv_aload_n hx hb dX5_helpful_40 rfl (lv_at hl 0 rfl) ?_
      refine va_get (D := D) (ci := 5) (v := .ref (a 1)) (C := RX5) (T := TX5) (N := 23) hx hb ht i_X5 hown hK hP 0 rfl rfl 0 (by decide) (ht _ wd_536) (fun _ h9 => h9) rfl dX5_helpful_41 ?_
      refine lv_iconst (v := (1 : Int32)) hx hb dX5_helpful_44 (by decide) ?_
      obtain ⟨i1, h⟩ := ck_ok h
      refine va_iald hx hb hK hP 1 0 rfl rfl i1 dX5_helpful_45 ?_
      refine lv_icmp_ge (tgt := 102) hx hb dX5_helpful_46 (by decide) (fun c2 => ?_) (fun c2 => ?_)
      · replace h := fp c2 h
        refine lv_aload_n hx hb dX5_helpful_102 rfl (lv_at hl 0 rfl) ?_
        obtain ⟨M3, e4, h⟩ := b1_ok h
        refine cl_Vv (ws' := (wX5 a cI cC cO M3)) ⟨hx, hb, hml, hown, ht⟩ (c_X5_asIs l D cI cC cO a M _ _ e4) (cwv 0 ht wd_535 wd_6 wd_532 wd_534 ws_19 (by decide +kernel) rfl rfl ⟨Nat.le_of_ble_eq_true rfl, Nat.le_of_ble_eq_true rfl⟩) 5 0 rfl rfl rfl hK hP hD hS hA hN [0, 1, 2, 3, 4, 5, 6, 7, 8, 9, 10, 11, 12] [] [0, 1, 2, 3, 4, 5, 6, 7, 8, 9, 10, 11, 12] (by decide) rfl rfl (by decide) (by decide) rfl (by decide) rfl hl.1 rfl (Nat.le_of_ble_eq_true rfl) dX5_helpful_103 ⟨Nat.le_of_ble_eq_true rfl, Nat.le_of_ble_eq_true rfl⟩ (fun H locs hP hD hS => ?_)
        refine lv_iload_n hx hb dX5_helpful_106 rfl (lv_at hl 2 rfl) ?_
        refine lv_if_eq (tgt := 115) hx hb dX5_helpful_107 (by decide) (fun c5 => ?_) (fun c5 => ?_)
        · replace h := fp c5 h
          refine lv_iload hx hb dX5_helpful_115 (lv_at hl 4 rfl) ?_
          refine lv_goto (tgt := 122) hx hb dX5_helpful_117 (by decide) ?_
          cases h
          exact rt_i hx hb hr hlocks hS hP hK hD dX5_helpful_122
        · replace h := fn c5 h
          refine lv_iload hx hb dX5_helpful_110 (lv_at hl 4 rfl) ?_
          refine lv_if_ge (tgt := 120) hx hb dX5_helpful_112 (by decide) (fun c6 => ?_) (fun c6 => ?_)
          · replace h := fp c6 h
            refine lv_iload hx hb dX5_helpful_120 (lv_at hl 5 rfl) ?_
            cases h
            exact rt_i hx hb hr hlocks hS hP hK hD dX5_helpful_122
          · replace h := fn c6 h
            refine lv_iload hx hb dX5_helpful_115 (lv_at hl 4 rfl) ?_
            refine lv_goto (tgt := 122) hx hb dX5_helpful_117 (by decide) ?_
            cases h
            exact rt_i hx hb hr hlocks hS hP hK hD dX5_helpful_122
      · replace h := fn c2 h
        refine lv_aload_n hx hb dX5_helpful_49 rfl (lv_at hl 0 rfl) ?_
        refine lv_iload hx hb dX5_helpful_50 (lv_at hl 6 rfl) ?_
        refine va_put (D := D) (ci := 5) (v := .int y6) (ty := .int) (C := RX5) (T := TX5) (N := 23) hx hb ht i_X5 tyX5 tyX5_ok nmX5 hown hK hP hD hS 0 rfl rfl 20 (by decide) (ht _ wd_556) (fun _ h9 => h9) rfl (by decide +kernel) rfl rfl (Nat.le_of_ble_eq_true rfl) dX5_helpful_52 (fun H locs hP hD hS => ?_)
        obtain ⟨M7, e8, h⟩ := sv_ok h
        have hP : va_P D classes (wX5 a cI cC cO M7) H := by rw [← e8]; exact hP
        have hD : va_D A (wX5 a cI cC cO M7) := by rw [← e8]; exact hD
        refine lv_aload_n hx hb dX5_helpful_55 rfl (lv_at hl 0 rfl) ?_
        refine lv_iload_n hx hb dX5_helpful_56 rfl (lv_at hl 1 rfl) ?_
        obtain ⟨u9, M10, e11, h⟩ := b2_ok h
        refine cl_Vi (ws' := (wX5 a cI cC cO M10)) ⟨hx, hb, hml, hown, ht⟩ (c_X5_comes l D cI cC cO a M7 y1 _ _ e11) (cwv 1 ht wd_699 wd_6 wd_696 wd_698 ws_31 (by decide +kernel) rfl rfl ⟨Nat.le_of_ble_eq_true rfl, Nat.le_of_ble_eq_true rfl⟩) 5 0 rfl rfl rfl hK hP hD hS hA hN [0, 1, 2, 3, 4, 5, 6, 7, 8, 9, 10, 11, 12] [] [0, 1, 2, 3, 4, 5, 6, 7, 8, 9, 10, 11, 12] (by decide) rfl rfl (by decide) (by decide) rfl (by decide) rfl hl.1 rfl (Nat.le_of_ble_eq_true rfl) dX5_helpful_57 ⟨Nat.le_of_ble_eq_true rfl, Nat.le_of_ble_eq_true rfl⟩ (fun H locs hP hD hS => ?_)
        refine lv_iload_n hx hb dX5_helpful_60 rfl (lv_at hl 3 rfl) ?_
        refine lv_isub hx hb dX5_helpful_61 ?_
        refine lv_istore (lv' := [(7, .int (u9 - y3)), (0, .ref (a 0)), (1, .int y1), (2, .int y2), (3, .int y3), (4, .int y4), (5, .int y5), (6, .int y6)]) hx hb dX5_helpful_62 hl (by decide) rfl (fun ls hl => ?_)
        refine lv_iload hx hb dX5_helpful_64 (lv_at hl 0 rfl) ?_
        refine lv_iload hx hb dX5_helpful_66 (lv_at hl 6 rfl) ?_
        refine lv_icmp_le (tgt := 76) hx hb dX5_helpful_68 (by decide) (fun c12 => ?_) (fun c12 => ?_)
        · replace h := fp c12 h
          refine lv_iload hx hb dX5_helpful_76 (lv_at hl 5 rfl) ?_
          exact w78 M10 y1 y2 y3 y5 y6 (u9 - y3) y4 _ _ ls h hP hD hS (lv_sub hl [1, 2, 3, 4, 6, 7, 0] rfl)
        · replace h := fn c12 h
          refine lv_iload hx hb dX5_helpful_71 (lv_at hl 7 rfl) ?_
          refine lv_goto (tgt := 78) hx hb dX5_helpful_73 (by decide) ?_
          exact w78 M10 y1 y2 y3 y5 y6 (u9 - y3) y6 _ _ ls h hP hD hS (lv_sub hl [1, 2, 3, 4, 6, 7, 0] rfl)
  unfold F_X5_helpful at h
  refine lv_iload_n hx hb dX5_helpful_0 rfl (lv_at hl 1 rfl) ?_
  refine lv_iconst (v := (0 : Int32)) hx hb dX5_helpful_1 (by decide) ?_
  refine lv_bipush (v := (15 : Int32)) hx hb dX5_helpful_2 (by decide) ?_
  obtain ⟨u1, e2, h⟩ := b1_ok h
  refine cl_Si (ws' := (wX5 a cI cC cO M)) ⟨hx, hb, hml, hown, ht⟩ (c_X5_in l D cI cC cO x1 (0 : Int32) (15 : Int32) _ _ e2) (cwst 3 ht wd_612 wd_6 wd_610 wd_611 (by decide +kernel) rfl rfl ⟨Nat.le_of_ble_eq_true rfl, Nat.le_of_ble_eq_true rfl⟩) hK hP hD hS hA hN [] [0, 1, 2, 3, 4, 5, 6, 7, 8, 9, 10, 11, 12] [0, 1, 2, 3, 4, 5, 6, 7, 8, 9, 10, 11, 12] (by decide) rfl rfl (by decide) (by decide) rfl (by decide) rfl hl.1 rfl (Nat.le_of_ble_eq_true rfl) dX5_helpful_4 ⟨Nat.le_of_ble_eq_true rfl, Nat.le_of_ble_eq_true rfl⟩ (fun H locs hP hD hS => ?_)
  refine lv_if_eq (tgt := 19) hx hb dX5_helpful_7 (by decide) (fun c3 => ?_) (fun c3 => ?_)
  · replace h := fp c3 h
    refine lv_ldc hx hb hown (ht _ wd_613) dX5_helpful_19 ?_
    cases h
    exact rt_i hx hb hr hlocks hS hP hK hD dX5_helpful_21
  · replace h := fn c3 h
    refine lv_iload_n hx hb dX5_helpful_10 rfl (lv_at hl 2 rfl) ?_
    refine lv_iconst (v := (0 : Int32)) hx hb dX5_helpful_11 (by decide) ?_
    refine lv_iconst (v := (1 : Int32)) hx hb dX5_helpful_12 (by decide) ?_
    obtain ⟨u4, e5, h⟩ := b1_ok h
    refine cl_Si (ws' := (wX5 a cI cC cO M)) ⟨hx, hb, hml, hown, ht⟩ (c_X5_in l D cI cC cO x2 (0 : Int32) (1 : Int32) _ _ e5) (cwst 3 ht wd_612 wd_6 wd_610 wd_611 (by decide +kernel) rfl rfl ⟨Nat.le_of_ble_eq_true rfl, Nat.le_of_ble_eq_true rfl⟩) hK hP hD hS hA hN [] [0, 1, 2, 3, 4, 5, 6, 7, 8, 9, 10, 11, 12] [0, 1, 2, 3, 4, 5, 6, 7, 8, 9, 10, 11, 12] (by decide) rfl rfl (by decide) (by decide) rfl (by decide) rfl hl.1 rfl (Nat.le_of_ble_eq_true rfl) dX5_helpful_13 ⟨Nat.le_of_ble_eq_true rfl, Nat.le_of_ble_eq_true rfl⟩ (fun H locs hP hD hS => ?_)
    refine lv_if_ne (tgt := 22) hx hb dX5_helpful_16 (by decide) (fun c6 => ?_) (fun c6 => ?_)
    · replace h := fn c6 h
      refine lv_aload_n hx hb dX5_helpful_22 rfl (lv_at hl 0 rfl) ?_
      refine lv_iload_n hx hb dX5_helpful_23 rfl (lv_at hl 1 rfl) ?_
      obtain ⟨u7, M8, e9, h⟩ := b2_ok h
      refine cl_Vi (ws' := (wX5 a cI cC cO M8)) ⟨hx, hb, hml, hown, ht⟩ (c_X5_comes l D cI cC cO a M x1 _ _ e9) (cwv 1 ht wd_699 wd_6 wd_696 wd_698 ws_31 (by decide +kernel) rfl rfl ⟨Nat.le_of_ble_eq_true rfl, Nat.le_of_ble_eq_true rfl⟩) 5 0 rfl rfl rfl hK hP hD hS hA hN [0, 1, 2, 3, 4, 5, 6, 7, 8, 9, 10, 11, 12] [] [0, 1, 2, 3, 4, 5, 6, 7, 8, 9, 10, 11, 12] (by decide) rfl rfl (by decide) (by decide) rfl (by decide) rfl hl.1 rfl (Nat.le_of_ble_eq_true rfl) dX5_helpful_24 ⟨Nat.le_of_ble_eq_true rfl, Nat.le_of_ble_eq_true rfl⟩ (fun H locs hP hD hS => ?_)
      refine lv_istore_n (lv' := [(3, .int u7), (0, .ref (a 0)), (1, .int x1), (2, .int x2)]) hx hb dX5_helpful_27 rfl hl (by decide) rfl (fun ls hl => ?_)
      refine lv_ldc hx hb hown (ht _ wd_691) dX5_helpful_28 ?_
      refine lv_istore (lv' := [(4, .int (-1000004 : Int32)), (3, .int u7), (0, .ref (a 0)), (1, .int x1), (2, .int x2)]) hx hb dX5_helpful_30 hl (by decide) rfl (fun ls hl => ?_)
      refine lv_iconst (v := (0 : Int32)) hx hb dX5_helpful_32 (by decide) ?_
      refine lv_istore (lv' := [(5, .int (0 : Int32)), (4, .int (-1000004 : Int32)), (3, .int u7), (0, .ref (a 0)), (1, .int x1), (2, .int x2)]) hx hb dX5_helpful_33 hl (by decide) rfl (fun ls hl => ?_)
      refine lv_iconst (v := (0 : Int32)) hx hb dX5_helpful_35 (by decide) ?_
      refine lv_istore (lv' := [(6, .int (0 : Int32)), (5, .int (0 : Int32)), (4, .int (-1000004 : Int32)), (3, .int u7), (0, .ref (a 0)), (1, .int x1), (2, .int x2)]) hx hb dX5_helpful_36 hl (by decide) rfl (fun ls hl => ?_)
      exact w38 FU M8 x1 x2 u7 (-1000004 : Int32) (0 : Int32) (0 : Int32) _ _ ls h hP hD hS (lv_sub hl [4, 5, 6, 3, 2, 1, 0] rfl)
    · replace h := fp c6 h
      refine lv_ldc hx hb hown (ht _ wd_613) dX5_helpful_19 ?_
      cases h
      exact rt_i hx hb hr hlocks hS hP hK hD dX5_helpful_21
theorem dX5_withOneMore_0 : decode cX5_withOneMore 0 = .ok (.iload_n 1, 1) := by decide +kernel
theorem dX5_withOneMore_1 : decode cX5_withOneMore 1 = .ok (.iconst 0, 1) := by decide +kernel
theorem dX5_withOneMore_2 : decode cX5_withOneMore 2 = .ok (.bipush 15, 2) := by decide +kernel
theorem dX5_withOneMore_4 : decode cX5_withOneMore 4 = .ok (.invokestatic 63, 3) := by decide +kernel
theorem dX5_withOneMore_7 : decode cX5_withOneMore 7 = .ok (.ifCond .eq 11, 3) := by decide +kernel
theorem dX5_withOneMore_10 : decode cX5_withOneMore 10 = .ok (.aload_n 0, 1) := by decide +kernel
theorem dX5_withOneMore_11 : decode cX5_withOneMore 11 = .ok (.iload_n 2, 1) := by decide +kernel
theorem dX5_withOneMore_12 : decode cX5_withOneMore 12 = .ok (.invokevirtual 83, 3) := by decide +kernel
theorem dX5_withOneMore_15 : decode cX5_withOneMore 15 = .ok (.ifCond .ne 6, 3) := by decide +kernel
theorem dX5_withOneMore_18 : decode cX5_withOneMore 18 = .ok (.ldc 67, 2) := by decide +kernel
theorem dX5_withOneMore_20 : decode cX5_withOneMore 20 = .ok (.ireturn, 1) := by decide +kernel
theorem dX5_withOneMore_21 : decode cX5_withOneMore 21 = .ok (.aload_n 0, 1) := by decide +kernel
theorem dX5_withOneMore_22 : decode cX5_withOneMore 22 = .ok (.iload_n 2, 1) := by decide +kernel
theorem dX5_withOneMore_23 : decode cX5_withOneMore 23 = .ok (.putfield 57, 3) := by decide +kernel
theorem dX5_withOneMore_26 : decode cX5_withOneMore 26 = .ok (.aload_n 0, 1) := by decide +kernel
theorem dX5_withOneMore_27 : decode cX5_withOneMore 27 = .ok (.iload_n 1, 1) := by decide +kernel
theorem dX5_withOneMore_28 : decode cX5_withOneMore 28 = .ok (.invokevirtual 143, 3) := by decide +kernel
theorem dX5_withOneMore_31 : decode cX5_withOneMore 31 = .ok (.istore_n 3, 1) := by decide +kernel
theorem dX5_withOneMore_32 : decode cX5_withOneMore 32 = .ok (.aload_n 0, 1) := by decide +kernel
theorem dX5_withOneMore_33 : decode cX5_withOneMore 33 = .ok (.invokevirtual 47, 3) := by decide +kernel
theorem dX5_withOneMore_36 : decode cX5_withOneMore 36 = .ok (.iload_n 3, 1) := by decide +kernel
theorem dX5_withOneMore_37 : decode cX5_withOneMore 37 = .ok (.ireturn, 1) := by decide +kernel
set_option maxHeartbeats 4000000 in
set_option maxRecDepth 100000 in
theorem c_X5_withOneMore (l : Launch) (D : va_G) (cI cC cO : ClassId) (a : Nat → Nat) (M : Mm) (x1 x2 : Int32) (res : Int32 × Mm) (sz : Nat) (h : F_X5_withOneMore M x1 x2 = some res) : Met l yX5_withOneMore (Cond.code yX5_withOneMore cX5_withOneMore 4 (Option.some Jvm.ClassFile.FieldType.int) :: lw_g) ({ frames := 5, cells := 0, slots := 0, locals := 114 } : Room) (va_Pc [.ref (a 0), .int x1, .int x2] (pS D cI cC cO sz (wX5 a cI cC cO M))) (QI D cI cC cO (va_A (wX5 a cI cC cO M) sz) (wX5 a cI cC cO res.2) res.1) 0 0 (va_A (wX5 a cI cC cO M) sz) := by
  refine Met.ofW (cc := cX5_withOneMore) (maxL := 4) (ret := (Option.some Jvm.ClassFile.FieldType.int)) (by decide) rfl ?_
  intro p e s m args below meth c s₁ B hml hv
  obtain ⟨rfl, rfl, hP, hK, hD0, hN⟩ := hv
  have hx := B.exec
  have hb := B.bytes
  have hr := B.returns
  have ht : ∀ w ∈ lw_g, w.before ([.ref (a 0), .int x1, .int x2] : List Value).toArray s = true := fun w hw => atoms_spec (ws := Cond.code yX5_withOneMore cX5_withOneMore 4 (Option.some Jvm.ClassFile.FieldType.int) :: lw_g) B.pre w (List.mem_cons_of_mem _ hw)
  have hown : s.vm.findClass RX5 = some m.cls := findClass_of_methodNamed B.named
  have hlocks := B.notSynchronized
  have hD := hD0.self (sz := s.heap.size)
  generalize hAe : va_A (wX5 a cI cC cO M) s.heap.size = A at hD ⊢
  have hA : ∀ q : Nat, s.heap.size ≤ q → A q := fun q hq => by rw [← hAe]; exact Or.inr hq
  have hS : va_S A s.heap s.heap [] := va_S.rf
  have hl := lv_entry ([.ref (a 0), .int x1, .int x2]) (n := 4) (Nat.le_of_ble_eq_true rfl)
  rw [lg_entry_eq]
  generalize (lg_sl ([.ref (a 0), .int x1, .int x2]) ++ List.replicate (4 - (lg_sl ([.ref (a 0), .int x1, .int x2])).length) Slot.unset).toArray = ls at hl ⊢
  have hl : lv_has ls 4 [(0, .ref (a 0)), (1, .int x1), (2, .int x2)] := hl
  unfold F_X5_withOneMore at h
  refine lv_iload_n hx hb dX5_withOneMore_0 rfl (lv_at hl 1 rfl) ?_
  refine lv_iconst (v := (0 : Int32)) hx hb dX5_withOneMore_1 (by decide) ?_
  refine lv_bipush (v := (15 : Int32)) hx hb dX5_withOneMore_2 (by decide) ?_
  obtain ⟨u1, e2, h⟩ := b1_ok h
  refine cl_Si (ws' := (wX5 a cI cC cO M)) ⟨hx, hb, hml, hown, ht⟩ (c_X5_in l D cI cC cO x1 (0 : Int32) (15 : Int32) _ _ e2) (cwst 3 ht wd_612 wd_6 wd_610 wd_611 (by decide +kernel) rfl rfl ⟨Nat.le_of_ble_eq_true rfl, Nat.le_of_ble_eq_true rfl⟩) hK hP hD hS hA hN [] [0, 1, 2, 3, 4, 5, 6, 7, 8, 9, 10, 11, 12] [0, 1, 2, 3, 4, 5, 6, 7, 8, 9, 10, 11, 12] (by decide) rfl rfl (by decide) (by decide) rfl (by decide) rfl hl.1 rfl (Nat.le_of_ble_eq_true rfl) dX5_withOneMore_4 ⟨Nat.le_of_ble_eq_true rfl, Nat.le_of_ble_eq_true rfl⟩ (fun H locs hP hD hS => ?_)
  refine lv_if_eq (tgt := 18) hx hb dX5_withOneMore_7 (by decide) (fun c3 => ?_) (fun c3 => ?_)
  · replace h := fp c3 h
    refine lv_ldc hx hb hown (ht _ wd_613) dX5_withOneMore_18 ?_
    cases h
    exact rt_i hx hb hr hlocks hS hP hK hD dX5_withOneMore_20
  · replace h := fn c3 h
    refine lv_aload_n hx hb dX5_withOneMore_10 rfl (lv_at hl 0 rfl) ?_
    refine lv_iload_n hx hb dX5_withOneMore_11 rfl (lv_at hl 2 rfl) ?_
    obtain ⟨u4, e5, h⟩ := b1_ok h
    refine cl_Vi (ws' := (wX5 a cI cC cO M)) ⟨hx, hb, hml, hown, ht⟩ (c_X5_isPlace l D cI cC cO a M x2 _ _ e5) (cwv 1 ht wd_634 wd_6 wd_631 wd_633 ws_23 (by decide +kernel) rfl rfl ⟨Nat.le_of_ble_eq_true rfl, Nat.le_of_ble_eq_true rfl⟩) 5 0 rfl rfl rfl hK hP hD hS hA hN [0, 1, 2, 3, 4, 5, 6, 7, 8, 9, 10, 11, 12] [] [0, 1, 2, 3, 4, 5, 6, 7, 8, 9, 10, 11, 12] (by decide) rfl rfl (by decide) (by decide) rfl (by decide) rfl hl.1 rfl (Nat.le_of_ble_eq_true rfl) dX5_withOneMore_12 ⟨Nat.le_of_ble_eq_true rfl, Nat.le_of_ble_eq_true rfl⟩ (fun H locs hP hD hS => ?_)
    refine lv_if_ne (tgt := 21) hx hb dX5_withOneMore_15 (by decide) (fun c6 => ?_) (fun c6 => ?_)
    · replace h := fn c6 h
      refine lv_aload_n hx hb dX5_withOneMore_21 rfl (lv_at hl 0 rfl) ?_
      refine lv_iload_n hx hb dX5_withOneMore_22 rfl (lv_at hl 2 rfl) ?_
      refine va_put (D := D) (ci := 5) (v := .int x2) (ty := .int) (C := RX5) (T := TX5) (N := 23) hx hb ht i_X5 tyX5 tyX5_ok nmX5 hown hK hP hD hS 0 rfl rfl 21 (by decide) (ht _ wd_557) (fun _ h9 => h9) rfl (by decide +kernel) rfl rfl (Nat.le_of_ble_eq_true rfl) dX5_withOneMore_23 (fun H locs hP hD hS => ?_)
      obtain ⟨M7, e8, h⟩ := sv_ok h
      have hP : va_P D classes (wX5 a cI cC cO M7) H := by rw [← e8]; exact hP
      have hD : va_D A (wX5 a cI cC cO M7) := by rw [← e8]; exact hD
      refine lv_aload_n hx hb dX5_withOneMore_26 rfl (lv_at hl 0 rfl) ?_
      refine lv_iload_n hx hb dX5_withOneMore_27 rfl (lv_at hl 1 rfl) ?_
      obtain ⟨u9, M10, e11, h⟩ := b2_ok h
      refine cl_Vi (ws' := (wX5 a cI cC cO M10)) ⟨hx, hb, hml, hown, ht⟩ (c_X5_comes l D cI cC cO a M7 x1 _ _ e11) (cwv 1 ht wd_699 wd_6 wd_696 wd_698 ws_31 (by decide +kernel) rfl rfl ⟨Nat.le_of_ble_eq_true rfl, Nat.le_of_ble_eq_true rfl⟩) 5 0 rfl rfl rfl hK hP hD hS hA hN [0, 1, 2, 3, 4, 5, 6, 7, 8, 9, 10, 11, 12] [] [0, 1, 2, 3, 4, 5, 6, 7, 8, 9, 10, 11, 12] (by decide) rfl rfl (by decide) (by decide) rfl (by decide) rfl hl.1 rfl (Nat.le_of_ble_eq_true rfl) dX5_withOneMore_28 ⟨Nat.le_of_ble_eq_true rfl, Nat.le_of_ble_eq_true rfl⟩ (fun H locs hP hD hS => ?_)
      refine lv_istore_n (lv' := [(3, .int u9), (0, .ref (a 0)), (1, .int x1), (2, .int x2)]) hx hb dX5_withOneMore_31 rfl hl (by decide) rfl (fun ls hl => ?_)
      refine lv_aload_n hx hb dX5_withOneMore_32 rfl (lv_at hl 1 rfl) ?_
      obtain ⟨M12, e13, h⟩ := b1_ok h
      refine cl_Vv (ws' := (wX5 a cI cC cO M12)) ⟨hx, hb, hml, hown, ht⟩ (c_X5_asIs l D cI cC cO a M10 _ _ e13) (cwv 0 ht wd_535 wd_6 wd_532 wd_534 ws_19 (by decide +kernel) rfl rfl ⟨Nat.le_of_ble_eq_true rfl, Nat.le_of_ble_eq_true rfl⟩) 5 0 rfl rfl rfl hK hP hD hS hA hN [0, 1, 2, 3, 4, 5, 6, 7, 8, 9, 10, 11, 12] [] [0, 1, 2, 3, 4, 5, 6, 7, 8, 9, 10, 11, 12] (by decide) rfl rfl (by decide) (by decide) rfl (by decide) rfl hl.1 rfl (Nat.le_of_ble_eq_true rfl) dX5_withOneMore_33 ⟨Nat.le_of_ble_eq_true rfl, Nat.le_of_ble_eq_true rfl⟩ (fun H locs hP hD hS => ?_)
      refine lv_iload_n hx hb dX5_withOneMore_36 rfl (lv_at hl 0 rfl) ?_
      cases h
      exact rt_i hx hb hr hlocks hS hP hK hD dX5_withOneMore_37
    · replace h := fp c6 h
      refine lv_ldc hx hb hown (ht _ wd_613) dX5_withOneMore_18 ?_
      cases h
      exact rt_i hx hb hr hlocks hS hP hK hD dX5_withOneMore_20
theorem dX5_bounds_0 : decode cX5_bounds 0 = .ok (.iconst 0, 1) := by decide +kernel
theorem dX5_bounds_1 : decode cX5_bounds 1 = .ok (.istore_n 1, 1) := by decide +kernel
theorem dX5_bounds_2 : decode cX5_bounds 2 = .ok (.iconst 0, 1) := by decide +kernel
theorem dX5_bounds_3 : decode cX5_bounds 3 = .ok (.istore_n 2, 1) := by decide +kernel
theorem dX5_bounds_4 : decode cX5_bounds 4 = .ok (.iload_n 2, 1) := by decide +kernel
theorem dX5_bounds_5 : decode cX5_bounds 5 = .ok (.aload_n 0, 1) := by decide +kernel
theorem dX5_bounds_6 : decode cX5_bounds 6 = .ok (.getfield 7, 3) := by decide +kernel
theorem dX5_bounds_9 : decode cX5_bounds 9 = .ok (.iconst 1, 1) := by decide +kernel
theorem dX5_bounds_10 : decode cX5_bounds 10 = .ok (.iaload, 1) := by decide +kernel
theorem dX5_bounds_11 : decode cX5_bounds 11 = .ok (.if_icmp .ge 18, 3) := by decide +kernel
theorem dX5_bounds_14 : decode cX5_bounds 14 = .ok (.iload_n 1, 1) := by decide +kernel
theorem dX5_bounds_15 : decode cX5_bounds 15 = .ok (.aload_n 0, 1) := by decide +kernel
theorem dX5_bounds_16 : decode cX5_bounds 16 = .ok (.iload_n 2, 1) := by decide +kernel
theorem dX5_bounds_17 : decode cX5_bounds 17 = .ok (.iconst 3, 1) := by decide +kernel
theorem dX5_bounds_18 : decode cX5_bounds 18 = .ok (.invokevirtual 101, 3) := by decide +kernel
theorem dX5_bounds_21 : decode cX5_bounds 21 = .ok (.iadd, 1) := by decide +kernel
theorem dX5_bounds_22 : decode cX5_bounds 22 = .ok (.istore_n 1, 1) := by decide +kernel
theorem dX5_bounds_23 : decode cX5_bounds 23 = .ok (.iinc 2 1, 3) := by decide +kernel
theorem dX5_bounds_26 : decode cX5_bounds 26 = .ok (.goto (-22), 3) := by decide +kernel
theorem dX5_bounds_29 : decode cX5_bounds 29 = .ok (.iload_n 1, 1) := by decide +kernel
theorem dX5_bounds_30 : decode cX5_bounds 30 = .ok (.ireturn, 1) := by decide +kernel
set_option maxHeartbeats 4000000 in
set_option maxRecDepth 100000 in
theorem c_X5_bounds (l : Launch) (D : va_G) (cI cC cO : ClassId) (a : Nat → Nat) (M : Mm) (res : Int32) (sz : Nat) (h : F_X5_bounds M = some res) : Met l yX5_bounds (Cond.code yX5_bounds cX5_bounds 3 (Option.some Jvm.ClassFile.FieldType.int) :: lw_g) ({ frames := 1, cells := 0, slots := 0, locals := 22 } : Room) (va_Pc [.ref (a 0)] (pS D cI cC cO sz (wX5 a cI cC cO M))) (QI D cI cC cO (va_A (wX5 a cI cC cO M) sz) (wX5 a cI cC cO M) res) 0 0 (va_A (wX5 a cI cC cO M) sz) := by
  refine Met.ofW (cc := cX5_bounds) (maxL := 3) (ret := (Option.some Jvm.ClassFile.FieldType.int)) (by decide) rfl ?_
  intro p e s m args below meth c s₁ B hml hv
  obtain ⟨rfl, rfl, hP, hK, hD0, hN⟩ := hv
  have hx := B.exec
  have hb := B.bytes
  have hr := B.returns
  have ht : ∀ w ∈ lw_g, w.before ([.ref (a 0)] : List Value).toArray s = true := fun w hw => atoms_spec (ws := Cond.code yX5_bounds cX5_bounds 3 (Option.some Jvm.ClassFile.FieldType.int) :: lw_g) B.pre w (List.mem_cons_of_mem _ hw)
  have hown : s.vm.findClass RX5 = some m.cls := findClass_of_methodNamed B.named
  have hlocks := B.notSynchronized
  have hD := hD0.self (sz := s.heap.size)
  generalize hAe : va_A (wX5 a cI cC cO M) s.heap.size = A at hD ⊢
  have hA : ∀ q : Nat, s.heap.size ≤ q → A q := fun q hq => by rw [← hAe]; exact Or.inr hq
  have hS : va_S A s.heap s.heap [] := va_S.rf
  have hl := lv_entry ([.ref (a 0)]) (n := 3) (Nat.le_of_ble_eq_true rfl)
  rw [lg_entry_eq]
  generalize (lg_sl ([.ref (a 0)]) ++ List.replicate (3 - (lg_sl ([.ref (a 0)])).length) Slot.unset).toArray = ls at hl ⊢
  have hl : lv_has ls 3 [(0, .ref (a 0))] := hl
  have w4 : ∀ (n4 : Nat) (y1 y2 : Int32) (H : Heap) (locs : List Loc) (ls : Array Slot), F_X5_bounds_4 n4 M y1 y2 = some res → va_P D classes (wX5 a cI cC cO M) H → va_D A (wX5 a cI cC cO M) → va_S A s.heap H locs → lv_has ls 3 [(0, .ref (a 0)), (1, .int y1), (2, .int y2)] → W p l e ({ frames := 1, cells := 0, slots := 0, locals := 22 } : Room) s m ([.ref (a 0)] : List Value).toArray below meth c H locs 0 0 (MQ below (QI D cI cC cO A (wX5 a cI cC cO M) res) ([.ref (a 0)] : List Value).toArray s 0 0 A) (F0 m 4 ls []) := by
    intro n4
    induction n4 with
    | zero => intro y1 y2 H locs ls h hP hD hS hl; exact absurd (show (none : Option (Int32)) = some res from h) (by simp)
    | succ n4 ih4 =>
      intro y1 y2 H locs ls h hP hD hS hl
      have h : F_X5_boundsB_4 (F_X5_bounds_4 n4) M y1 y2 = some res := h
      unfold F_X5_boundsB_4 at h
      refine lv_iload_n hx hb dX5_bounds_4 rfl (lv_at hl 2 rfl) ?_
      refine lv_aload_n hx hb dX5_bounds_5 rfl (lv_at hl 0 rfl) ?_
      refine va_get (D := D) (ci := 5) (v := .ref (a 1)) (C := RX5) (T := TX5) (N := 23) hx hb ht i_X5 hown hK hP 0 rfl rfl 0 (by decide) (ht _ wd_536) (fun _ h9 => h9) rfl dX5_bounds_6 ?_
      refine lv_iconst (v := (1 : Int32)) hx hb dX5_bounds_9 (by decide) ?_
      obtain ⟨i1, h⟩ := ck_ok h
      refine va_iald hx hb hK hP 1 0 rfl rfl i1 dX5_bounds_10 ?_
      refine lv_icmp_ge (tgt := 29) hx hb dX5_bounds_11 (by decide) (fun c2 => ?_) (fun c2 => ?_)
      · replace h := fp c2 h
        refine lv_iload_n hx hb dX5_bounds_29 rfl (lv_at hl 1 rfl) ?_
        cases h
        exact rt_i hx hb hr hlocks hS hP hK hD dX5_bounds_30
      · replace h := fn c2 h
        refine lv_iload_n hx hb dX5_bounds_14 rfl (lv_at hl 1 rfl) ?_
        refine lv_aload_n hx hb dX5_bounds_15 rfl (lv_at hl 0 rfl) ?_
        refine lv_iload_n hx hb dX5_bounds_16 rfl (lv_at hl 2 rfl) ?_
        refine lv_iconst (v := (3 : Int32)) hx hb dX5_bounds_17 (by decide) ?_
        obtain ⟨u3, e4, h⟩ := b1_ok h
        refine cl_Vi (ws' := (wX5 a cI cC cO M)) ⟨hx, hb, hml, hown, ht⟩ (c_X5_pi l D cI cC cO a M y2 (3 : Int32) _ _ e4) (cwv 2 ht wd_678 wd_6 wd_675 wd_677 ws_28 (by decide +kernel) rfl rfl ⟨Nat.le_of_ble_eq_true rfl, Nat.le_of_ble_eq_true rfl⟩) 5 0 rfl rfl rfl hK hP hD hS hA hN [0, 1, 2, 3, 4, 5, 6, 7, 8, 9, 10, 11, 12] [] [0, 1, 2, 3, 4, 5, 6, 7, 8, 9, 10, 11, 12] (by decide) rfl rfl (by decide) (by decide) rfl (by decide) rfl hl.1 rfl (Nat.le_of_ble_eq_true rfl) dX5_bounds_18 ⟨Nat.le_of_ble_eq_true rfl, Nat.le_of_ble_eq_true rfl⟩ (fun H locs hP hD hS => ?_)
        refine lv_iadd hx hb dX5_bounds_21 ?_
        refine lv_istore_n (lv' := [(1, .int (y1 + u3)), (0, .ref (a 0)), (2, .int y2)]) hx hb dX5_bounds_22 rfl hl (by decide) rfl (fun ls hl => ?_)
        refine lv_iinc (v := (y2 + 1)) (lv' := [(2, .int (y2 + 1)), (1, .int (y1 + u3)), (0, .ref (a 0))]) hx hb dX5_bounds_23 hl (k := 2) rfl rfl (by decide) rfl (fun ls hl => ?_)
        refine lv_goto (tgt := 4) hx hb dX5_bounds_26 (by decide) ?_
        exact ih4 (y1 + u3) (y2 + 1) _ _ ls h hP hD hS (lv_sub hl [2, 1, 0] rfl)
  unfold F_X5_bounds at h
  refine lv_iconst (v := (0 : Int32)) hx hb dX5_bounds_0 (by decide) ?_
  refine lv_istore_n (lv' := [(1, .int (0 : Int32)), (0, .ref (a 0))]) hx hb dX5_bounds_1 rfl hl (by decide) rfl (fun ls hl => ?_)
  refine lv_iconst (v := (0 : Int32)) hx hb dX5_bounds_2 (by decide) ?_
  refine lv_istore_n (lv' := [(2, .int (0 : Int32)), (1, .int (0 : Int32)), (0, .ref (a 0))]) hx hb dX5_bounds_3 rfl hl (by decide) rfl (fun ls hl => ?_)
  exact w4 FU (0 : Int32) (0 : Int32) _ _ ls h hP hD hS (lv_sub hl [2, 1, 0] rfl)
theorem dX5_count_0 : decode cX5_count 0 = .ok (.iload_n 1, 1) := by decide +kernel
theorem dX5_count_1 : decode cX5_count 1 = .ok (.tableswitch 66 0 5 #[39, 39, 46, 51, 56, 61], 39) := by decide +kernel
theorem dX5_count_40 : decode cX5_count 40 = .ok (.aload_n 0, 1) := by decide +kernel
theorem dX5_count_41 : decode cX5_count 41 = .ok (.getfield 7, 3) := by decide +kernel
theorem dX5_count_44 : decode cX5_count 44 = .ok (.iload_n 1, 1) := by decide +kernel
theorem dX5_count_45 : decode cX5_count 45 = .ok (.iaload, 1) := by decide +kernel
theorem dX5_count_46 : decode cX5_count 46 = .ok (.ireturn, 1) := by decide +kernel
theorem dX5_count_47 : decode cX5_count 47 = .ok (.aload_n 0, 1) := by decide +kernel
theorem dX5_count_48 : decode cX5_count 48 = .ok (.invokevirtual 146, 3) := by decide +kernel
theorem dX5_count_51 : decode cX5_count 51 = .ok (.ireturn, 1) := by decide +kernel
theorem dX5_count_52 : decode cX5_count 52 = .ok (.aload_n 0, 1) := by decide +kernel
theorem dX5_count_53 : decode cX5_count 53 = .ok (.invokevirtual 153, 3) := by decide +kernel
theorem dX5_count_56 : decode cX5_count 56 = .ok (.ireturn, 1) := by decide +kernel
theorem dX5_count_57 : decode cX5_count 57 = .ok (.aload_n 0, 1) := by decide +kernel
theorem dX5_count_58 : decode cX5_count 58 = .ok (.getfield 68, 3) := by decide +kernel
theorem dX5_count_61 : decode cX5_count 61 = .ok (.ireturn, 1) := by decide +kernel
theorem dX5_count_62 : decode cX5_count 62 = .ok (.aload_n 0, 1) := by decide +kernel
theorem dX5_count_63 : decode cX5_count 63 = .ok (.getfield 156, 3) := by decide +kernel
theorem dX5_count_66 : decode cX5_count 66 = .ok (.ireturn, 1) := by decide +kernel
theorem dX5_count_67 : decode cX5_count 67 = .ok (.ldc 67, 2) := by decide +kernel
theorem dX5_count_69 : decode cX5_count 69 = .ok (.ireturn, 1) := by decide +kernel
set_option maxHeartbeats 4000000 in
set_option maxRecDepth 100000 in
theorem c_X5_count (l : Launch) (D : va_G) (cI cC cO : ClassId) (a : Nat → Nat) (M : Mm) (x1 : Int32) (res : Int32) (sz : Nat) (h : F_X5_count M x1 = some res) : Met l yX5_count (Cond.code yX5_count cX5_count 2 (Option.some Jvm.ClassFile.FieldType.int) :: lw_g) ({ frames := 2, cells := 0, slots := 0, locals := 44 } : Room) (va_Pc [.ref (a 0), .int x1] (pS D cI cC cO sz (wX5 a cI cC cO M))) (QI D cI cC cO (va_A (wX5 a cI cC cO M) sz) (wX5 a cI cC cO M) res) 0 0 (va_A (wX5 a cI cC cO M) sz) := by
  refine Met.ofW (cc := cX5_count) (maxL := 2) (ret := (Option.some Jvm.ClassFile.FieldType.int)) (by decide) rfl ?_
  intro p e s m args below meth c s₁ B hml hv
  obtain ⟨rfl, rfl, hP, hK, hD0, hN⟩ := hv
  have hx := B.exec
  have hb := B.bytes
  have hr := B.returns
  have ht : ∀ w ∈ lw_g, w.before ([.ref (a 0), .int x1] : List Value).toArray s = true := fun w hw => atoms_spec (ws := Cond.code yX5_count cX5_count 2 (Option.some Jvm.ClassFile.FieldType.int) :: lw_g) B.pre w (List.mem_cons_of_mem _ hw)
  have hown : s.vm.findClass RX5 = some m.cls := findClass_of_methodNamed B.named
  have hlocks := B.notSynchronized
  have hD := hD0.self (sz := s.heap.size)
  generalize hAe : va_A (wX5 a cI cC cO M) s.heap.size = A at hD ⊢
  have hA : ∀ q : Nat, s.heap.size ≤ q → A q := fun q hq => by rw [← hAe]; exact Or.inr hq
  have hS : va_S A s.heap s.heap [] := va_S.rf
  have hl := lv_entry ([.ref (a 0), .int x1]) (n := 2) (Nat.le_of_ble_eq_true rfl)
  rw [lg_entry_eq]
  generalize (lg_sl ([.ref (a 0), .int x1]) ++ List.replicate (2 - (lg_sl ([.ref (a 0), .int x1])).length) Slot.unset).toArray = ls at hl ⊢
  have hl : lv_has ls 2 [(0, .ref (a 0)), (1, .int x1)] := hl
  unfold F_X5_count at h
  refine lv_iload_n hx hb dX5_count_0 rfl (lv_at hl 1 rfl) ?_
  by_cases c1 : x1 = (0 : Int32)
  · replace h := fp c1 h
    refine lv_tableIn (off := 39) (tgt := 40) hx hb dX5_count_1 (by rw [c1]; decide) (by rw [c1]; decide) (by rw [c1]; rfl) (by decide) ?_
    refine lv_aload_n hx hb dX5_count_40 rfl (lv_at hl 0 rfl) ?_
    refine va_get (D := D) (ci := 5) (v := .ref (a 1)) (C := RX5) (T := TX5) (N := 23) hx hb ht i_X5 hown hK hP 0 rfl rfl 0 (by decide) (ht _ wd_536) (fun _ h9 => h9) rfl dX5_count_41 ?_
    refine lv_iload_n hx hb dX5_count_44 rfl (lv_at hl 1 rfl) ?_
    obtain ⟨i2, h⟩ := ck_ok h
    refine va_iald hx hb hK hP 1 0 rfl rfl i2 dX5_count_45 ?_
    cases h
    exact rt_i hx hb hr hlocks hS hP hK hD dX5_count_46
  · replace h := fn c1 h
    by_cases c3 : x1 = (1 : Int32)
    · replace h := fp c3 h
      refine lv_tableIn (off := 39) (tgt := 40) hx hb dX5_count_1 (by rw [c3]; decide) (by rw [c3]; decide) (by rw [c3]; rfl) (by decide) ?_
      refine lv_aload_n hx hb dX5_count_40 rfl (lv_at hl 0 rfl) ?_
      refine va_get (D := D) (ci := 5) (v := .ref (a 1)) (C := RX5) (T := TX5) (N := 23) hx hb ht i_X5 hown hK hP 0 rfl rfl 0 (by decide) (ht _ wd_536) (fun _ h9 => h9) rfl dX5_count_41 ?_
      refine lv_iload_n hx hb dX5_count_44 rfl (lv_at hl 1 rfl) ?_
      obtain ⟨i4, h⟩ := ck_ok h
      refine va_iald hx hb hK hP 1 0 rfl rfl i4 dX5_count_45 ?_
      cases h
      exact rt_i hx hb hr hlocks hS hP hK hD dX5_count_46
    · replace h := fn c3 h
      by_cases c5 : x1 = (2 : Int32)
      · replace h := fp c5 h
        refine lv_tableIn (off := 46) (tgt := 47) hx hb dX5_count_1 (by rw [c5]; decide) (by rw [c5]; decide) (by rw [c5]; rfl) (by decide) ?_
        refine lv_aload_n hx hb dX5_count_47 rfl (lv_at hl 0 rfl) ?_
        obtain ⟨u6, e7, h⟩ := b1_ok h
        refine cl_Vi (ws' := (wX5 a cI cC cO M)) ⟨hx, hb, hml, hown, ht⟩ (c_X5_all l D cI cC cO a M _ _ e7) (cwv 0 ht wd_736 wd_6 wd_733 wd_735 ws_39 (by decide +kernel) rfl rfl ⟨Nat.le_of_ble_eq_true rfl, Nat.le_of_ble_eq_true rfl⟩) 5 0 rfl rfl rfl hK hP hD hS hA hN [0, 1, 2, 3, 4, 5, 6, 7, 8, 9, 10, 11, 12] [] [0, 1, 2, 3, 4, 5, 6, 7, 8, 9, 10, 11, 12] (by decide) rfl rfl (by decide) (by decide) rfl (by decide) rfl hl.1 rfl (Nat.le_of_ble_eq_true rfl) dX5_count_48 ⟨Nat.le_of_ble_eq_true rfl, Nat.le_of_ble_eq_true rfl⟩ (fun H locs hP hD hS => ?_)
        cases h
        exact rt_i hx hb hr hlocks hS hP hK hD dX5_count_51
      · replace h := fn c5 h
        by_cases c8 : x1 = (3 : Int32)
        · replace h := fp c8 h
          refine lv_tableIn (off := 51) (tgt := 52) hx hb dX5_count_1 (by rw [c8]; decide) (by rw [c8]; decide) (by rw [c8]; rfl) (by decide) ?_
          refine lv_aload_n hx hb dX5_count_52 rfl (lv_at hl 0 rfl) ?_
          obtain ⟨u9, e10, h⟩ := b1_ok h
          refine cl_Vi (ws' := (wX5 a cI cC cO M)) ⟨hx, hb, hml, hown, ht⟩ (c_X5_bounds l D cI cC cO a M _ _ e10) (cwv 0 ht wd_772 wd_6 wd_769 wd_771 ws_41 (by decide +kernel) rfl rfl ⟨Nat.le_of_ble_eq_true rfl, Nat.le_of_ble_eq_true rfl⟩) 5 0 rfl rfl rfl hK hP hD hS hA hN [0, 1, 2, 3, 4, 5, 6, 7, 8, 9, 10, 11, 12] [] [0, 1, 2, 3, 4, 5, 6, 7, 8, 9, 10, 11, 12] (by decide) rfl rfl (by decide) (by decide) rfl (by decide) rfl hl.1 rfl (Nat.le_of_ble_eq_true rfl) dX5_count_53 ⟨Nat.le_of_ble_eq_true rfl, Nat.le_of_ble_eq_true rfl⟩ (fun H locs hP hD hS => ?_)
          cases h
          exact rt_i hx hb hr hlocks hS hP hK hD dX5_count_56
        · replace h := fn c8 h
          by_cases c11 : x1 = (4 : Int32)
          · replace h := fp c11 h
            refine lv_tableIn (off := 56) (tgt := 57) hx hb dX5_count_1 (by rw [c11]; decide) (by rw [c11]; decide) (by rw [c11]; rfl) (by decide) ?_
            refine lv_aload_n hx hb dX5_count_57 rfl (lv_at hl 0 rfl) ?_
            refine va_get (D := D) (ci := 5) (v := .int (M 12 0)) (C := RX5) (T := TX5) (N := 23) hx hb ht i_X5 hown hK hP 0 rfl rfl 4 (by decide) (ht _ wd_540) (fun _ h9 => h9) rfl dX5_count_58 ?_
            cases h
            exact rt_i hx hb hr hlocks hS hP hK hD dX5_count_61
          · replace h := fn c11 h
            by_cases c12 : x1 = (5 : Int32)
            · replace h := fp c12 h
              refine lv_tableIn (off := 61) (tgt := 62) hx hb dX5_count_1 (by rw [c12]; decide) (by rw [c12]; decide) (by rw [c12]; rfl) (by decide) ?_
              refine lv_aload_n hx hb dX5_count_62 rfl (lv_at hl 0 rfl) ?_
              refine va_get (D := D) (ci := 5) (v := .int (M 12 1)) (C := RX5) (T := TX5) (N := 23) hx hb ht i_X5 hown hK hP 0 rfl rfl 6 (by decide) (ht _ wd_542) (fun _ h9 => h9) rfl dX5_count_63 ?_
              cases h
              exact rt_i hx hb hr hlocks hS hP hK hD dX5_count_66
            · replace h := fn c12 h
              refine lv_tableOut (tgt := 67) hx hb dX5_count_1 (sw_out (x := x1) (n := 6) (by decide) (fun k hk => match k, hk with | 0, _ => c1 | 1, _ => c3 | 2, _ => c5 | 3, _ => c8 | 4, _ => c11 | 5, _ => c12 | k + 6, hk => absurd hk (by omega))) (by decide) ?_
              refine lv_ldc hx hb hown (ht _ wd_613) dX5_count_67 ?_
              cases h
              exact rt_i hx hb hr hlocks hS hP hK hD dX5_count_69
theorem dX5_undo_0 : decode cX5_undo 0 = .ok (.aload_n 0, 1) := by decide +kernel
theorem dX5_undo_1 : decode cX5_undo 1 = .ok (.getfield 68, 3) := by decide +kernel
theorem dX5_undo_4 : decode cX5_undo 4 = .ok (.ifCond .ne 6, 3) := by decide +kernel
theorem dX5_undo_7 : decode cX5_undo 7 = .ok (.ldc 159, 2) := by decide +kernel
theorem dX5_undo_9 : decode cX5_undo 9 = .ok (.ireturn, 1) := by decide +kernel
theorem dX5_undo_10 : decode cX5_undo 10 = .ok (.aload_n 0, 1) := by decide +kernel
theorem dX5_undo_11 : decode cX5_undo 11 = .ok (.dup, 1) := by decide +kernel
theorem dX5_undo_12 : decode cX5_undo 12 = .ok (.getfield 68, 3) := by decide +kernel
theorem dX5_undo_15 : decode cX5_undo 15 = .ok (.iconst 1, 1) := by decide +kernel
theorem dX5_undo_16 : decode cX5_undo 16 = .ok (.isub, 1) := by decide +kernel
theorem dX5_undo_17 : decode cX5_undo 17 = .ok (.putfield 68, 3) := by decide +kernel
theorem dX5_undo_20 : decode cX5_undo 20 = .ok (.iconst 0, 1) := by decide +kernel
theorem dX5_undo_21 : decode cX5_undo 21 = .ok (.istore_n 1, 1) := by decide +kernel
theorem dX5_undo_22 : decode cX5_undo 22 = .ok (.iload_n 1, 1) := by decide +kernel
theorem dX5_undo_23 : decode cX5_undo 23 = .ok (.bipush 74, 2) := by decide +kernel
theorem dX5_undo_25 : decode cX5_undo 25 = .ok (.if_icmp .ge 29, 3) := by decide +kernel
theorem dX5_undo_28 : decode cX5_undo 28 = .ok (.aload_n 0, 1) := by decide +kernel
theorem dX5_undo_29 : decode cX5_undo 29 = .ok (.getfield 7, 3) := by decide +kernel
theorem dX5_undo_32 : decode cX5_undo 32 = .ok (.iload_n 1, 1) := by decide +kernel
theorem dX5_undo_33 : decode cX5_undo 33 = .ok (.aload_n 0, 1) := by decide +kernel
theorem dX5_undo_34 : decode cX5_undo 34 = .ok (.getfield 13, 3) := by decide +kernel
theorem dX5_undo_37 : decode cX5_undo 37 = .ok (.bipush 74, 2) := by decide +kernel
theorem dX5_undo_39 : decode cX5_undo 39 = .ok (.aload_n 0, 1) := by decide +kernel
theorem dX5_undo_40 : decode cX5_undo 40 = .ok (.getfield 68, 3) := by decide +kernel
theorem dX5_undo_43 : decode cX5_undo 43 = .ok (.imul, 1) := by decide +kernel
theorem dX5_undo_44 : decode cX5_undo 44 = .ok (.iload_n 1, 1) := by decide +kernel
theorem dX5_undo_45 : decode cX5_undo 45 = .ok (.iadd, 1) := by decide +kernel
theorem dX5_undo_46 : decode cX5_undo 46 = .ok (.iaload, 1) := by decide +kernel
theorem dX5_undo_47 : decode cX5_undo 47 = .ok (.iastore, 1) := by decide +kernel
theorem dX5_undo_48 : decode cX5_undo 48 = .ok (.iinc 1 1, 3) := by decide +kernel
theorem dX5_undo_51 : decode cX5_undo 51 = .ok (.goto (-29), 3) := by decide +kernel
theorem dX5_undo_54 : decode cX5_undo 54 = .ok (.aload_n 0, 1) := by decide +kernel
theorem dX5_undo_55 : decode cX5_undo 55 = .ok (.getfield 68, 3) := by decide +kernel
theorem dX5_undo_58 : decode cX5_undo 58 = .ok (.ireturn, 1) := by decide +kernel
set_option maxHeartbeats 4000000 in
set_option maxRecDepth 100000 in
theorem c_X5_undo (l : Launch) (D : va_G) (cI cC cO : ClassId) (a : Nat → Nat) (M : Mm) (res : Int32 × Mm) (sz : Nat) (h : F_X5_undo M = some res) : Met l yX5_undo (Cond.code yX5_undo cX5_undo 2 (Option.some Jvm.ClassFile.FieldType.int) :: lw_g) ({ frames := 0, cells := 0, slots := 0, locals := 0 } : Room) (va_Pc [.ref (a 0)] (pS D cI cC cO sz (wX5 a cI cC cO M))) (QI D cI cC cO (va_A (wX5 a cI cC cO M) sz) (wX5 a cI cC cO res.2) res.1) 0 0 (va_A (wX5 a cI cC cO M) sz) := by
  refine Met.ofW (cc := cX5_undo) (maxL := 2) (ret := (Option.some Jvm.ClassFile.FieldType.int)) (by decide) rfl ?_
  intro p e s m args below meth c s₁ B hml hv
  obtain ⟨rfl, rfl, hP, hK, hD0, hN⟩ := hv
  have hx := B.exec
  have hb := B.bytes
  have hr := B.returns
  have ht : ∀ w ∈ lw_g, w.before ([.ref (a 0)] : List Value).toArray s = true := fun w hw => atoms_spec (ws := Cond.code yX5_undo cX5_undo 2 (Option.some Jvm.ClassFile.FieldType.int) :: lw_g) B.pre w (List.mem_cons_of_mem _ hw)
  have hown : s.vm.findClass RX5 = some m.cls := findClass_of_methodNamed B.named
  have hlocks := B.notSynchronized
  have hD := hD0.self (sz := s.heap.size)
  generalize hAe : va_A (wX5 a cI cC cO M) s.heap.size = A at hD ⊢
  have hA : ∀ q : Nat, s.heap.size ≤ q → A q := fun q hq => by rw [← hAe]; exact Or.inr hq
  have hS : va_S A s.heap s.heap [] := va_S.rf
  have hl := lv_entry ([.ref (a 0)]) (n := 2) (Nat.le_of_ble_eq_true rfl)
  rw [lg_entry_eq]
  generalize (lg_sl ([.ref (a 0)]) ++ List.replicate (2 - (lg_sl ([.ref (a 0)])).length) Slot.unset).toArray = ls at hl ⊢
  have hl : lv_has ls 2 [(0, .ref (a 0))] := hl
  have w22 : ∀ (n22 : Nat) (M : Mm) (y1 : Int32) (H : Heap) (locs : List Loc) (ls : Array Slot), F_X5_undo_22 n22 M y1 = some res → va_P D classes (wX5 a cI cC cO M) H → va_D A (wX5 a cI cC cO M) → va_S A s.heap H locs → lv_has ls 2 [(0, .ref (a 0)), (1, .int y1)] → W p l e ({ frames := 0, cells := 0, slots := 0, locals := 0 } : Room) s m ([.ref (a 0)] : List Value).toArray below meth c H locs 0 0 (MQ below (QI D cI cC cO A (wX5 a cI cC cO res.2) res.1) ([.ref (a 0)] : List Value).toArray s 0 0 A) (F0 m 22 ls []) := by
    intro n22
    induction n22 with
    | zero => intro M y1 H locs ls h hP hD hS hl; exact absurd (show (none : Option (Int32 × Mm)) = some res from h) (by simp)
    | succ n22 ih22 =>
      intro M y1 H locs ls h hP hD hS hl
      have h : F_X5_undoB_22 (F_X5_undo_22 n22) M y1 = some res := h
      unfold F_X5_undoB_22 at h
      refine lv_iload_n hx hb dX5_undo_22 rfl (lv_at hl 1 rfl) ?_
      refine lv_bipush (v := (74 : Int32)) hx hb dX5_undo_23 (by decide) ?_
      refine lv_icmp_ge (tgt := 54) hx hb dX5_undo_25 (by decide) (fun c1 => ?_) (fun c1 => ?_)
      · replace h := fp c1 h
        refine lv_aload_n hx hb dX5_undo_54 rfl (lv_at hl 0 rfl) ?_
        refine va_get (D := D) (ci := 5) (v := .int (M 12 0)) (C := RX5) (T := TX5) (N := 23) hx hb ht i_X5 hown hK hP 0 rfl rfl 4 (by decide) (ht _ wd_540) (fun _ h9 => h9) rfl dX5_undo_55 ?_
        cases h
        exact rt_i hx hb hr hlocks hS hP hK hD dX5_undo_58
      · replace h := fn c1 h
        refine lv_aload_n hx hb dX5_undo_28 rfl (lv_at hl 0 rfl) ?_
        refine va_get (D := D) (ci := 5) (v := .ref (a 1)) (C := RX5) (T := TX5) (N := 23) hx hb ht i_X5 hown hK hP 0 rfl rfl 0 (by decide) (ht _ wd_536) (fun _ h9 => h9) rfl dX5_undo_29 ?_
        refine lv_iload_n hx hb dX5_undo_32 rfl (lv_at hl 1 rfl) ?_
        refine lv_aload_n hx hb dX5_undo_33 rfl (lv_at hl 0 rfl) ?_
        refine va_get (D := D) (ci := 5) (v := .ref (a 2)) (C := RX5) (T := TX5) (N := 23) hx hb ht i_X5 hown hK hP 0 rfl rfl 1 (by decide) (ht _ wd_537) (fun _ h9 => h9) rfl dX5_undo_34 ?_
        refine lv_bipush (v := (74 : Int32)) hx hb dX5_undo_37 (by decide) ?_
        refine lv_aload_n hx hb dX5_undo_39 rfl (lv_at hl 0 rfl) ?_
        refine va_get (D := D) (ci := 5) (v := .int (M 12 0)) (C := RX5) (T := TX5) (N := 23) hx hb ht i_X5 hown hK hP 0 rfl rfl 4 (by decide) (ht _ wd_540) (fun _ h9 => h9) rfl dX5_undo_40 ?_
        refine lv_imul hx hb dX5_undo_43 ?_
        refine lv_iload_n hx hb dX5_undo_44 rfl (lv_at hl 1 rfl) ?_
        refine lv_iadd hx hb dX5_undo_45 ?_
        obtain ⟨i2, h⟩ := ck_ok h
        refine va_iald hx hb hK hP 2 0 rfl rfl i2 dX5_undo_46 ?_
        obtain ⟨i3, h⟩ := ck_ok h
        refine va_iast hx hb hK hP hD hS 1 0 rfl rfl i3 dX5_undo_47 (fun H locs hP hD hS => ?_)
        obtain ⟨M4, e5, h⟩ := sv_ok h
        have hP : va_P D classes (wX5 a cI cC cO M4) H := by rw [← e5]; exact hP
        have hD : va_D A (wX5 a cI cC cO M4) := by rw [← e5]; exact hD
        refine lv_iinc (v := (y1 + 1)) (lv' := [(1, .int (y1 + 1)), (0, .ref (a 0))]) hx hb dX5_undo_48 hl (k := 1) rfl rfl (by decide) rfl (fun ls hl => ?_)
        refine lv_goto (tgt := 22) hx hb dX5_undo_51 (by decide) ?_
        exact ih22 M4 (y1 + 1) _ _ ls h hP hD hS (lv_sub hl [1, 0] rfl)
  unfold F_X5_undo at h
  refine lv_aload_n hx hb dX5_undo_0 rfl (lv_at hl 0 rfl) ?_
  refine va_get (D := D) (ci := 5) (v := .int (M 12 0)) (C := RX5) (T := TX5) (N := 23) hx hb ht i_X5 hown hK hP 0 rfl rfl 4 (by decide) (ht _ wd_540) (fun _ h9 => h9) rfl dX5_undo_1 ?_
  refine lv_if_ne (tgt := 10) hx hb dX5_undo_4 (by decide) (fun c1 => ?_) (fun c1 => ?_)
  · replace h := fn c1 h
    refine lv_aload_n hx hb dX5_undo_10 rfl (lv_at hl 0 rfl) ?_
    refine lv_dup hx hb dX5_undo_11 rfl ?_
    refine va_get (D := D) (ci := 5) (v := .int (M 12 0)) (C := RX5) (T := TX5) (N := 23) hx hb ht i_X5 hown hK hP 0 rfl rfl 4 (by decide) (ht _ wd_540) (fun _ h9 => h9) rfl dX5_undo_12 ?_
    refine lv_iconst (v := (1 : Int32)) hx hb dX5_undo_15 (by decide) ?_
    refine lv_isub hx hb dX5_undo_16 ?_
    refine va_put (D := D) (ci := 5) (v := .int ((M 12 0) - (1 : Int32))) (ty := .int) (C := RX5) (T := TX5) (N := 23) hx hb ht i_X5 tyX5 tyX5_ok nmX5 hown hK hP hD hS 0 rfl rfl 4 (by decide) (ht _ wd_540) (fun _ h9 => h9) rfl (by decide +kernel) rfl rfl (Nat.le_of_ble_eq_true rfl) dX5_undo_17 (fun H locs hP hD hS => ?_)
    obtain ⟨M2, e3, h⟩ := sv_ok h
    have hP : va_P D classes (wX5 a cI cC cO M2) H := by rw [← e3]; exact hP
    have hD : va_D A (wX5 a cI cC cO M2) := by rw [← e3]; exact hD
    refine lv_iconst (v := (0 : Int32)) hx hb dX5_undo_20 (by decide) ?_
    refine lv_istore_n (lv' := [(1, .int (0 : Int32)), (0, .ref (a 0))]) hx hb dX5_undo_21 rfl hl (by decide) rfl (fun ls hl => ?_)
    exact w22 FU M2 (0 : Int32) _ _ ls h hP hD hS (lv_sub hl [1, 0] rfl)
  · replace h := fp c1 h
    refine lv_ldc hx hb hown (ht _ wd_777) dX5_undo_7 ?_
    cases h
    exact rt_i hx hb hr hlocks hS hP hK hD dX5_undo_9
theorem dX5_type_0 : decode cX5_type 0 = .ok (.iload_n 1, 1) := by decide +kernel
theorem dX5_type_1 : decode cX5_type 1 = .ok (.bipush 32, 2) := by decide +kernel
theorem dX5_type_3 : decode cX5_type 3 = .ok (.bipush 126, 2) := by decide +kernel
theorem dX5_type_5 : decode cX5_type 5 = .ok (.invokestatic 63, 3) := by decide +kernel
theorem dX5_type_8 : decode cX5_type 8 = .ok (.ifCond .ne 6, 3) := by decide +kernel
theorem dX5_type_11 : decode cX5_type 11 = .ok (.ldc 67, 2) := by decide +kernel
theorem dX5_type_13 : decode cX5_type 13 = .ok (.ireturn, 1) := by decide +kernel
theorem dX5_type_14 : decode cX5_type 14 = .ok (.aload_n 0, 1) := by decide +kernel
theorem dX5_type_15 : decode cX5_type 15 = .ok (.getfield 156, 3) := by decide +kernel
theorem dX5_type_18 : decode cX5_type 18 = .ok (.bipush 60, 2) := by decide +kernel
theorem dX5_type_20 : decode cX5_type 20 = .ok (.if_icmp .ne 6, 3) := by decide +kernel
theorem dX5_type_23 : decode cX5_type 23 = .ok (.ldc 71, 2) := by decide +kernel
theorem dX5_type_25 : decode cX5_type 25 = .ok (.ireturn, 1) := by decide +kernel
theorem dX5_type_26 : decode cX5_type 26 = .ok (.aload_n 0, 1) := by decide +kernel
theorem dX5_type_27 : decode cX5_type 27 = .ok (.getfield 22, 3) := by decide +kernel
theorem dX5_type_30 : decode cX5_type 30 = .ok (.aload_n 0, 1) := by decide +kernel
theorem dX5_type_31 : decode cX5_type 31 = .ok (.getfield 156, 3) := by decide +kernel
theorem dX5_type_34 : decode cX5_type 34 = .ok (.iload_n 1, 1) := by decide +kernel
theorem dX5_type_35 : decode cX5_type 35 = .ok (.i2c, 1) := by decide +kernel
theorem dX5_type_36 : decode cX5_type 36 = .ok (.castore, 1) := by decide +kernel
theorem dX5_type_37 : decode cX5_type 37 = .ok (.aload_n 0, 1) := by decide +kernel
theorem dX5_type_38 : decode cX5_type 38 = .ok (.dup, 1) := by decide +kernel
theorem dX5_type_39 : decode cX5_type 39 = .ok (.getfield 156, 3) := by decide +kernel
theorem dX5_type_42 : decode cX5_type 42 = .ok (.iconst 1, 1) := by decide +kernel
theorem dX5_type_43 : decode cX5_type 43 = .ok (.iadd, 1) := by decide +kernel
theorem dX5_type_44 : decode cX5_type 44 = .ok (.putfield 156, 3) := by decide +kernel
theorem dX5_type_47 : decode cX5_type 47 = .ok (.aload_n 0, 1) := by decide +kernel
theorem dX5_type_48 : decode cX5_type 48 = .ok (.getfield 156, 3) := by decide +kernel
theorem dX5_type_51 : decode cX5_type 51 = .ok (.ireturn, 1) := by decide +kernel
set_option maxHeartbeats 4000000 in
set_option maxRecDepth 100000 in
theorem c_X5_type (l : Launch) (D : va_G) (cI cC cO : ClassId) (a : Nat → Nat) (M : Mm) (x1 : Int32) (res : Int32 × Mm) (sz : Nat) (h : F_X5_type M x1 = some res) : Met l yX5_type (Cond.code yX5_type cX5_type 2 (Option.some Jvm.ClassFile.FieldType.int) :: lw_g) ({ frames := 1, cells := 0, slots := 0, locals := 22 } : Room) (va_Pc [.ref (a 0), .int x1] (pS D cI cC cO sz (wX5 a cI cC cO M))) (QI D cI cC cO (va_A (wX5 a cI cC cO M) sz) (wX5 a cI cC cO res.2) res.1) 0 0 (va_A (wX5 a cI cC cO M) sz) := by
  refine Met.ofW (cc := cX5_type) (maxL := 2) (ret := (Option.some Jvm.ClassFile.FieldType.int)) (by decide) rfl ?_
  intro p e s m args below meth c s₁ B hml hv
  obtain ⟨rfl, rfl, hP, hK, hD0, hN⟩ := hv
  have hx := B.exec
  have hb := B.bytes
  have hr := B.returns
  have ht : ∀ w ∈ lw_g, w.before ([.ref (a 0), .int x1] : List Value).toArray s = true := fun w hw => atoms_spec (ws := Cond.code yX5_type cX5_type 2 (Option.some Jvm.ClassFile.FieldType.int) :: lw_g) B.pre w (List.mem_cons_of_mem _ hw)
  have hown : s.vm.findClass RX5 = some m.cls := findClass_of_methodNamed B.named
  have hlocks := B.notSynchronized
  have hD := hD0.self (sz := s.heap.size)
  generalize hAe : va_A (wX5 a cI cC cO M) s.heap.size = A at hD ⊢
  have hA : ∀ q : Nat, s.heap.size ≤ q → A q := fun q hq => by rw [← hAe]; exact Or.inr hq
  have hS : va_S A s.heap s.heap [] := va_S.rf
  have hl := lv_entry ([.ref (a 0), .int x1]) (n := 2) (Nat.le_of_ble_eq_true rfl)
  rw [lg_entry_eq]
  generalize (lg_sl ([.ref (a 0), .int x1]) ++ List.replicate (2 - (lg_sl ([.ref (a 0), .int x1])).length) Slot.unset).toArray = ls at hl ⊢
  have hl : lv_has ls 2 [(0, .ref (a 0)), (1, .int x1)] := hl
  unfold F_X5_type at h
  refine lv_iload_n hx hb dX5_type_0 rfl (lv_at hl 1 rfl) ?_
  refine lv_bipush (v := (32 : Int32)) hx hb dX5_type_1 (by decide) ?_
  refine lv_bipush (v := (126 : Int32)) hx hb dX5_type_3 (by decide) ?_
  obtain ⟨u1, e2, h⟩ := b1_ok h
  refine cl_Si (ws' := (wX5 a cI cC cO M)) ⟨hx, hb, hml, hown, ht⟩ (c_X5_in l D cI cC cO x1 (32 : Int32) (126 : Int32) _ _ e2) (cwst 3 ht wd_612 wd_6 wd_610 wd_611 (by decide +kernel) rfl rfl ⟨Nat.le_of_ble_eq_true rfl, Nat.le_of_ble_eq_true rfl⟩) hK hP hD hS hA hN [] [0, 1, 2, 3, 4, 5, 6, 7, 8, 9, 10, 11, 12] [0, 1, 2, 3, 4, 5, 6, 7, 8, 9, 10, 11, 12] (by decide) rfl rfl (by decide) (by decide) rfl (by decide) rfl hl.1 rfl (Nat.le_of_ble_eq_true rfl) dX5_type_5 ⟨Nat.le_of_ble_eq_true rfl, Nat.le_of_ble_eq_true rfl⟩ (fun H locs hP hD hS => ?_)
  refine lv_if_ne (tgt := 14) hx hb dX5_type_8 (by decide) (fun c3 => ?_) (fun c3 => ?_)
  · replace h := fn c3 h
    refine lv_aload_n hx hb dX5_type_14 rfl (lv_at hl 0 rfl) ?_
    refine va_get (D := D) (ci := 5) (v := .int (M 12 1)) (C := RX5) (T := TX5) (N := 23) hx hb ht i_X5 hown hK hP 0 rfl rfl 6 (by decide) (ht _ wd_542) (fun _ h9 => h9) rfl dX5_type_15 ?_
    refine lv_bipush (v := (60 : Int32)) hx hb dX5_type_18 (by decide) ?_
    refine lv_icmp_ne (tgt := 26) hx hb dX5_type_20 (by decide) (fun c4 => ?_) (fun c4 => ?_)
    · replace h := fn c4 h
      refine lv_aload_n hx hb dX5_type_26 rfl (lv_at hl 0 rfl) ?_
      refine va_get (D := D) (ci := 5) (v := .ref (a 5)) (C := RX5) (T := TX5) (N := 23) hx hb ht i_X5 hown hK hP 0 rfl rfl 5 (by decide) (ht _ wd_541) (fun _ h9 => h9) rfl dX5_type_27 ?_
      refine lv_aload_n hx hb dX5_type_30 rfl (lv_at hl 0 rfl) ?_
      refine va_get (D := D) (ci := 5) (v := .int (M 12 1)) (C := RX5) (T := TX5) (N := 23) hx hb ht i_X5 hown hK hP 0 rfl rfl 6 (by decide) (ht _ wd_542) (fun _ h9 => h9) rfl dX5_type_31 ?_
      refine lv_iload_n hx hb dX5_type_34 rfl (lv_at hl 1 rfl) ?_
      refine lv_i2c (v := ((x1.toUInt32 % 65536).toInt32)) hx hb dX5_type_35 rfl ?_
      obtain ⟨i5, h⟩ := ck_ok h
      refine va_cast hx hb hK hP hD hS 5 1 rfl rfl i5 dX5_type_36 (fun H locs hP hD hS => ?_)
      obtain ⟨M6, e7, h⟩ := sv_ok h
      have hP : va_P D classes (wX5 a cI cC cO M6) H := by rw [← e7]; exact hP
      have hD : va_D A (wX5 a cI cC cO M6) := by rw [← e7]; exact hD
      refine lv_aload_n hx hb dX5_type_37 rfl (lv_at hl 0 rfl) ?_
      refine lv_dup hx hb dX5_type_38 rfl ?_
      refine va_get (D := D) (ci := 5) (v := .int (M6 12 1)) (C := RX5) (T := TX5) (N := 23) hx hb ht i_X5 hown hK hP 0 rfl rfl 6 (by decide) (ht _ wd_542) (fun _ h9 => h9) rfl dX5_type_39 ?_
      refine lv_iconst (v := (1 : Int32)) hx hb dX5_type_42 (by decide) ?_
      refine lv_iadd hx hb dX5_type_43 ?_
      refine va_put (D := D) (ci := 5) (v := .int ((M6 12 1) + (1 : Int32))) (ty := .int) (C := RX5) (T := TX5) (N := 23) hx hb ht i_X5 tyX5 tyX5_ok nmX5 hown hK hP hD hS 0 rfl rfl 6 (by decide) (ht _ wd_542) (fun _ h9 => h9) rfl (by decide +kernel) rfl rfl (Nat.le_of_ble_eq_true rfl) dX5_type_44 (fun H locs hP hD hS => ?_)
      obtain ⟨M8, e9, h⟩ := sv_ok h
      have hP : va_P D classes (wX5 a cI cC cO M8) H := by rw [← e9]; exact hP
      have hD : va_D A (wX5 a cI cC cO M8) := by rw [← e9]; exact hD
      refine lv_aload_n hx hb dX5_type_47 rfl (lv_at hl 0 rfl) ?_
      refine va_get (D := D) (ci := 5) (v := .int (M8 12 1)) (C := RX5) (T := TX5) (N := 23) hx hb ht i_X5 hown hK hP 0 rfl rfl 6 (by decide) (ht _ wd_542) (fun _ h9 => h9) rfl dX5_type_48 ?_
      cases h
      exact rt_i hx hb hr hlocks hS hP hK hD dX5_type_51
    · replace h := fp c4 h
      refine lv_ldc hx hb hown (ht _ wd_622) dX5_type_23 ?_
      cases h
      exact rt_i hx hb hr hlocks hS hP hK hD dX5_type_25
  · replace h := fp c3 h
    refine lv_ldc hx hb hown (ht _ wd_613) dX5_type_11 ?_
    cases h
    exact rt_i hx hb hr hlocks hS hP hK hD dX5_type_13
theorem dX5_clearText_0 : decode cX5_clearText 0 = .ok (.aload_n 0, 1) := by decide +kernel
theorem dX5_clearText_1 : decode cX5_clearText 1 = .ok (.getfield 156, 3) := by decide +kernel
theorem dX5_clearText_4 : decode cX5_clearText 4 = .ok (.istore_n 1, 1) := by decide +kernel
theorem dX5_clearText_5 : decode cX5_clearText 5 = .ok (.aload_n 0, 1) := by decide +kernel
theorem dX5_clearText_6 : decode cX5_clearText 6 = .ok (.iconst 0, 1) := by decide +kernel
theorem dX5_clearText_7 : decode cX5_clearText 7 = .ok (.putfield 156, 3) := by decide +kernel
theorem dX5_clearText_10 : decode cX5_clearText 10 = .ok (.iload_n 1, 1) := by decide +kernel
theorem dX5_clearText_11 : decode cX5_clearText 11 = .ok (.ireturn, 1) := by decide +kernel
set_option maxHeartbeats 4000000 in
set_option maxRecDepth 100000 in
theorem c_X5_clearText (l : Launch) (D : va_G) (cI cC cO : ClassId) (a : Nat → Nat) (M : Mm) (res : Int32 × Mm) (sz : Nat) (h : F_X5_clearText M = some res) : Met l yX5_clearText (Cond.code yX5_clearText cX5_clearText 2 (Option.some Jvm.ClassFile.FieldType.int) :: lw_g) ({ frames := 0, cells := 0, slots := 0, locals := 0 } : Room) (va_Pc [.ref (a 0)] (pS D cI cC cO sz (wX5 a cI cC cO M))) (QI D cI cC cO (va_A (wX5 a cI cC cO M) sz) (wX5 a cI cC cO res.2) res.1) 0 0 (va_A (wX5 a cI cC cO M) sz) := by
  refine Met.ofW (cc := cX5_clearText) (maxL := 2) (ret := (Option.some Jvm.ClassFile.FieldType.int)) (by decide) rfl ?_
  intro p e s m args below meth c s₁ B hml hv
  obtain ⟨rfl, rfl, hP, hK, hD0, hN⟩ := hv
  have hx := B.exec
  have hb := B.bytes
  have hr := B.returns
  have ht : ∀ w ∈ lw_g, w.before ([.ref (a 0)] : List Value).toArray s = true := fun w hw => atoms_spec (ws := Cond.code yX5_clearText cX5_clearText 2 (Option.some Jvm.ClassFile.FieldType.int) :: lw_g) B.pre w (List.mem_cons_of_mem _ hw)
  have hown : s.vm.findClass RX5 = some m.cls := findClass_of_methodNamed B.named
  have hlocks := B.notSynchronized
  have hD := hD0.self (sz := s.heap.size)
  generalize hAe : va_A (wX5 a cI cC cO M) s.heap.size = A at hD ⊢
  have hA : ∀ q : Nat, s.heap.size ≤ q → A q := fun q hq => by rw [← hAe]; exact Or.inr hq
  have hS : va_S A s.heap s.heap [] := va_S.rf
  have hl := lv_entry ([.ref (a 0)]) (n := 2) (Nat.le_of_ble_eq_true rfl)
  rw [lg_entry_eq]
  generalize (lg_sl ([.ref (a 0)]) ++ List.replicate (2 - (lg_sl ([.ref (a 0)])).length) Slot.unset).toArray = ls at hl ⊢
  have hl : lv_has ls 2 [(0, .ref (a 0))] := hl
  unfold F_X5_clearText at h
  refine lv_aload_n hx hb dX5_clearText_0 rfl (lv_at hl 0 rfl) ?_
  refine va_get (D := D) (ci := 5) (v := .int (M 12 1)) (C := RX5) (T := TX5) (N := 23) hx hb ht i_X5 hown hK hP 0 rfl rfl 6 (by decide) (ht _ wd_542) (fun _ h9 => h9) rfl dX5_clearText_1 ?_
  refine lv_istore_n (lv' := [(1, .int (M 12 1)), (0, .ref (a 0))]) hx hb dX5_clearText_4 rfl hl (by decide) rfl (fun ls hl => ?_)
  refine lv_aload_n hx hb dX5_clearText_5 rfl (lv_at hl 1 rfl) ?_
  refine lv_iconst (v := (0 : Int32)) hx hb dX5_clearText_6 (by decide) ?_
  refine va_put (D := D) (ci := 5) (v := .int (0 : Int32)) (ty := .int) (C := RX5) (T := TX5) (N := 23) hx hb ht i_X5 tyX5 tyX5_ok nmX5 hown hK hP hD hS 0 rfl rfl 6 (by decide) (ht _ wd_542) (fun _ h9 => h9) rfl (by decide +kernel) rfl rfl (Nat.le_of_ble_eq_true rfl) dX5_clearText_7 (fun H locs hP hD hS => ?_)
  obtain ⟨M1, e2, h⟩ := sv_ok h
  have hP : va_P D classes (wX5 a cI cC cO M1) H := by rw [← e2]; exact hP
  have hD : va_D A (wX5 a cI cC cO M1) := by rw [← e2]; exact hD
  refine lv_iload_n hx hb dX5_clearText_10 rfl (lv_at hl 0 rfl) ?_
  cases h
  exact rt_i hx hb hr hlocks hS hP hK hD dX5_clearText_11
theorem dX5_sign_0 : decode cX5_sign 0 = .ok (.aload_n 0, 1) := by decide +kernel
theorem dX5_sign_1 : decode cX5_sign 1 = .ok (.getfield 160, 3) := by decide +kernel
theorem dX5_sign_4 : decode cX5_sign 4 = .ok (.aload_n 0, 1) := by decide +kernel
theorem dX5_sign_5 : decode cX5_sign 5 = .ok (.getfield 156, 3) := by decide +kernel
theorem dX5_sign_8 : decode cX5_sign 8 = .ok (.if_icmp .ge 15, 3) := by decide +kernel
theorem dX5_sign_11 : decode cX5_sign 11 = .ok (.aload_n 0, 1) := by decide +kernel
theorem dX5_sign_12 : decode cX5_sign 12 = .ok (.getfield 22, 3) := by decide +kernel
theorem dX5_sign_15 : decode cX5_sign 15 = .ok (.aload_n 0, 1) := by decide +kernel
theorem dX5_sign_16 : decode cX5_sign 16 = .ok (.getfield 160, 3) := by decide +kernel
theorem dX5_sign_19 : decode cX5_sign 19 = .ok (.caload, 1) := by decide +kernel
theorem dX5_sign_20 : decode cX5_sign 20 = .ok (.goto 4, 3) := by decide +kernel
theorem dX5_sign_23 : decode cX5_sign 23 = .ok (.iconst (-1), 1) := by decide +kernel
theorem dX5_sign_24 : decode cX5_sign 24 = .ok (.ireturn, 1) := by decide +kernel
set_option maxHeartbeats 4000000 in
set_option maxRecDepth 100000 in
theorem c_X5_sign (l : Launch) (D : va_G) (cI cC cO : ClassId) (a : Nat → Nat) (M : Mm) (res : Int32) (sz : Nat) (h : F_X5_sign M = some res) : Met l yX5_sign (Cond.code yX5_sign cX5_sign 1 (Option.some Jvm.ClassFile.FieldType.int) :: lw_g) ({ frames := 0, cells := 0, slots := 0, locals := 0 } : Room) (va_Pc [.ref (a 0)] (pS D cI cC cO sz (wX5 a cI cC cO M))) (QI D cI cC cO (va_A (wX5 a cI cC cO M) sz) (wX5 a cI cC cO M) res) 0 0 (va_A (wX5 a cI cC cO M) sz) := by
  refine Met.ofW (cc := cX5_sign) (maxL := 1) (ret := (Option.some Jvm.ClassFile.FieldType.int)) (by decide) rfl ?_
  intro p e s m args below meth c s₁ B hml hv
  obtain ⟨rfl, rfl, hP, hK, hD0, hN⟩ := hv
  have hx := B.exec
  have hb := B.bytes
  have hr := B.returns
  have ht : ∀ w ∈ lw_g, w.before ([.ref (a 0)] : List Value).toArray s = true := fun w hw => atoms_spec (ws := Cond.code yX5_sign cX5_sign 1 (Option.some Jvm.ClassFile.FieldType.int) :: lw_g) B.pre w (List.mem_cons_of_mem _ hw)
  have hown : s.vm.findClass RX5 = some m.cls := findClass_of_methodNamed B.named
  have hlocks := B.notSynchronized
  have hD := hD0.self (sz := s.heap.size)
  generalize hAe : va_A (wX5 a cI cC cO M) s.heap.size = A at hD ⊢
  have hA : ∀ q : Nat, s.heap.size ≤ q → A q := fun q hq => by rw [← hAe]; exact Or.inr hq
  have hS : va_S A s.heap s.heap [] := va_S.rf
  have hl := lv_entry ([.ref (a 0)]) (n := 1) (Nat.le_of_ble_eq_true rfl)
  rw [lg_entry_eq]
  generalize (lg_sl ([.ref (a 0)]) ++ List.replicate (1 - (lg_sl ([.ref (a 0)])).length) Slot.unset).toArray = ls at hl ⊢
  have hl : lv_has ls 1 [(0, .ref (a 0))] := hl
  unfold F_X5_sign at h
  refine lv_aload_n hx hb dX5_sign_0 rfl (lv_at hl 0 rfl) ?_
  refine va_get (D := D) (ci := 5) (v := .int (M 12 2)) (C := RX5) (T := TX5) (N := 23) hx hb ht i_X5 hown hK hP 0 rfl rfl 7 (by decide) (ht _ wd_543) (fun _ h9 => h9) rfl dX5_sign_1 ?_
  refine lv_aload_n hx hb dX5_sign_4 rfl (lv_at hl 0 rfl) ?_
  refine va_get (D := D) (ci := 5) (v := .int (M 12 1)) (C := RX5) (T := TX5) (N := 23) hx hb ht i_X5 hown hK hP 0 rfl rfl 6 (by decide) (ht _ wd_542) (fun _ h9 => h9) rfl dX5_sign_5 ?_
  refine lv_icmp_ge (tgt := 23) hx hb dX5_sign_8 (by decide) (fun c1 => ?_) (fun c1 => ?_)
  · replace h := fp c1 h
    refine lv_iconst (v := (-1 : Int32)) hx hb dX5_sign_23 (by decide) ?_
    cases h
    exact rt_i hx hb hr hlocks hS hP hK hD dX5_sign_24
  · replace h := fn c1 h
    refine lv_aload_n hx hb dX5_sign_11 rfl (lv_at hl 0 rfl) ?_
    refine va_get (D := D) (ci := 5) (v := .ref (a 5)) (C := RX5) (T := TX5) (N := 23) hx hb ht i_X5 hown hK hP 0 rfl rfl 5 (by decide) (ht _ wd_541) (fun _ h9 => h9) rfl dX5_sign_12 ?_
    refine lv_aload_n hx hb dX5_sign_15 rfl (lv_at hl 0 rfl) ?_
    refine va_get (D := D) (ci := 5) (v := .int (M 12 2)) (C := RX5) (T := TX5) (N := 23) hx hb ht i_X5 hown hK hP 0 rfl rfl 7 (by decide) (ht _ wd_543) (fun _ h9 => h9) rfl dX5_sign_16 ?_
    obtain ⟨i2, h⟩ := ck_ok h
    refine va_cald hx hb hK hP 5 1 rfl rfl i2 dX5_sign_19 ?_
    refine lv_goto (tgt := 24) hx hb dX5_sign_20 (by decide) ?_
    cases h
    exact rt_i hx hb hr hlocks hS hP hK hD dX5_sign_24
theorem dX5_readsNumber_0 : decode cX5_readsNumber 0 = .ok (.aload_n 0, 1) := by decide +kernel
theorem dX5_readsNumber_1 : decode cX5_readsNumber 1 = .ok (.getfield 160, 3) := by decide +kernel
theorem dX5_readsNumber_4 : decode cX5_readsNumber 4 = .ok (.istore_n 2, 1) := by decide +kernel
theorem dX5_readsNumber_5 : decode cX5_readsNumber 5 = .ok (.aload_n 0, 1) := by decide +kernel
theorem dX5_readsNumber_6 : decode cX5_readsNumber 6 = .ok (.getfield 26, 3) := by decide +kernel
theorem dX5_readsNumber_9 : decode cX5_readsNumber 9 = .ok (.iload_n 1, 1) := by decide +kernel
theorem dX5_readsNumber_10 : decode cX5_readsNumber 10 = .ok (.iconst 0, 1) := by decide +kernel
theorem dX5_readsNumber_11 : decode cX5_readsNumber 11 = .ok (.iastore, 1) := by decide +kernel
theorem dX5_readsNumber_12 : decode cX5_readsNumber 12 = .ok (.aload_n 0, 1) := by decide +kernel
theorem dX5_readsNumber_13 : decode cX5_readsNumber 13 = .ok (.invokevirtual 163, 3) := by decide +kernel
theorem dX5_readsNumber_16 : decode cX5_readsNumber 16 = .ok (.bipush 48, 2) := by decide +kernel
theorem dX5_readsNumber_18 : decode cX5_readsNumber 18 = .ok (.bipush 57, 2) := by decide +kernel
theorem dX5_readsNumber_20 : decode cX5_readsNumber 20 = .ok (.invokestatic 63, 3) := by decide +kernel
theorem dX5_readsNumber_23 : decode cX5_readsNumber 23 = .ok (.ifCond .eq 49, 3) := by decide +kernel
theorem dX5_readsNumber_26 : decode cX5_readsNumber 26 = .ok (.aload_n 0, 1) := by decide +kernel
theorem dX5_readsNumber_27 : decode cX5_readsNumber 27 = .ok (.getfield 160, 3) := by decide +kernel
theorem dX5_readsNumber_30 : decode cX5_readsNumber 30 = .ok (.iload_n 2, 1) := by decide +kernel
theorem dX5_readsNumber_31 : decode cX5_readsNumber 31 = .ok (.iconst 2, 1) := by decide +kernel
theorem dX5_readsNumber_32 : decode cX5_readsNumber 32 = .ok (.iadd, 1) := by decide +kernel
theorem dX5_readsNumber_33 : decode cX5_readsNumber 33 = .ok (.if_icmp .ge 39, 3) := by decide +kernel
theorem dX5_readsNumber_36 : decode cX5_readsNumber 36 = .ok (.aload_n 0, 1) := by decide +kernel
theorem dX5_readsNumber_37 : decode cX5_readsNumber 37 = .ok (.getfield 26, 3) := by decide +kernel
theorem dX5_readsNumber_40 : decode cX5_readsNumber 40 = .ok (.iload_n 1, 1) := by decide +kernel
theorem dX5_readsNumber_41 : decode cX5_readsNumber 41 = .ok (.bipush 10, 2) := by decide +kernel
theorem dX5_readsNumber_43 : decode cX5_readsNumber 43 = .ok (.aload_n 0, 1) := by decide +kernel
theorem dX5_readsNumber_44 : decode cX5_readsNumber 44 = .ok (.getfield 26, 3) := by decide +kernel
theorem dX5_readsNumber_47 : decode cX5_readsNumber 47 = .ok (.iload_n 1, 1) := by decide +kernel
theorem dX5_readsNumber_48 : decode cX5_readsNumber 48 = .ok (.iaload, 1) := by decide +kernel
theorem dX5_readsNumber_49 : decode cX5_readsNumber 49 = .ok (.imul, 1) := by decide +kernel
theorem dX5_readsNumber_50 : decode cX5_readsNumber 50 = .ok (.aload_n 0, 1) := by decide +kernel
theorem dX5_readsNumber_51 : decode cX5_readsNumber 51 = .ok (.invokevirtual 163, 3) := by decide +kernel
theorem dX5_readsNumber_54 : decode cX5_readsNumber 54 = .ok (.iadd, 1) := by decide +kernel
theorem dX5_readsNumber_55 : decode cX5_readsNumber 55 = .ok (.bipush 48, 2) := by decide +kernel
theorem dX5_readsNumber_57 : decode cX5_readsNumber 57 = .ok (.isub, 1) := by decide +kernel
theorem dX5_readsNumber_58 : decode cX5_readsNumber 58 = .ok (.iastore, 1) := by decide +kernel
theorem dX5_readsNumber_59 : decode cX5_readsNumber 59 = .ok (.aload_n 0, 1) := by decide +kernel
theorem dX5_readsNumber_60 : decode cX5_readsNumber 60 = .ok (.dup, 1) := by decide +kernel
theorem dX5_readsNumber_61 : decode cX5_readsNumber 61 = .ok (.getfield 160, 3) := by decide +kernel
theorem dX5_readsNumber_64 : decode cX5_readsNumber 64 = .ok (.iconst 1, 1) := by decide +kernel
theorem dX5_readsNumber_65 : decode cX5_readsNumber 65 = .ok (.iadd, 1) := by decide +kernel
theorem dX5_readsNumber_66 : decode cX5_readsNumber 66 = .ok (.putfield 160, 3) := by decide +kernel
theorem dX5_readsNumber_69 : decode cX5_readsNumber 69 = .ok (.goto (-57), 3) := by decide +kernel
theorem dX5_readsNumber_72 : decode cX5_readsNumber 72 = .ok (.aload_n 0, 1) := by decide +kernel
theorem dX5_readsNumber_73 : decode cX5_readsNumber 73 = .ok (.getfield 160, 3) := by decide +kernel
theorem dX5_readsNumber_76 : decode cX5_readsNumber 76 = .ok (.iload_n 2, 1) := by decide +kernel
theorem dX5_readsNumber_77 : decode cX5_readsNumber 77 = .ok (.if_icmp .le 7, 3) := by decide +kernel
theorem dX5_readsNumber_80 : decode cX5_readsNumber 80 = .ok (.iconst 1, 1) := by decide +kernel
theorem dX5_readsNumber_81 : decode cX5_readsNumber 81 = .ok (.goto 4, 3) := by decide +kernel
theorem dX5_readsNumber_84 : decode cX5_readsNumber 84 = .ok (.iconst 0, 1) := by decide +kernel
theorem dX5_readsNumber_85 : decode cX5_readsNumber 85 = .ok (.ireturn, 1) := by decide +kernel
set_option maxHeartbeats 4000000 in
set_option maxRecDepth 100000 in
theorem c_X5_readsNumber (l : Launch) (D : va_G) (cI cC cO : ClassId) (a : Nat → Nat) (M : Mm) (x1 : Int32) (res : Int32 × Mm) (sz : Nat) (h : F_X5_readsNumber M x1 = some res) : Met l yX5_readsNumber (Cond.code yX5_readsNumber cX5_readsNumber 3 (Option.some Jvm.ClassFile.FieldType.boolean) :: lw_g) ({ frames := 1, cells := 0, slots := 0, locals := 22 } : Room) (va_Pc [.ref (a 0), .int x1] (pS D cI cC cO sz (wX5 a cI cC cO M))) (QI D cI cC cO (va_A (wX5 a cI cC cO M) sz) (wX5 a cI cC cO res.2) res.1) 0 0 (va_A (wX5 a cI cC cO M) sz) := by
  refine Met.ofW (cc := cX5_readsNumber) (maxL := 3) (ret := (Option.some Jvm.ClassFile.FieldType.boolean)) (by decide) rfl ?_
  intro p e s m args below meth c s₁ B hml hv
  obtain ⟨rfl, rfl, hP, hK, hD0, hN⟩ := hv
  have hx := B.exec
  have hb := B.bytes
  have hr := B.returns
  have ht : ∀ w ∈ lw_g, w.before ([.ref (a 0), .int x1] : List Value).toArray s = true := fun w hw => atoms_spec (ws := Cond.code yX5_readsNumber cX5_readsNumber 3 (Option.some Jvm.ClassFile.FieldType.boolean) :: lw_g) B.pre w (List.mem_cons_of_mem _ hw)
  have hown : s.vm.findClass RX5 = some m.cls := findClass_of_methodNamed B.named
  have hlocks := B.notSynchronized
  have hD := hD0.self (sz := s.heap.size)
  generalize hAe : va_A (wX5 a cI cC cO M) s.heap.size = A at hD ⊢
  have hA : ∀ q : Nat, s.heap.size ≤ q → A q := fun q hq => by rw [← hAe]; exact Or.inr hq
  have hS : va_S A s.heap s.heap [] := va_S.rf
  have hl := lv_entry ([.ref (a 0), .int x1]) (n := 3) (Nat.le_of_ble_eq_true rfl)
  rw [lg_entry_eq]
  generalize (lg_sl ([.ref (a 0), .int x1]) ++ List.replicate (3 - (lg_sl ([.ref (a 0), .int x1])).length) Slot.unset).toArray = ls at hl ⊢
  have hl : lv_has ls 3 [(0, .ref (a 0)), (1, .int x1)] := hl
  have w72 : ∀ (M : Mm) (y2 : Int32) (H : Heap) (locs : List Loc) (ls : Array Slot), F_X5_readsNumber_72 M y2 = some res → va_P D classes (wX5 a cI cC cO M) H → va_D A (wX5 a cI cC cO M) → va_S A s.heap H locs → lv_has ls 3 [(0, .ref (a 0)), (2, .int y2)] → W p l e ({ frames := 1, cells := 0, slots := 0, locals := 22 } : Room) s m ([.ref (a 0), .int x1] : List Value).toArray below meth c H locs 0 0 (MQ below (QI D cI cC cO A (wX5 a cI cC cO res.2) res.1) ([.ref (a 0), .int x1] : List Value).toArray s 0 0 A) (F0 m 72 ls []) := by
    intro M y2 H locs ls h hP hD hS hl
    unfold F_X5_readsNumber_72 at h
    refine lv_aload_n hx hb dX5_readsNumber_72 rfl (lv_at hl 0 rfl) ?_
    refine va_get (D := D) (ci := 5) (v := .int (M 12 2)) (C := RX5) (T := TX5) (N := 23) hx hb ht i_X5 hown hK hP 0 rfl rfl 7 (by decide) (ht _ wd_543) (fun _ h9 => h9) rfl dX5_readsNumber_73 ?_
    refine lv_iload_n hx hb dX5_readsNumber_76 rfl (lv_at hl 1 rfl) ?_
    refine lv_icmp_le (tgt := 84) hx hb dX5_readsNumber_77 (by decide) (fun c1 => ?_) (fun c1 => ?_)
    · replace h := fp c1 h
      refine lv_iconst (v := (0 : Int32)) hx hb dX5_readsNumber_84 (by decide) ?_
      cases h
      exact rt_z (v := (0 : Int32)) hx hb hr rfl hlocks hS hP hK hD dX5_readsNumber_85
    · replace h := fn c1 h
      refine lv_iconst (v := (1 : Int32)) hx hb dX5_readsNumber_80 (by decide) ?_
      refine lv_goto (tgt := 85) hx hb dX5_readsNumber_81 (by decide) ?_
      cases h
      exact rt_z (v := (1 : Int32)) hx hb hr rfl hlocks hS hP hK hD dX5_readsNumber_85
  have w12 : ∀ (n12 : Nat) (M : Mm) (y1 y2 : Int32) (H : Heap) (locs : List Loc) (ls : Array Slot), F_X5_readsNumber_12 n12 M y1 y2 = some res → va_P D classes (wX5 a cI cC cO M) H → va_D A (wX5 a cI cC cO M) → va_S A s.heap H locs → lv_has ls 3 [(0, .ref (a 0)), (1, .int y1), (2, .int y2)] → W p l e ({ frames := 1, cells := 0, slots := 0, locals := 22 } : Room) s m ([.ref (a 0), .int x1] : List Value).toArray below meth c H locs 0 0 (MQ below (QI D cI cC cO A (wX5 a cI cC cO res.2) res.1) ([.ref (a 0), .int x1] : List Value).toArray s 0 0 A) (F0 m 12 ls []) := by
    intro n12
    induction n12 with
    | zero => intro M y1 y2 H locs ls h hP hD hS hl; exact absurd (show (none : Option (Int32 × Mm)) = some res from h) (by simp)
    | succ n12 ih12 =>
      intro M y1 y2 H locs ls h hP hD hS hl
      have h : F_X5_readsNumberB_12 (F_X5_readsNumber_12 n12) M y1 y2 = some res := h
      unfold F_X5_readsNumberB_12 at h
      refine lv_aload_n hx hb dX5_readsNumber_12 rfl (lv_at hl 0 rfl) ?_
      obtain ⟨u1, e2, h⟩ := b1_ok h
      refine cl_Vi (ws' := (wX5 a cI cC cO M)) ⟨hx, hb, hml, hown, ht⟩ (c_X5_sign l D cI cC cO a M _ _ e2) (cwv 0 ht wd_801 wd_6 wd_798 wd_800 ws_44 (by decide +kernel) rfl rfl ⟨Nat.le_of_ble_eq_true rfl, Nat.le_of_ble_eq_true rfl⟩) 5 0 rfl rfl rfl hK hP hD hS hA hN [0, 1, 2, 3, 4, 5, 6, 7, 8, 9, 10, 11, 12] [] [0, 1, 2, 3, 4, 5, 6, 7, 8, 9, 10, 11, 12] (by decide) rfl rfl (by decide) (by decide) rfl (by decide) rfl hl.1 rfl (Nat.le_of_ble_eq_true rfl) dX5_readsNumber_13 ⟨Nat.le_of_ble_eq_true rfl, Nat.le_of_ble_eq_true rfl⟩ (fun H locs hP hD hS => ?_)
      refine lv_bipush (v := (48 : Int32)) hx hb dX5_readsNumber_16 (by decide) ?_
      refine lv_bipush (v := (57 : Int32)) hx hb dX5_readsNumber_18 (by decide) ?_
      obtain ⟨u3, e4, h⟩ := b1_ok h
      refine cl_Si (ws' := (wX5 a cI cC cO M)) ⟨hx, hb, hml, hown, ht⟩ (c_X5_in l D cI cC cO u1 (48 : Int32) (57 : Int32) _ _ e4) (cwst 3 ht wd_612 wd_6 wd_610 wd_611 (by decide +kernel) rfl rfl ⟨Nat.le_of_ble_eq_true rfl, Nat.le_of_ble_eq_true rfl⟩) hK hP hD hS hA hN [] [0, 1, 2, 3, 4, 5, 6, 7, 8, 9, 10, 11, 12] [0, 1, 2, 3, 4, 5, 6, 7, 8, 9, 10, 11, 12] (by decide) rfl rfl (by decide) (by decide) rfl (by decide) rfl hl.1 rfl (Nat.le_of_ble_eq_true rfl) dX5_readsNumber_20 ⟨Nat.le_of_ble_eq_true rfl, Nat.le_of_ble_eq_true rfl⟩ (fun H locs hP hD hS => ?_)
      refine lv_if_eq (tgt := 72) hx hb dX5_readsNumber_23 (by decide) (fun c5 => ?_) (fun c5 => ?_)
      · replace h := fp c5 h
        exact w72 M y2 _ _ ls h hP hD hS (lv_sub hl [0, 2] rfl)
      · replace h := fn c5 h
        refine lv_aload_n hx hb dX5_readsNumber_26 rfl (lv_at hl 0 rfl) ?_
        refine va_get (D := D) (ci := 5) (v := .int (M 12 2)) (C := RX5) (T := TX5) (N := 23) hx hb ht i_X5 hown hK hP 0 rfl rfl 7 (by decide) (ht _ wd_543) (fun _ h9 => h9) rfl dX5_readsNumber_27 ?_
        refine lv_iload_n hx hb dX5_readsNumber_30 rfl (lv_at hl 2 rfl) ?_
        refine lv_iconst (v := (2 : Int32)) hx hb dX5_readsNumber_31 (by decide) ?_
        refine lv_iadd hx hb dX5_readsNumber_32 ?_
        refine lv_icmp_ge (tgt := 72) hx hb dX5_readsNumber_33 (by decide) (fun c6 => ?_) (fun c6 => ?_)
        · replace h := fp c6 h
          exact w72 M y2 _ _ ls h hP hD hS (lv_sub hl [0, 2] rfl)
        · replace h := fn c6 h
          refine lv_aload_n hx hb dX5_readsNumber_36 rfl (lv_at hl 0 rfl) ?_
          refine va_get (D := D) (ci := 5) (v := .ref (a 6)) (C := RX5) (T := TX5) (N := 23) hx hb ht i_X5 hown hK hP 0 rfl rfl 10 (by decide) (ht _ wd_546) (fun _ h9 => h9) rfl dX5_readsNumber_37 ?_
          refine lv_iload_n hx hb dX5_readsNumber_40 rfl (lv_at hl 1 rfl) ?_
          refine lv_bipush (v := (10 : Int32)) hx hb dX5_readsNumber_41 (by decide) ?_
          refine lv_aload_n hx hb dX5_readsNumber_43 rfl (lv_at hl 0 rfl) ?_
          refine va_get (D := D) (ci := 5) (v := .ref (a 6)) (C := RX5) (T := TX5) (N := 23) hx hb ht i_X5 hown hK hP 0 rfl rfl 10 (by decide) (ht _ wd_546) (fun _ h9 => h9) rfl dX5_readsNumber_44 ?_
          refine lv_iload_n hx hb dX5_readsNumber_47 rfl (lv_at hl 1 rfl) ?_
          obtain ⟨i7, h⟩ := ck_ok h
          refine va_iald hx hb hK hP 6 0 rfl rfl i7 dX5_readsNumber_48 ?_
          refine lv_imul hx hb dX5_readsNumber_49 ?_
          refine lv_aload_n hx hb dX5_readsNumber_50 rfl (lv_at hl 0 rfl) ?_
          obtain ⟨u8, e9, h⟩ := b1_ok h
          refine cl_Vi (ws' := (wX5 a cI cC cO M)) ⟨hx, hb, hml, hown, ht⟩ (c_X5_sign l D cI cC cO a M _ _ e9) (cwv 0 ht wd_801 wd_6 wd_798 wd_800 ws_44 (by decide +kernel) rfl rfl ⟨Nat.le_of_ble_eq_true rfl, Nat.le_of_ble_eq_true rfl⟩) 5 0 rfl rfl rfl hK hP hD hS hA hN [0, 1, 2, 3, 4, 5, 6, 7, 8, 9, 10, 11, 12] [] [0, 1, 2, 3, 4, 5, 6, 7, 8, 9, 10, 11, 12] (by decide) rfl rfl (by decide) (by decide) rfl (by decide) rfl hl.1 rfl (Nat.le_of_ble_eq_true rfl) dX5_readsNumber_51 ⟨Nat.le_of_ble_eq_true rfl, Nat.le_of_ble_eq_true rfl⟩ (fun H locs hP hD hS => ?_)
          refine lv_iadd hx hb dX5_readsNumber_54 ?_
          refine lv_bipush (v := (48 : Int32)) hx hb dX5_readsNumber_55 (by decide) ?_
          refine lv_isub hx hb dX5_readsNumber_57 ?_
          obtain ⟨i10, h⟩ := ck_ok h
          refine va_iast hx hb hK hP hD hS 6 0 rfl rfl i10 dX5_readsNumber_58 (fun H locs hP hD hS => ?_)
          obtain ⟨M11, e12, h⟩ := sv_ok h
          have hP : va_P D classes (wX5 a cI cC cO M11) H := by rw [← e12]; exact hP
          have hD : va_D A (wX5 a cI cC cO M11) := by rw [← e12]; exact hD
          refine lv_aload_n hx hb dX5_readsNumber_59 rfl (lv_at hl 0 rfl) ?_
          refine lv_dup hx hb dX5_readsNumber_60 rfl ?_
          refine va_get (D := D) (ci := 5) (v := .int (M11 12 2)) (C := RX5) (T := TX5) (N := 23) hx hb ht i_X5 hown hK hP 0 rfl rfl 7 (by decide) (ht _ wd_543) (fun _ h9 => h9) rfl dX5_readsNumber_61 ?_
          refine lv_iconst (v := (1 : Int32)) hx hb dX5_readsNumber_64 (by decide) ?_
          refine lv_iadd hx hb dX5_readsNumber_65 ?_
          refine va_put (D := D) (ci := 5) (v := .int ((M11 12 2) + (1 : Int32))) (ty := .int) (C := RX5) (T := TX5) (N := 23) hx hb ht i_X5 tyX5 tyX5_ok nmX5 hown hK hP hD hS 0 rfl rfl 7 (by decide) (ht _ wd_543) (fun _ h9 => h9) rfl (by decide +kernel) rfl rfl (Nat.le_of_ble_eq_true rfl) dX5_readsNumber_66 (fun H locs hP hD hS => ?_)
          obtain ⟨M13, e14, h⟩ := sv_ok h
          have hP : va_P D classes (wX5 a cI cC cO M13) H := by rw [← e14]; exact hP
          have hD : va_D A (wX5 a cI cC cO M13) := by rw [← e14]; exact hD
          refine lv_goto (tgt := 12) hx hb dX5_readsNumber_69 (by decide) ?_
          exact ih12 M13 y1 y2 _ _ ls h hP hD hS (lv_sub hl [0, 1, 2] rfl)
  unfold F_X5_readsNumber at h
  refine lv_aload_n hx hb dX5_readsNumber_0 rfl (lv_at hl 0 rfl) ?_
  refine va_get (D := D) (ci := 5) (v := .int (M 12 2)) (C := RX5) (T := TX5) (N := 23) hx hb ht i_X5 hown hK hP 0 rfl rfl 7 (by decide) (ht _ wd_543) (fun _ h9 => h9) rfl dX5_readsNumber_1 ?_
  refine lv_istore_n (lv' := [(2, .int (M 12 2)), (0, .ref (a 0)), (1, .int x1)]) hx hb dX5_readsNumber_4 rfl hl (by decide) rfl (fun ls hl => ?_)
  refine lv_aload_n hx hb dX5_readsNumber_5 rfl (lv_at hl 1 rfl) ?_
  refine va_get (D := D) (ci := 5) (v := .ref (a 6)) (C := RX5) (T := TX5) (N := 23) hx hb ht i_X5 hown hK hP 0 rfl rfl 10 (by decide) (ht _ wd_546) (fun _ h9 => h9) rfl dX5_readsNumber_6 ?_
  refine lv_iload_n hx hb dX5_readsNumber_9 rfl (lv_at hl 2 rfl) ?_
  refine lv_iconst (v := (0 : Int32)) hx hb dX5_readsNumber_10 (by decide) ?_
  obtain ⟨i1, h⟩ := ck_ok h
  refine va_iast hx hb hK hP hD hS 6 0 rfl rfl i1 dX5_readsNumber_11 (fun H locs hP hD hS => ?_)
  obtain ⟨M2, e3, h⟩ := sv_ok h
  have hP : va_P D classes (wX5 a cI cC cO M2) H := by rw [← e3]; exact hP
  have hD : va_D A (wX5 a cI cC cO M2) := by rw [← e3]; exact hD
  exact w12 FU M2 x1 (M 12 2) _ _ ls h hP hD hS (lv_sub hl [1, 2, 0] rfl)
theorem dX5_reads_0 : decode cX5_reads 0 = .ok (.iconst 0, 1) := by decide +kernel
theorem dX5_reads_1 : decode cX5_reads 1 = .ok (.istore_n 2, 1) := by decide +kernel
theorem dX5_reads_2 : decode cX5_reads 2 = .ok (.iload_n 2, 1) := by decide +kernel
theorem dX5_reads_3 : decode cX5_reads 3 = .ok (.iload_n 1, 1) := by decide +kernel
theorem dX5_reads_4 : decode cX5_reads 4 = .ok (.if_icmp .ge 44, 3) := by decide +kernel
theorem dX5_reads_7 : decode cX5_reads 7 = .ok (.iload_n 2, 1) := by decide +kernel
theorem dX5_reads_8 : decode cX5_reads 8 = .ok (.ifCond .le 24, 3) := by decide +kernel
theorem dX5_reads_11 : decode cX5_reads 11 = .ok (.aload_n 0, 1) := by decide +kernel
theorem dX5_reads_12 : decode cX5_reads 12 = .ok (.invokevirtual 163, 3) := by decide +kernel
theorem dX5_reads_15 : decode cX5_reads 15 = .ok (.bipush 44, 2) := by decide +kernel
theorem dX5_reads_17 : decode cX5_reads 17 = .ok (.if_icmp .eq 5, 3) := by decide +kernel
theorem dX5_reads_20 : decode cX5_reads 20 = .ok (.iconst 0, 1) := by decide +kernel
theorem dX5_reads_21 : decode cX5_reads 21 = .ok (.ireturn, 1) := by decide +kernel
theorem dX5_reads_22 : decode cX5_reads 22 = .ok (.aload_n 0, 1) := by decide +kernel
theorem dX5_reads_23 : decode cX5_reads 23 = .ok (.dup, 1) := by decide +kernel
theorem dX5_reads_24 : decode cX5_reads 24 = .ok (.getfield 160, 3) := by decide +kernel
theorem dX5_reads_27 : decode cX5_reads 27 = .ok (.iconst 1, 1) := by decide +kernel
theorem dX5_reads_28 : decode cX5_reads 28 = .ok (.iadd, 1) := by decide +kernel
theorem dX5_reads_29 : decode cX5_reads 29 = .ok (.putfield 160, 3) := by decide +kernel
theorem dX5_reads_32 : decode cX5_reads 32 = .ok (.aload_n 0, 1) := by decide +kernel
theorem dX5_reads_33 : decode cX5_reads 33 = .ok (.iload_n 2, 1) := by decide +kernel
theorem dX5_reads_34 : decode cX5_reads 34 = .ok (.invokevirtual 166, 3) := by decide +kernel
theorem dX5_reads_37 : decode cX5_reads 37 = .ok (.ifCond .ne 5, 3) := by decide +kernel
theorem dX5_reads_40 : decode cX5_reads 40 = .ok (.iconst 0, 1) := by decide +kernel
theorem dX5_reads_41 : decode cX5_reads 41 = .ok (.ireturn, 1) := by decide +kernel
theorem dX5_reads_42 : decode cX5_reads 42 = .ok (.iinc 2 1, 3) := by decide +kernel
theorem dX5_reads_45 : decode cX5_reads 45 = .ok (.goto (-43), 3) := by decide +kernel
theorem dX5_reads_48 : decode cX5_reads 48 = .ok (.aload_n 0, 1) := by decide +kernel
theorem dX5_reads_49 : decode cX5_reads 49 = .ok (.invokevirtual 163, 3) := by decide +kernel
theorem dX5_reads_52 : decode cX5_reads 52 = .ok (.bipush 59, 2) := by decide +kernel
theorem dX5_reads_54 : decode cX5_reads 54 = .ok (.if_icmp .ne 7, 3) := by decide +kernel
theorem dX5_reads_57 : decode cX5_reads 57 = .ok (.iconst 1, 1) := by decide +kernel
theorem dX5_reads_58 : decode cX5_reads 58 = .ok (.goto 4, 3) := by decide +kernel
theorem dX5_reads_61 : decode cX5_reads 61 = .ok (.iconst 0, 1) := by decide +kernel
theorem dX5_reads_62 : decode cX5_reads 62 = .ok (.istore_n 2, 1) := by decide +kernel
theorem dX5_reads_63 : decode cX5_reads 63 = .ok (.aload_n 0, 1) := by decide +kernel
theorem dX5_reads_64 : decode cX5_reads 64 = .ok (.dup, 1) := by decide +kernel
theorem dX5_reads_65 : decode cX5_reads 65 = .ok (.getfield 160, 3) := by decide +kernel
theorem dX5_reads_68 : decode cX5_reads 68 = .ok (.iload_n 2, 1) := by decide +kernel
theorem dX5_reads_69 : decode cX5_reads 69 = .ok (.ifCond .eq 7, 3) := by decide +kernel
theorem dX5_reads_72 : decode cX5_reads 72 = .ok (.iconst 1, 1) := by decide +kernel
theorem dX5_reads_73 : decode cX5_reads 73 = .ok (.goto 4, 3) := by decide +kernel
theorem dX5_reads_76 : decode cX5_reads 76 = .ok (.iconst 0, 1) := by decide +kernel
theorem dX5_reads_77 : decode cX5_reads 77 = .ok (.iadd, 1) := by decide +kernel
theorem dX5_reads_78 : decode cX5_reads 78 = .ok (.putfield 160, 3) := by decide +kernel
theorem dX5_reads_81 : decode cX5_reads 81 = .ok (.iload_n 2, 1) := by decide +kernel
theorem dX5_reads_82 : decode cX5_reads 82 = .ok (.ireturn, 1) := by decide +kernel
set_option maxHeartbeats 4000000 in
set_option maxRecDepth 100000 in
theorem c_X5_reads (l : Launch) (D : va_G) (cI cC cO : ClassId) (a : Nat → Nat) (M : Mm) (x1 : Int32) (res : Int32 × Mm) (sz : Nat) (h : F_X5_reads M x1 = some res) : Met l yX5_reads (Cond.code yX5_reads cX5_reads 3 (Option.some Jvm.ClassFile.FieldType.boolean) :: lw_g) ({ frames := 2, cells := 0, slots := 0, locals := 44 } : Room) (va_Pc [.ref (a 0), .int x1] (pS D cI cC cO sz (wX5 a cI cC cO M))) (QI D cI cC cO (va_A (wX5 a cI cC cO M) sz) (wX5 a cI cC cO res.2) res.1) 0 0 (va_A (wX5 a cI cC cO M) sz) := by
  refine Met.ofW (cc := cX5_reads) (maxL := 3) (ret := (Option.some Jvm.ClassFile.FieldType.boolean)) (by decide) rfl ?_
  intro p e s m args below meth c s₁ B hml hv
  obtain ⟨rfl, rfl, hP, hK, hD0, hN⟩ := hv
  have hx := B.exec
  have hb := B.bytes
  have hr := B.returns
  have ht : ∀ w ∈ lw_g, w.before ([.ref (a 0), .int x1] : List Value).toArray s = true := fun w hw => atoms_spec (ws := Cond.code yX5_reads cX5_reads 3 (Option.some Jvm.ClassFile.FieldType.boolean) :: lw_g) B.pre w (List.mem_cons_of_mem _ hw)
  have hown : s.vm.findClass RX5 = some m.cls := findClass_of_methodNamed B.named
  have hlocks := B.notSynchronized
  have hD := hD0.self (sz := s.heap.size)
  generalize hAe : va_A (wX5 a cI cC cO M) s.heap.size = A at hD ⊢
  have hA : ∀ q : Nat, s.heap.size ≤ q → A q := fun q hq => by rw [← hAe]; exact Or.inr hq
  have hS : va_S A s.heap s.heap [] := va_S.rf
  have hl := lv_entry ([.ref (a 0), .int x1]) (n := 3) (Nat.le_of_ble_eq_true rfl)
  rw [lg_entry_eq]
  generalize (lg_sl ([.ref (a 0), .int x1]) ++ List.replicate (3 - (lg_sl ([.ref (a 0), .int x1])).length) Slot.unset).toArray = ls at hl ⊢
  have hl : lv_has ls 3 [(0, .ref (a 0)), (1, .int x1)] := hl
  have w77 : ∀ (M : Mm) (y2 s0 s1 : Int32) (H : Heap) (locs : List Loc) (ls : Array Slot), F_X5_reads_77 M y2 s0 s1 = some res → va_P D classes (wX5 a cI cC cO M) H → va_D A (wX5 a cI cC cO M) → va_S A s.heap H locs → lv_has ls 3 [(2, .int y2)] → W p l e ({ frames := 2, cells := 0, slots := 0, locals := 44 } : Room) s m ([.ref (a 0), .int x1] : List Value).toArray below meth c H locs 0 0 (MQ below (QI D cI cC cO A (wX5 a cI cC cO res.2) res.1) ([.ref (a 0), .int x1] : List Value).toArray s 0 0 A) (F0 m 77 ls [.int s0, .int s1, .ref (a 0)]) := by
    intro M y2 s0 s1 H locs ls h hP hD hS hl
    unfold F_X5_reads_77 at h
    refine lv_iadd hx hb dX5_reads_77 ?_
    refine va_put (D := D) (ci := 5) (v := .int (s1 + s0)) (ty := .int) (C := RX5) (T := TX5) (N := 23) hx hb ht i_X5 tyX5 tyX5_ok nmX5 hown hK hP hD hS 0 rfl rfl 7 (by decide) (ht _ wd_543) (fun _ h9 => h9) rfl (by decide +kernel) rfl rfl (Nat.le_of_ble_eq_true rfl) dX5_reads_78 (fun H locs hP hD hS => ?_)
    obtain ⟨M1, e2, h⟩ := sv_ok h
    have hP : va_P D classes (wX5 a cI cC cO M1) H := by rw [← e2]; exact hP
    have hD : va_D A (wX5 a cI cC cO M1) := by rw [← e2]; exact hD
    refine lv_iload_n hx hb dX5_reads_81 rfl (lv_at hl 0 rfl) ?_
    obtain ⟨z3, h⟩ := cz_ok h
    cases h
    exact rt_z hx hb hr (nz z3) hlocks hS hP hK hD dX5_reads_82
  have w62 : ∀ (M : Mm) (s0 : Int32) (H : Heap) (locs : List Loc) (ls : Array Slot), F_X5_reads_62 M s0 = some res → va_P D classes (wX5 a cI cC cO M) H → va_D A (wX5 a cI cC cO M) → va_S A s.heap H locs → lv_has ls 3 [(0, .ref (a 0))] → W p l e ({ frames := 2, cells := 0, slots := 0, locals := 44 } : Room) s m ([.ref (a 0), .int x1] : List Value).toArray below meth c H locs 0 0 (MQ below (QI D cI cC cO A (wX5 a cI cC cO res.2) res.1) ([.ref (a 0), .int x1] : List Value).toArray s 0 0 A) (F0 m 62 ls [.int s0]) := by
    intro M s0 H locs ls h hP hD hS hl
    unfold F_X5_reads_62 at h
    refine lv_istore_n (lv' := [(2, .int s0), (0, .ref (a 0))]) hx hb dX5_reads_62 rfl hl (by decide) rfl (fun ls hl => ?_)
    refine lv_aload_n hx hb dX5_reads_63 rfl (lv_at hl 1 rfl) ?_
    refine lv_dup hx hb dX5_reads_64 rfl ?_
    refine va_get (D := D) (ci := 5) (v := .int (M 12 2)) (C := RX5) (T := TX5) (N := 23) hx hb ht i_X5 hown hK hP 0 rfl rfl 7 (by decide) (ht _ wd_543) (fun _ h9 => h9) rfl dX5_reads_65 ?_
    refine lv_iload_n hx hb dX5_reads_68 rfl (lv_at hl 0 rfl) ?_
    refine lv_if_eq (tgt := 76) hx hb dX5_reads_69 (by decide) (fun c1 => ?_) (fun c1 => ?_)
    · replace h := fp c1 h
      refine lv_iconst (v := (0 : Int32)) hx hb dX5_reads_76 (by decide) ?_
      exact w77 M s0 (0 : Int32) (M 12 2) _ _ ls h hP hD hS (lv_sub hl [0] rfl)
    · replace h := fn c1 h
      refine lv_iconst (v := (1 : Int32)) hx hb dX5_reads_72 (by decide) ?_
      refine lv_goto (tgt := 77) hx hb dX5_reads_73 (by decide) ?_
      exact w77 M s0 (1 : Int32) (M 12 2) _ _ ls h hP hD hS (lv_sub hl [0] rfl)
  have w2 : ∀ (n2 : Nat) (M : Mm) (y1 y2 : Int32) (H : Heap) (locs : List Loc) (ls : Array Slot), F_X5_reads_2 n2 M y1 y2 = some res → va_P D classes (wX5 a cI cC cO M) H → va_D A (wX5 a cI cC cO M) → va_S A s.heap H locs → lv_has ls 3 [(0, .ref (a 0)), (1, .int y1), (2, .int y2)] → W p l e ({ frames := 2, cells := 0, slots := 0, locals := 44 } : Room) s m ([.ref (a 0), .int x1] : List Value).toArray below meth c H locs 0 0 (MQ below (QI D cI cC cO A (wX5 a cI cC cO res.2) res.1) ([.ref (a 0), .int x1] : List Value).toArray s 0 0 A) (F0 m 2 ls []) := by
    intro n2
    induction n2 with
    | zero => intro M y1 y2 H locs ls h hP hD hS hl; exact absurd (show (none : Option (Int32 × Mm)) = some res from h) (by simp)
    | succ n2 ih2 =>
      have w32 : ∀ (M : Mm) (y1 y2 : Int32) (H : Heap) (locs : List Loc) (ls : Array Slot), F_X5_reads_32 (F_X5_reads_2 n2) M y1 y2 = some res → va_P D classes (wX5 a cI cC cO M) H → va_D A (wX5 a cI cC cO M) → va_S A s.heap H locs → lv_has ls 3 [(0, .ref (a 0)), (1, .int y1), (2, .int y2)] → W p l e ({ frames := 2, cells := 0, slots := 0, locals := 44 } : Room) s m ([.ref (a 0), .int x1] : List Value).toArray below meth c H locs 0 0 (MQ below (QI D cI cC cO A (wX5 a cI cC cO res.2) res.1) ([.ref (a 0), .int x1] : List Value).toArray s 0 0 A) (F0 m 32 ls []) := by
        intro M y1 y2 H locs ls h hP hD hS hl
        unfold F_X5_reads_32 at h
        refine lv_aload_n hx hb dX5_reads_32 rfl (lv_at hl 0 rfl) ?_
        refine lv_iload_n hx hb dX5_reads_33 rfl (lv_at hl 2 rfl) ?_
        obtain ⟨u1, M2, e3, h⟩ := b2_ok h
        refine cl_Vi (ws' := (wX5 a cI cC cO M2)) ⟨hx, hb, hml, hown, ht⟩ (c_X5_readsNumber l D cI cC cO a M y2 _ _ e3) (cwv 1 ht wd_809 wd_6 wd_806 wd_808 ws_46 (by decide +kernel) rfl rfl ⟨Nat.le_of_ble_eq_true rfl, Nat.le_of_ble_eq_true rfl⟩) 5 0 rfl rfl rfl hK hP hD hS hA hN [0, 1, 2, 3, 4, 5, 6, 7, 8, 9, 10, 11, 12] [] [0, 1, 2, 3, 4, 5, 6, 7, 8, 9, 10, 11, 12] (by decide) rfl rfl (by decide) (by decide) rfl (by decide) rfl hl.1 rfl (Nat.le_of_ble_eq_true rfl) dX5_reads_34 ⟨Nat.le_of_ble_eq_true rfl, Nat.le_of_ble_eq_true rfl⟩ (fun H locs hP hD hS => ?_)
        refine lv_if_ne (tgt := 42) hx hb dX5_reads_37 (by decide) (fun c4 => ?_) (fun c4 => ?_)
        · replace h := fn c4 h
          refine lv_iinc (v := (y2 + 1)) (lv' := [(2, .int (y2 + 1)), (0, .ref (a 0)), (1, .int y1)]) hx hb dX5_reads_42 hl (k := 2) rfl rfl (by decide) rfl (fun ls hl => ?_)
          refine lv_goto (tgt := 2) hx hb dX5_reads_45 (by decide) ?_
          exact ih2 M2 y1 (y2 + 1) _ _ ls h hP hD hS (lv_sub hl [1, 2, 0] rfl)
        · replace h := fp c4 h
          refine lv_iconst (v := (0 : Int32)) hx hb dX5_reads_40 (by decide) ?_
          cases h
          exact rt_z (v := (0 : Int32)) hx hb hr rfl hlocks hS hP hK hD dX5_reads_41
      intro M y1 y2 H locs ls h hP hD hS hl
      have h : F_X5_readsB_2 (F_X5_reads_2 n2) M y1 y2 = some res := h
      unfold F_X5_readsB_2 at h
      refine lv_iload_n hx hb dX5_reads_2 rfl (lv_at hl 2 rfl) ?_
      refine lv_iload_n hx hb dX5_reads_3 rfl (lv_at hl 1 rfl) ?_
      refine lv_icmp_ge (tgt := 48) hx hb dX5_reads_4 (by decide) (fun c1 => ?_) (fun c1 => ?_)
      · replace h := fp c1 h
        refine lv_aload_n hx hb dX5_reads_48 rfl (lv_at hl 0 rfl) ?_
        obtain ⟨u2, e3, h⟩ := b1_ok h
        refine cl_Vi (ws' := (wX5 a cI cC cO M)) ⟨hx, hb, hml, hown, ht⟩ (c_X5_sign l D cI cC cO a M _ _ e3) (cwv 0 ht wd_801 wd_6 wd_798 wd_800 ws_44 (by decide +kernel) rfl rfl ⟨Nat.le_of_ble_eq_true rfl, Nat.le_of_ble_eq_true rfl⟩) 5 0 rfl rfl rfl hK hP hD hS hA hN [0, 1, 2, 3, 4, 5, 6, 7, 8, 9, 10, 11, 12] [] [0, 1, 2, 3, 4, 5, 6, 7, 8, 9, 10, 11, 12] (by decide) rfl rfl (by decide) (by decide) rfl (by decide) rfl hl.1 rfl (Nat.le_of_ble_eq_true rfl) dX5_reads_49 ⟨Nat.le_of_ble_eq_true rfl, Nat.le_of_ble_eq_true rfl⟩ (fun H locs hP hD hS => ?_)
        refine lv_bipush (v := (59 : Int32)) hx hb dX5_reads_52 (by decide) ?_
        refine lv_icmp_ne (tgt := 61) hx hb dX5_reads_54 (by decide) (fun c4 => ?_) (fun c4 => ?_)
        · replace h := fn c4 h
          refine lv_iconst (v := (0 : Int32)) hx hb dX5_reads_61 (by decide) ?_
          exact w62 M (0 : Int32) _ _ ls h hP hD hS (lv_sub hl [0] rfl)
        · replace h := fp c4 h
          refine lv_iconst (v := (1 : Int32)) hx hb dX5_reads_57 (by decide) ?_
          refine lv_goto (tgt := 62) hx hb dX5_reads_58 (by decide) ?_
          exact w62 M (1 : Int32) _ _ ls h hP hD hS (lv_sub hl [0] rfl)
      · replace h := fn c1 h
        refine lv_iload_n hx hb dX5_reads_7 rfl (lv_at hl 2 rfl) ?_
        refine lv_if_le (tgt := 32) hx hb dX5_reads_8 (by decide) (fun c5 => ?_) (fun c5 => ?_)
        · replace h := fp c5 h
          exact w32 M y1 y2 _ _ ls h hP hD hS (lv_sub hl [0, 1, 2] rfl)
        · replace h := fn c5 h
          refine lv_aload_n hx hb dX5_reads_11 rfl (lv_at hl 0 rfl) ?_
          obtain ⟨u6, e7, h⟩ := b1_ok h
          refine cl_Vi (ws' := (wX5 a cI cC cO M)) ⟨hx, hb, hml, hown, ht⟩ (c_X5_sign l D cI cC cO a M _ _ e7) (cwv 0 ht wd_801 wd_6 wd_798 wd_800 ws_44 (by decide +kernel) rfl rfl ⟨Nat.le_of_ble_eq_true rfl, Nat.le_of_ble_eq_true rfl⟩) 5 0 rfl rfl rfl hK hP hD hS hA hN [0, 1, 2, 3, 4, 5, 6, 7, 8, 9, 10, 11, 12] [] [0, 1, 2, 3, 4, 5, 6, 7, 8, 9, 10, 11, 12] (by decide) rfl rfl (by decide) (by decide) rfl (by decide) rfl hl.1 rfl (Nat.le_of_ble_eq_true rfl) dX5_reads_12 ⟨Nat.le_of_ble_eq_true rfl, Nat.le_of_ble_eq_true rfl⟩ (fun H locs hP hD hS => ?_)
          refine lv_bipush (v := (44 : Int32)) hx hb dX5_reads_15 (by decide) ?_
          refine lv_icmp_eq (tgt := 22) hx hb dX5_reads_17 (by decide) (fun c8 => ?_) (fun c8 => ?_)
          · replace h := fp c8 h
            refine lv_aload_n hx hb dX5_reads_22 rfl (lv_at hl 0 rfl) ?_
            refine lv_dup hx hb dX5_reads_23 rfl ?_
            refine va_get (D := D) (ci := 5) (v := .int (M 12 2)) (C := RX5) (T := TX5) (N := 23) hx hb ht i_X5 hown hK hP 0 rfl rfl 7 (by decide) (ht _ wd_543) (fun _ h9 => h9) rfl dX5_reads_24 ?_
            refine lv_iconst (v := (1 : Int32)) hx hb dX5_reads_27 (by decide) ?_
            refine lv_iadd hx hb dX5_reads_28 ?_
            refine va_put (D := D) (ci := 5) (v := .int ((M 12 2) + (1 : Int32))) (ty := .int) (C := RX5) (T := TX5) (N := 23) hx hb ht i_X5 tyX5 tyX5_ok nmX5 hown hK hP hD hS 0 rfl rfl 7 (by decide) (ht _ wd_543) (fun _ h9 => h9) rfl (by decide +kernel) rfl rfl (Nat.le_of_ble_eq_true rfl) dX5_reads_29 (fun H locs hP hD hS => ?_)
            obtain ⟨M9, e10, h⟩ := sv_ok h
            have hP : va_P D classes (wX5 a cI cC cO M9) H := by rw [← e10]; exact hP
            have hD : va_D A (wX5 a cI cC cO M9) := by rw [← e10]; exact hD
            exact w32 M9 y1 y2 _ _ ls h hP hD hS (lv_sub hl [0, 1, 2] rfl)
          · replace h := fn c8 h
            refine lv_iconst (v := (0 : Int32)) hx hb dX5_reads_20 (by decide) ?_
            cases h
            exact rt_z (v := (0 : Int32)) hx hb hr rfl hlocks hS hP hK hD dX5_reads_21
  unfold F_X5_reads at h
  refine lv_iconst (v := (0 : Int32)) hx hb dX5_reads_0 (by decide) ?_
  refine lv_istore_n (lv' := [(2, .int (0 : Int32)), (0, .ref (a 0)), (1, .int x1)]) hx hb dX5_reads_1 rfl hl (by decide) rfl (fun ls hl => ?_)
  exact w2 FU M x1 (0 : Int32) _ _ ls h hP hD hS (lv_sub hl [1, 2, 0] rfl)
theorem dX5_isRight_0 : decode cX5_isRight 0 = .ok (.aload_n 0, 1) := by decide +kernel
theorem dX5_isRight_1 : decode cX5_isRight 1 = .ok (.getfield 26, 3) := by decide +kernel
theorem dX5_isRight_4 : decode cX5_isRight 4 = .ok (.iload_n 2, 1) := by decide +kernel
theorem dX5_isRight_5 : decode cX5_isRight 5 = .ok (.iaload, 1) := by decide +kernel
theorem dX5_isRight_6 : decode cX5_isRight 6 = .ok (.istore_n 3, 1) := by decide +kernel
theorem dX5_isRight_7 : decode cX5_isRight 7 = .ok (.iload_n 1, 1) := by decide +kernel
theorem dX5_isRight_8 : decode cX5_isRight 8 = .ok (.lookupswitch 133 #[(104, 36), (111, 113), (112, 53)], 36) := by decide +kernel
theorem dX5_isRight_44 : decode cX5_isRight 44 = .ok (.iload_n 3, 1) := by decide +kernel
theorem dX5_isRight_45 : decode cX5_isRight 45 = .ok (.iconst 0, 1) := by decide +kernel
theorem dX5_isRight_46 : decode cX5_isRight 46 = .ok (.iload_n 2, 1) := by decide +kernel
theorem dX5_isRight_47 : decode cX5_isRight 47 = .ok (.ifCond .ne 8, 3) := by decide +kernel
theorem dX5_isRight_50 : decode cX5_isRight 50 = .ok (.bipush 20, 2) := by decide +kernel
theorem dX5_isRight_52 : decode cX5_isRight 52 = .ok (.goto 5, 3) := by decide +kernel
theorem dX5_isRight_55 : decode cX5_isRight 55 = .ok (.bipush 40, 2) := by decide +kernel
theorem dX5_isRight_57 : decode cX5_isRight 57 = .ok (.invokestatic 63, 3) := by decide +kernel
theorem dX5_isRight_60 : decode cX5_isRight 60 = .ok (.ireturn, 1) := by decide +kernel
theorem dX5_isRight_61 : decode cX5_isRight 61 = .ok (.iload_n 2, 1) := by decide +kernel
theorem dX5_isRight_62 : decode cX5_isRight 62 = .ok (.ifCond .ne 11, 3) := by decide +kernel
theorem dX5_isRight_65 : decode cX5_isRight 65 = .ok (.aload_n 0, 1) := by decide +kernel
theorem dX5_isRight_66 : decode cX5_isRight 66 = .ok (.iload_n 3, 1) := by decide +kernel
theorem dX5_isRight_67 : decode cX5_isRight 67 = .ok (.invokevirtual 83, 3) := by decide +kernel
theorem dX5_isRight_70 : decode cX5_isRight 70 = .ok (.goto 50, 3) := by decide +kernel
theorem dX5_isRight_73 : decode cX5_isRight 73 = .ok (.iload_n 2, 1) := by decide +kernel
theorem dX5_isRight_74 : decode cX5_isRight 74 = .ok (.iconst 1, 1) := by decide +kernel
theorem dX5_isRight_75 : decode cX5_isRight 75 = .ok (.if_icmp .ne 29, 3) := by decide +kernel
theorem dX5_isRight_78 : decode cX5_isRight 78 = .ok (.aload_n 0, 1) := by decide +kernel
theorem dX5_isRight_79 : decode cX5_isRight 79 = .ok (.iload_n 3, 1) := by decide +kernel
theorem dX5_isRight_80 : decode cX5_isRight 80 = .ok (.invokevirtual 83, 3) := by decide +kernel
theorem dX5_isRight_83 : decode cX5_isRight 83 = .ok (.ifCond .eq 17, 3) := by decide +kernel
theorem dX5_isRight_86 : decode cX5_isRight 86 = .ok (.iload_n 3, 1) := by decide +kernel
theorem dX5_isRight_87 : decode cX5_isRight 87 = .ok (.aload_n 0, 1) := by decide +kernel
theorem dX5_isRight_88 : decode cX5_isRight 88 = .ok (.getfield 26, 3) := by decide +kernel
theorem dX5_isRight_91 : decode cX5_isRight 91 = .ok (.iconst 0, 1) := by decide +kernel
theorem dX5_isRight_92 : decode cX5_isRight 92 = .ok (.iaload, 1) := by decide +kernel
theorem dX5_isRight_93 : decode cX5_isRight 93 = .ok (.if_icmp .eq 7, 3) := by decide +kernel
theorem dX5_isRight_96 : decode cX5_isRight 96 = .ok (.iconst 1, 1) := by decide +kernel
theorem dX5_isRight_97 : decode cX5_isRight 97 = .ok (.goto 23, 3) := by decide +kernel
theorem dX5_isRight_100 : decode cX5_isRight 100 = .ok (.iconst 0, 1) := by decide +kernel
theorem dX5_isRight_101 : decode cX5_isRight 101 = .ok (.goto 19, 3) := by decide +kernel
theorem dX5_isRight_104 : decode cX5_isRight 104 = .ok (.iload_n 3, 1) := by decide +kernel
theorem dX5_isRight_105 : decode cX5_isRight 105 = .ok (.iconst 1, 1) := by decide +kernel
theorem dX5_isRight_106 : decode cX5_isRight 106 = .ok (.iload_n 2, 1) := by decide +kernel
theorem dX5_isRight_107 : decode cX5_isRight 107 = .ok (.iconst 2, 1) := by decide +kernel
theorem dX5_isRight_108 : decode cX5_isRight 108 = .ok (.if_icmp .ne 7, 3) := by decide +kernel
theorem dX5_isRight_111 : decode cX5_isRight 111 = .ok (.iconst 4, 1) := by decide +kernel
theorem dX5_isRight_112 : decode cX5_isRight 112 = .ok (.goto 5, 3) := by decide +kernel
theorem dX5_isRight_115 : decode cX5_isRight 115 = .ok (.bipush 9, 2) := by decide +kernel
theorem dX5_isRight_117 : decode cX5_isRight 117 = .ok (.invokestatic 63, 3) := by decide +kernel
theorem dX5_isRight_120 : decode cX5_isRight 120 = .ok (.ireturn, 1) := by decide +kernel
theorem dX5_isRight_121 : decode cX5_isRight 121 = .ok (.iload_n 2, 1) := by decide +kernel
theorem dX5_isRight_122 : decode cX5_isRight 122 = .ok (.ifCond .ne 11, 3) := by decide +kernel
theorem dX5_isRight_125 : decode cX5_isRight 125 = .ok (.aload_n 0, 1) := by decide +kernel
theorem dX5_isRight_126 : decode cX5_isRight 126 = .ok (.iload_n 3, 1) := by decide +kernel
theorem dX5_isRight_127 : decode cX5_isRight 127 = .ok (.invokevirtual 91, 3) := by decide +kernel
theorem dX5_isRight_130 : decode cX5_isRight 130 = .ok (.goto 10, 3) := by decide +kernel
theorem dX5_isRight_133 : decode cX5_isRight 133 = .ok (.iload_n 3, 1) := by decide +kernel
theorem dX5_isRight_134 : decode cX5_isRight 134 = .ok (.iconst 0, 1) := by decide +kernel
theorem dX5_isRight_135 : decode cX5_isRight 135 = .ok (.bipush 15, 2) := by decide +kernel
theorem dX5_isRight_137 : decode cX5_isRight 137 = .ok (.invokestatic 63, 3) := by decide +kernel
theorem dX5_isRight_140 : decode cX5_isRight 140 = .ok (.ireturn, 1) := by decide +kernel
theorem dX5_isRight_141 : decode cX5_isRight 141 = .ok (.iload_n 2, 1) := by decide +kernel
theorem dX5_isRight_142 : decode cX5_isRight 142 = .ok (.ifCond .ne 11, 3) := by decide +kernel
theorem dX5_isRight_145 : decode cX5_isRight 145 = .ok (.aload_n 0, 1) := by decide +kernel
theorem dX5_isRight_146 : decode cX5_isRight 146 = .ok (.iload_n 3, 1) := by decide +kernel
theorem dX5_isRight_147 : decode cX5_isRight 147 = .ok (.invokevirtual 83, 3) := by decide +kernel
theorem dX5_isRight_150 : decode cX5_isRight 150 = .ok (.goto 10, 3) := by decide +kernel
theorem dX5_isRight_153 : decode cX5_isRight 153 = .ok (.iload_n 3, 1) := by decide +kernel
theorem dX5_isRight_154 : decode cX5_isRight 154 = .ok (.iconst 0, 1) := by decide +kernel
theorem dX5_isRight_155 : decode cX5_isRight 155 = .ok (.bipush 20, 2) := by decide +kernel
theorem dX5_isRight_157 : decode cX5_isRight 157 = .ok (.invokestatic 63, 3) := by decide +kernel
theorem dX5_isRight_160 : decode cX5_isRight 160 = .ok (.ireturn, 1) := by decide +kernel
set_option maxHeartbeats 4000000 in
set_option maxRecDepth 100000 in
theorem c_X5_isRight (l : Launch) (D : va_G) (cI cC cO : ClassId) (a : Nat → Nat) (M : Mm) (x1 x2 : Int32) (res : Int32) (sz : Nat) (h : F_X5_isRight M x1 x2 = some res) : Met l yX5_isRight (Cond.code yX5_isRight cX5_isRight 4 (Option.some Jvm.ClassFile.FieldType.boolean) :: lw_g) ({ frames := 2, cells := 0, slots := 0, locals := 43 } : Room) (va_Pc [.ref (a 0), .int x1, .int x2] (pS D cI cC cO sz (wX5 a cI cC cO M))) (QI D cI cC cO (va_A (wX5 a cI cC cO M) sz) (wX5 a cI cC cO M) res) 0 0 (va_A (wX5 a cI cC cO M) sz) := by
  refine Met.ofW (cc := cX5_isRight) (maxL := 4) (ret := (Option.some Jvm.ClassFile.FieldType.boolean)) (by decide) rfl ?_
  intro p e s m args below meth c s₁ B hml hv
  obtain ⟨rfl, rfl, hP, hK, hD0, hN⟩ := hv
  have hx := B.exec
  have hb := B.bytes
  have hr := B.returns
  have ht : ∀ w ∈ lw_g, w.before ([.ref (a 0), .int x1, .int x2] : List Value).toArray s = true := fun w hw => atoms_spec (ws := Cond.code yX5_isRight cX5_isRight 4 (Option.some Jvm.ClassFile.FieldType.boolean) :: lw_g) B.pre w (List.mem_cons_of_mem _ hw)
  have hown : s.vm.findClass RX5 = some m.cls := findClass_of_methodNamed B.named
  have hlocks := B.notSynchronized
  have hD := hD0.self (sz := s.heap.size)
  generalize hAe : va_A (wX5 a cI cC cO M) s.heap.size = A at hD ⊢
  have hA : ∀ q : Nat, s.heap.size ≤ q → A q := fun q hq => by rw [← hAe]; exact Or.inr hq
  have hS : va_S A s.heap s.heap [] := va_S.rf
  have hl := lv_entry ([.ref (a 0), .int x1, .int x2]) (n := 4) (Nat.le_of_ble_eq_true rfl)
  rw [lg_entry_eq]
  generalize (lg_sl ([.ref (a 0), .int x1, .int x2]) ++ List.replicate (4 - (lg_sl ([.ref (a 0), .int x1, .int x2])).length) Slot.unset).toArray = ls at hl ⊢
  have hl : lv_has ls 4 [(0, .ref (a 0)), (1, .int x1), (2, .int x2)] := hl
  have w57 : ∀ (s0 s1 s2 : Int32) (H : Heap) (locs : List Loc) (ls : Array Slot), F_X5_isRight_57 M s0 s1 s2 = some res → va_P D classes (wX5 a cI cC cO M) H → va_D A (wX5 a cI cC cO M) → va_S A s.heap H locs → lv_has ls 4 [] → W p l e ({ frames := 2, cells := 0, slots := 0, locals := 43 } : Room) s m ([.ref (a 0), .int x1, .int x2] : List Value).toArray below meth c H locs 0 0 (MQ below (QI D cI cC cO A (wX5 a cI cC cO M) res) ([.ref (a 0), .int x1, .int x2] : List Value).toArray s 0 0 A) (F0 m 57 ls [.int s0, .int s1, .int s2]) := by
    intro s0 s1 s2 H locs ls h hP hD hS hl
    unfold F_X5_isRight_57 at h
    obtain ⟨u1, e2, h⟩ := b1_ok h
    refine cl_Si (ws' := (wX5 a cI cC cO M)) ⟨hx, hb, hml, hown, ht⟩ (c_X5_in l D cI cC cO s2 s1 s0 _ _ e2) (cwst 3 ht wd_612 wd_6 wd_610 wd_611 (by decide +kernel) rfl rfl ⟨Nat.le_of_ble_eq_true rfl, Nat.le_of_ble_eq_true rfl⟩) hK hP hD hS hA hN [] [0, 1, 2, 3, 4, 5, 6, 7, 8, 9, 10, 11, 12] [0, 1, 2, 3, 4, 5, 6, 7, 8, 9, 10, 11, 12] (by decide) rfl rfl (by decide) (by decide) rfl (by decide) rfl hl.1 rfl (Nat.le_of_ble_eq_true rfl) dX5_isRight_57 ⟨Nat.le_of_ble_eq_true rfl, Nat.le_of_ble_eq_true rfl⟩ (fun H locs hP hD hS => ?_)
    obtain ⟨z3, h⟩ := cz_ok h
    cases h
    exact rt_z hx hb hr (nz z3) hlocks hS hP hK hD dX5_isRight_60
  have w117 : ∀ (s0 s1 s2 : Int32) (H : Heap) (locs : List Loc) (ls : Array Slot), F_X5_isRight_117 M s0 s1 s2 = some res → va_P D classes (wX5 a cI cC cO M) H → va_D A (wX5 a cI cC cO M) → va_S A s.heap H locs → lv_has ls 4 [] → W p l e ({ frames := 2, cells := 0, slots := 0, locals := 43 } : Room) s m ([.ref (a 0), .int x1, .int x2] : List Value).toArray below meth c H locs 0 0 (MQ below (QI D cI cC cO A (wX5 a cI cC cO M) res) ([.ref (a 0), .int x1, .int x2] : List Value).toArray s 0 0 A) (F0 m 117 ls [.int s0, .int s1, .int s2]) := by
    intro s0 s1 s2 H locs ls h hP hD hS hl
    unfold F_X5_isRight_117 at h
    obtain ⟨u1, e2, h⟩ := b1_ok h
    refine cl_Si (ws' := (wX5 a cI cC cO M)) ⟨hx, hb, hml, hown, ht⟩ (c_X5_in l D cI cC cO s2 s1 s0 _ _ e2) (cwst 3 ht wd_612 wd_6 wd_610 wd_611 (by decide +kernel) rfl rfl ⟨Nat.le_of_ble_eq_true rfl, Nat.le_of_ble_eq_true rfl⟩) hK hP hD hS hA hN [] [0, 1, 2, 3, 4, 5, 6, 7, 8, 9, 10, 11, 12] [0, 1, 2, 3, 4, 5, 6, 7, 8, 9, 10, 11, 12] (by decide) rfl rfl (by decide) (by decide) rfl (by decide) rfl hl.1 rfl (Nat.le_of_ble_eq_true rfl) dX5_isRight_117 ⟨Nat.le_of_ble_eq_true rfl, Nat.le_of_ble_eq_true rfl⟩ (fun H locs hP hD hS => ?_)
    obtain ⟨z3, h⟩ := cz_ok h
    cases h
    exact rt_z hx hb hr (nz z3) hlocks hS hP hK hD dX5_isRight_120
  unfold F_X5_isRight at h
  refine lv_aload_n hx hb dX5_isRight_0 rfl (lv_at hl 0 rfl) ?_
  refine va_get (D := D) (ci := 5) (v := .ref (a 6)) (C := RX5) (T := TX5) (N := 23) hx hb ht i_X5 hown hK hP 0 rfl rfl 10 (by decide) (ht _ wd_546) (fun _ h9 => h9) rfl dX5_isRight_1 ?_
  refine lv_iload_n hx hb dX5_isRight_4 rfl (lv_at hl 2 rfl) ?_
  obtain ⟨i1, h⟩ := ck_ok h
  refine va_iald hx hb hK hP 6 0 rfl rfl i1 dX5_isRight_5 ?_
  refine lv_istore_n (lv' := [(3, .int (M 5 x2.toNatClampNeg)), (0, .ref (a 0)), (1, .int x1), (2, .int x2)]) hx hb dX5_isRight_6 rfl hl (by decide) rfl (fun ls hl => ?_)
  refine lv_iload_n hx hb dX5_isRight_7 rfl (lv_at hl 2 rfl) ?_
  by_cases c2 : x1 = (104 : Int32)
  · replace h := fp c2 h
    refine lv_lookup (off := 36) (tgt := 44) hx hb dX5_isRight_8 (by decide) (by rw [c2]; decide) (by decide) ?_
    refine lv_iload_n hx hb dX5_isRight_44 rfl (lv_at hl 0 rfl) ?_
    refine lv_iconst (v := (0 : Int32)) hx hb dX5_isRight_45 (by decide) ?_
    refine lv_iload_n hx hb dX5_isRight_46 rfl (lv_at hl 3 rfl) ?_
    refine lv_if_ne (tgt := 55) hx hb dX5_isRight_47 (by decide) (fun c3 => ?_) (fun c3 => ?_)
    · replace h := fn c3 h
      refine lv_bipush (v := (40 : Int32)) hx hb dX5_isRight_55 (by decide) ?_
      exact w57 (40 : Int32) (0 : Int32) (M 5 x2.toNatClampNeg) _ _ ls h hP hD hS (lv_sub hl [] rfl)
    · replace h := fp c3 h
      refine lv_bipush (v := (20 : Int32)) hx hb dX5_isRight_50 (by decide) ?_
      refine lv_goto (tgt := 57) hx hb dX5_isRight_52 (by decide) ?_
      exact w57 (20 : Int32) (0 : Int32) (M 5 x2.toNatClampNeg) _ _ ls h hP hD hS (lv_sub hl [] rfl)
  · replace h := fn c2 h
    by_cases c4 : x1 = (111 : Int32)
    · replace h := fp c4 h
      refine lv_lookup (off := 113) (tgt := 121) hx hb dX5_isRight_8 (by decide) (by rw [c4]; decide) (by decide) ?_
      refine lv_iload_n hx hb dX5_isRight_121 rfl (lv_at hl 3 rfl) ?_
      refine lv_if_ne (tgt := 133) hx hb dX5_isRight_122 (by decide) (fun c5 => ?_) (fun c5 => ?_)
      · replace h := fn c5 h
        refine lv_iload_n hx hb dX5_isRight_133 rfl (lv_at hl 0 rfl) ?_
        refine lv_iconst (v := (0 : Int32)) hx hb dX5_isRight_134 (by decide) ?_
        refine lv_bipush (v := (15 : Int32)) hx hb dX5_isRight_135 (by decide) ?_
        obtain ⟨u6, e7, h⟩ := b1_ok h
        refine cl_Si (ws' := (wX5 a cI cC cO M)) ⟨hx, hb, hml, hown, ht⟩ (c_X5_in l D cI cC cO (M 5 x2.toNatClampNeg) (0 : Int32) (15 : Int32) _ _ e7) (cwst 3 ht wd_612 wd_6 wd_610 wd_611 (by decide +kernel) rfl rfl ⟨Nat.le_of_ble_eq_true rfl, Nat.le_of_ble_eq_true rfl⟩) hK hP hD hS hA hN [] [0, 1, 2, 3, 4, 5, 6, 7, 8, 9, 10, 11, 12] [0, 1, 2, 3, 4, 5, 6, 7, 8, 9, 10, 11, 12] (by decide) rfl rfl (by decide) (by decide) rfl (by decide) rfl hl.1 rfl (Nat.le_of_ble_eq_true rfl) dX5_isRight_137 ⟨Nat.le_of_ble_eq_true rfl, Nat.le_of_ble_eq_true rfl⟩ (fun H locs hP hD hS => ?_)
        obtain ⟨z8, h⟩ := cz_ok h
        cases h
        exact rt_z hx hb hr (nz z8) hlocks hS hP hK hD dX5_isRight_140
      · replace h := fp c5 h
        refine lv_aload_n hx hb dX5_isRight_125 rfl (lv_at hl 1 rfl) ?_
        refine lv_iload_n hx hb dX5_isRight_126 rfl (lv_at hl 0 rfl) ?_
        obtain ⟨u9, e10, h⟩ := b1_ok h
        refine cl_Vi (ws' := (wX5 a cI cC cO M)) ⟨hx, hb, hml, hown, ht⟩ (c_X5_isPipe l D cI cC cO a M (M 5 x2.toNatClampNeg) _ _ e10) (cwv 1 ht wd_646 wd_6 wd_643 wd_645 ws_25 (by decide +kernel) rfl rfl ⟨Nat.le_of_ble_eq_true rfl, Nat.le_of_ble_eq_true rfl⟩) 5 0 rfl rfl rfl hK hP hD hS hA hN [0, 1, 2, 3, 4, 5, 6, 7, 8, 9, 10, 11, 12] [] [0, 1, 2, 3, 4, 5, 6, 7, 8, 9, 10, 11, 12] (by decide) rfl rfl (by decide) (by decide) rfl (by decide) rfl hl.1 rfl (Nat.le_of_ble_eq_true rfl) dX5_isRight_127 ⟨Nat.le_of_ble_eq_true rfl, Nat.le_of_ble_eq_true rfl⟩ (fun H locs hP hD hS => ?_)
        refine lv_goto (tgt := 140) hx hb dX5_isRight_130 (by decide) ?_
        obtain ⟨z11, h⟩ := cz_ok h
        cases h
        exact rt_z hx hb hr (nz z11) hlocks hS hP hK hD dX5_isRight_140
    · replace h := fn c4 h
      by_cases c12 : x1 = (112 : Int32)
      · replace h := fp c12 h
        refine lv_lookup (off := 53) (tgt := 61) hx hb dX5_isRight_8 (by decide) (by rw [c12]; decide) (by decide) ?_
        refine lv_iload_n hx hb dX5_isRight_61 rfl (lv_at hl 3 rfl) ?_
        refine lv_if_ne (tgt := 73) hx hb dX5_isRight_62 (by decide) (fun c13 => ?_) (fun c13 => ?_)
        · replace h := fn c13 h
          refine lv_iload_n hx hb dX5_isRight_73 rfl (lv_at hl 3 rfl) ?_
          refine lv_iconst (v := (1 : Int32)) hx hb dX5_isRight_74 (by decide) ?_
          refine lv_icmp_ne (tgt := 104) hx hb dX5_isRight_75 (by decide) (fun c14 => ?_) (fun c14 => ?_)
          · replace h := fn c14 h
            refine lv_iload_n hx hb dX5_isRight_104 rfl (lv_at hl 0 rfl) ?_
            refine lv_iconst (v := (1 : Int32)) hx hb dX5_isRight_105 (by decide) ?_
            refine lv_iload_n hx hb dX5_isRight_106 rfl (lv_at hl 3 rfl) ?_
            refine lv_iconst (v := (2 : Int32)) hx hb dX5_isRight_107 (by decide) ?_
            refine lv_icmp_ne (tgt := 115) hx hb dX5_isRight_108 (by decide) (fun c15 => ?_) (fun c15 => ?_)
            · replace h := fn c15 h
              refine lv_bipush (v := (9 : Int32)) hx hb dX5_isRight_115 (by decide) ?_
              exact w117 (9 : Int32) (1 : Int32) (M 5 x2.toNatClampNeg) _ _ ls h hP hD hS (lv_sub hl [] rfl)
            · replace h := fp c15 h
              refine lv_iconst (v := (4 : Int32)) hx hb dX5_isRight_111 (by decide) ?_
              refine lv_goto (tgt := 117) hx hb dX5_isRight_112 (by decide) ?_
              exact w117 (4 : Int32) (1 : Int32) (M 5 x2.toNatClampNeg) _ _ ls h hP hD hS (lv_sub hl [] rfl)
          · replace h := fp c14 h
            refine lv_aload_n hx hb dX5_isRight_78 rfl (lv_at hl 1 rfl) ?_
            refine lv_iload_n hx hb dX5_isRight_79 rfl (lv_at hl 0 rfl) ?_
            obtain ⟨u16, e17, h⟩ := b1_ok h
            refine cl_Vi (ws' := (wX5 a cI cC cO M)) ⟨hx, hb, hml, hown, ht⟩ (c_X5_isPlace l D cI cC cO a M (M 5 x2.toNatClampNeg) _ _ e17) (cwv 1 ht wd_634 wd_6 wd_631 wd_633 ws_23 (by decide +kernel) rfl rfl ⟨Nat.le_of_ble_eq_true rfl, Nat.le_of_ble_eq_true rfl⟩) 5 0 rfl rfl rfl hK hP hD hS hA hN [0, 1, 2, 3, 4, 5, 6, 7, 8, 9, 10, 11, 12] [] [0, 1, 2, 3, 4, 5, 6, 7, 8, 9, 10, 11, 12] (by decide) rfl rfl (by decide) (by decide) rfl (by decide) rfl hl.1 rfl (Nat.le_of_ble_eq_true rfl) dX5_isRight_80 ⟨Nat.le_of_ble_eq_true rfl, Nat.le_of_ble_eq_true rfl⟩ (fun H locs hP hD hS => ?_)
            refine lv_if_eq (tgt := 100) hx hb dX5_isRight_83 (by decide) (fun c18 => ?_) (fun c18 => ?_)
            · replace h := fp c18 h
              refine lv_iconst (v := (0 : Int32)) hx hb dX5_isRight_100 (by decide) ?_
              refine lv_goto (tgt := 120) hx hb dX5_isRight_101 (by decide) ?_
              cases h
              exact rt_z (v := (0 : Int32)) hx hb hr rfl hlocks hS hP hK hD dX5_isRight_120
            · replace h := fn c18 h
              refine lv_iload_n hx hb dX5_isRight_86 rfl (lv_at hl 0 rfl) ?_
              refine lv_aload_n hx hb dX5_isRight_87 rfl (lv_at hl 1 rfl) ?_
              refine va_get (D := D) (ci := 5) (v := .ref (a 6)) (C := RX5) (T := TX5) (N := 23) hx hb ht i_X5 hown hK hP 0 rfl rfl 10 (by decide) (ht _ wd_546) (fun _ h9 => h9) rfl dX5_isRight_88 ?_
              refine lv_iconst (v := (0 : Int32)) hx hb dX5_isRight_91 (by decide) ?_
              obtain ⟨i19, h⟩ := ck_ok h
              refine va_iald hx hb hK hP 6 0 rfl rfl i19 dX5_isRight_92 ?_
              refine lv_icmp_eq (tgt := 100) hx hb dX5_isRight_93 (by decide) (fun c20 => ?_) (fun c20 => ?_)
              · replace h := fp c20 h
                refine lv_iconst (v := (0 : Int32)) hx hb dX5_isRight_100 (by decide) ?_
                refine lv_goto (tgt := 120) hx hb dX5_isRight_101 (by decide) ?_
                cases h
                exact rt_z (v := (0 : Int32)) hx hb hr rfl hlocks hS hP hK hD dX5_isRight_120
              · replace h := fn c20 h
                refine lv_iconst (v := (1 : Int32)) hx hb dX5_isRight_96 (by decide) ?_
                refine lv_goto (tgt := 120) hx hb dX5_isRight_97 (by decide) ?_
                cases h
                exact rt_z (v := (1 : Int32)) hx hb hr rfl hlocks hS hP hK hD dX5_isRight_120
        · replace h := fp c13 h
          refine lv_aload_n hx hb dX5_isRight_65 rfl (lv_at hl 1 rfl) ?_
          refine lv_iload_n hx hb dX5_isRight_66 rfl (lv_at hl 0 rfl) ?_
          obtain ⟨u21, e22, h⟩ := b1_ok h
          refine cl_Vi (ws' := (wX5 a cI cC cO M)) ⟨hx, hb, hml, hown, ht⟩ (c_X5_isPlace l D cI cC cO a M (M 5 x2.toNatClampNeg) _ _ e22) (cwv 1 ht wd_634 wd_6 wd_631 wd_633 ws_23 (by decide +kernel) rfl rfl ⟨Nat.le_of_ble_eq_true rfl, Nat.le_of_ble_eq_true rfl⟩) 5 0 rfl rfl rfl hK hP hD hS hA hN [0, 1, 2, 3, 4, 5, 6, 7, 8, 9, 10, 11, 12] [] [0, 1, 2, 3, 4, 5, 6, 7, 8, 9, 10, 11, 12] (by decide) rfl rfl (by decide) (by decide) rfl (by decide) rfl hl.1 rfl (Nat.le_of_ble_eq_true rfl) dX5_isRight_67 ⟨Nat.le_of_ble_eq_true rfl, Nat.le_of_ble_eq_true rfl⟩ (fun H locs hP hD hS => ?_)
          refine lv_goto (tgt := 120) hx hb dX5_isRight_70 (by decide) ?_
          obtain ⟨z23, h⟩ := cz_ok h
          cases h
          exact rt_z hx hb hr (nz z23) hlocks hS hP hK hD dX5_isRight_120
      · replace h := fn c12 h
        refine lv_lookup (off := 133) (tgt := 141) hx hb dX5_isRight_8 (by decide) (by simp only [lookupswitch.offset_cons, lookupswitch.offset_nil, Array.toList]; rw [if_neg (lk_ne (k := 104) (by decide) c2), if_neg (lk_ne (k := 111) (by decide) c4), if_neg (lk_ne (k := 112) (by decide) c12)] <;> rfl) (by decide) ?_
        refine lv_iload_n hx hb dX5_isRight_141 rfl (lv_at hl 3 rfl) ?_
        refine lv_if_ne (tgt := 153) hx hb dX5_isRight_142 (by decide) (fun c24 => ?_) (fun c24 => ?_)
        · replace h := fn c24 h
          refine lv_iload_n hx hb dX5_isRight_153 rfl (lv_at hl 0 rfl) ?_
          refine lv_iconst (v := (0 : Int32)) hx hb dX5_isRight_154 (by decide) ?_
          refine lv_bipush (v := (20 : Int32)) hx hb dX5_isRight_155 (by decide) ?_
          obtain ⟨u25, e26, h⟩ := b1_ok h
          refine cl_Si (ws' := (wX5 a cI cC cO M)) ⟨hx, hb, hml, hown, ht⟩ (c_X5_in l D cI cC cO (M 5 x2.toNatClampNeg) (0 : Int32) (20 : Int32) _ _ e26) (cwst 3 ht wd_612 wd_6 wd_610 wd_611 (by decide +kernel) rfl rfl ⟨Nat.le_of_ble_eq_true rfl, Nat.le_of_ble_eq_true rfl⟩) hK hP hD hS hA hN [] [0, 1, 2, 3, 4, 5, 6, 7, 8, 9, 10, 11, 12] [0, 1, 2, 3, 4, 5, 6, 7, 8, 9, 10, 11, 12] (by decide) rfl rfl (by decide) (by decide) rfl (by decide) rfl hl.1 rfl (Nat.le_of_ble_eq_true rfl) dX5_isRight_157 ⟨Nat.le_of_ble_eq_true rfl, Nat.le_of_ble_eq_true rfl⟩ (fun H locs hP hD hS => ?_)
          obtain ⟨z27, h⟩ := cz_ok h
          cases h
          exact rt_z hx hb hr (nz z27) hlocks hS hP hK hD dX5_isRight_160
        · replace h := fp c24 h
          refine lv_aload_n hx hb dX5_isRight_145 rfl (lv_at hl 1 rfl) ?_
          refine lv_iload_n hx hb dX5_isRight_146 rfl (lv_at hl 0 rfl) ?_
          obtain ⟨u28, e29, h⟩ := b1_ok h
          refine cl_Vi (ws' := (wX5 a cI cC cO M)) ⟨hx, hb, hml, hown, ht⟩ (c_X5_isPlace l D cI cC cO a M (M 5 x2.toNatClampNeg) _ _ e29) (cwv 1 ht wd_634 wd_6 wd_631 wd_633 ws_23 (by decide +kernel) rfl rfl ⟨Nat.le_of_ble_eq_true rfl, Nat.le_of_ble_eq_true rfl⟩) 5 0 rfl rfl rfl hK hP hD hS hA hN [0, 1, 2, 3, 4, 5, 6, 7, 8, 9, 10, 11, 12] [] [0, 1, 2, 3, 4, 5, 6, 7, 8, 9, 10, 11, 12] (by decide) rfl rfl (by decide) (by decide) rfl (by decide) rfl hl.1 rfl (Nat.le_of_ble_eq_true rfl) dX5_isRight_147 ⟨Nat.le_of_ble_eq_true rfl, Nat.le_of_ble_eq_true rfl⟩ (fun H locs hP hD hS => ?_)
          refine lv_goto (tgt := 160) hx hb dX5_isRight_150 (by decide) ?_
          obtain ⟨z30, h⟩ := cz_ok h
          cases h
          exact rt_z hx hb hr (nz z30) hlocks hS hP hK hD dX5_isRight_160
end
section
theorem dX5_does_0 : decode cX5_does 0 = .ok (.iload_n 1, 1) := by decide +kernel
theorem dX5_does_1 : decode cX5_does 1 = .ok (.lookupswitch 104 #[(104, 35), (111, 81), (112, 52)], 35) := by decide +kernel
theorem dX5_does_36 : decode cX5_does 36 = .ok (.aload_n 0, 1) := by decide +kernel
theorem dX5_does_37 : decode cX5_does 37 = .ok (.aload_n 0, 1) := by decide +kernel
theorem dX5_does_38 : decode cX5_does 38 = .ok (.getfield 26, 3) := by decide +kernel
theorem dX5_does_41 : decode cX5_does 41 = .ok (.iconst 0, 1) := by decide +kernel
theorem dX5_does_42 : decode cX5_does 42 = .ok (.iaload, 1) := by decide +kernel
theorem dX5_does_43 : decode cX5_does 43 = .ok (.aload_n 0, 1) := by decide +kernel
theorem dX5_does_44 : decode cX5_does 44 = .ok (.getfield 26, 3) := by decide +kernel
theorem dX5_does_47 : decode cX5_does 47 = .ok (.iconst 1, 1) := by decide +kernel
theorem dX5_does_48 : decode cX5_does 48 = .ok (.iaload, 1) := by decide +kernel
theorem dX5_does_49 : decode cX5_does 49 = .ok (.invokevirtual 75, 3) := by decide +kernel
theorem dX5_does_52 : decode cX5_does 52 = .ok (.ireturn, 1) := by decide +kernel
theorem dX5_does_53 : decode cX5_does 53 = .ok (.aload_n 0, 1) := by decide +kernel
theorem dX5_does_54 : decode cX5_does 54 = .ok (.aload_n 0, 1) := by decide +kernel
theorem dX5_does_55 : decode cX5_does 55 = .ok (.getfield 26, 3) := by decide +kernel
theorem dX5_does_58 : decode cX5_does 58 = .ok (.iconst 0, 1) := by decide +kernel
theorem dX5_does_59 : decode cX5_does 59 = .ok (.iaload, 1) := by decide +kernel
theorem dX5_does_60 : decode cX5_does 60 = .ok (.aload_n 0, 1) := by decide +kernel
theorem dX5_does_61 : decode cX5_does 61 = .ok (.getfield 26, 3) := by decide +kernel
theorem dX5_does_64 : decode cX5_does 64 = .ok (.iconst 1, 1) := by decide +kernel
theorem dX5_does_65 : decode cX5_does 65 = .ok (.iaload, 1) := by decide +kernel
theorem dX5_does_66 : decode cX5_does 66 = .ok (.aload_n 0, 1) := by decide +kernel
theorem dX5_does_67 : decode cX5_does 67 = .ok (.getfield 26, 3) := by decide +kernel
theorem dX5_does_70 : decode cX5_does 70 = .ok (.iconst 2, 1) := by decide +kernel
theorem dX5_does_71 : decode cX5_does 71 = .ok (.iaload, 1) := by decide +kernel
theorem dX5_does_72 : decode cX5_does 72 = .ok (.aload_n 0, 1) := by decide +kernel
theorem dX5_does_73 : decode cX5_does 73 = .ok (.getfield 26, 3) := by decide +kernel
theorem dX5_does_76 : decode cX5_does 76 = .ok (.iconst 3, 1) := by decide +kernel
theorem dX5_does_77 : decode cX5_does 77 = .ok (.iaload, 1) := by decide +kernel
theorem dX5_does_78 : decode cX5_does 78 = .ok (.invokevirtual 87, 3) := by decide +kernel
theorem dX5_does_81 : decode cX5_does 81 = .ok (.ireturn, 1) := by decide +kernel
theorem dX5_does_82 : decode cX5_does 82 = .ok (.aload_n 0, 1) := by decide +kernel
theorem dX5_does_83 : decode cX5_does 83 = .ok (.aload_n 0, 1) := by decide +kernel
theorem dX5_does_84 : decode cX5_does 84 = .ok (.getfield 26, 3) := by decide +kernel
theorem dX5_does_87 : decode cX5_does 87 = .ok (.iconst 0, 1) := by decide +kernel
theorem dX5_does_88 : decode cX5_does 88 = .ok (.iaload, 1) := by decide +kernel
theorem dX5_does_89 : decode cX5_does 89 = .ok (.aload_n 0, 1) := by decide +kernel
theorem dX5_does_90 : decode cX5_does 90 = .ok (.getfield 26, 3) := by decide +kernel
theorem dX5_does_93 : decode cX5_does 93 = .ok (.iconst 1, 1) := by decide +kernel
theorem dX5_does_94 : decode cX5_does 94 = .ok (.iaload, 1) := by decide +kernel
theorem dX5_does_95 : decode cX5_does 95 = .ok (.aload_n 0, 1) := by decide +kernel
theorem dX5_does_96 : decode cX5_does 96 = .ok (.getfield 26, 3) := by decide +kernel
theorem dX5_does_99 : decode cX5_does 99 = .ok (.iconst 2, 1) := by decide +kernel
theorem dX5_does_100 : decode cX5_does 100 = .ok (.iaload, 1) := by decide +kernel
theorem dX5_does_101 : decode cX5_does 101 = .ok (.invokevirtual 94, 3) := by decide +kernel
theorem dX5_does_104 : decode cX5_does 104 = .ok (.ireturn, 1) := by decide +kernel
theorem dX5_does_105 : decode cX5_does 105 = .ok (.aload_n 0, 1) := by decide +kernel
theorem dX5_does_106 : decode cX5_does 106 = .ok (.iconst 2, 1) := by decide +kernel
theorem dX5_does_107 : decode cX5_does 107 = .ok (.iconst 2, 1) := by decide +kernel
theorem dX5_does_108 : decode cX5_does 108 = .ok (.aload_n 0, 1) := by decide +kernel
theorem dX5_does_109 : decode cX5_does 109 = .ok (.getfield 26, 3) := by decide +kernel
theorem dX5_does_112 : decode cX5_does 112 = .ok (.iconst 0, 1) := by decide +kernel
theorem dX5_does_113 : decode cX5_does 113 = .ok (.iaload, 1) := by decide +kernel
theorem dX5_does_114 : decode cX5_does 114 = .ok (.imul, 1) := by decide +kernel
theorem dX5_does_115 : decode cX5_does 115 = .ok (.iadd, 1) := by decide +kernel
theorem dX5_does_116 : decode cX5_does 116 = .ok (.aload_n 0, 1) := by decide +kernel
theorem dX5_does_117 : decode cX5_does 117 = .ok (.getfield 26, 3) := by decide +kernel
theorem dX5_does_120 : decode cX5_does 120 = .ok (.iconst 1, 1) := by decide +kernel
theorem dX5_does_121 : decode cX5_does 121 = .ok (.iaload, 1) := by decide +kernel
theorem dX5_does_122 : decode cX5_does 122 = .ok (.invokevirtual 98, 3) := by decide +kernel
theorem dX5_does_125 : decode cX5_does 125 = .ok (.ireturn, 1) := by decide +kernel
set_option maxHeartbeats 4000000 in
set_option maxRecDepth 100000 in
theorem c_X5_does (l : Launch) (D : va_G) (cI cC cO : ClassId) (a : Nat → Nat) (M : Mm) (x1 : Int32) (res : Int32 × Mm) (sz : Nat) (h : F_X5_does M x1 = some res) : Met l yX5_does (Cond.code yX5_does cX5_does 2 (Option.some Jvm.ClassFile.FieldType.int) :: lw_g) ({ frames := 1, cells := 0, slots := 0, locals := 25 } : Room) (va_Pc [.ref (a 0), .int x1] (pS D cI cC cO sz (wX5 a cI cC cO M))) (QI D cI cC cO (va_A (wX5 a cI cC cO M) sz) (wX5 a cI cC cO res.2) res.1) 0 0 (va_A (wX5 a cI cC cO M) sz) := by
  refine Met.ofW (cc := cX5_does) (maxL := 2) (ret := (Option.some Jvm.ClassFile.FieldType.int)) (by decide) rfl ?_
  intro p e s m args below meth c s₁ B hml hv
  obtain ⟨rfl, rfl, hP, hK, hD0, hN⟩ := hv
  have hx := B.exec
  have hb := B.bytes
  have hr := B.returns
  have ht : ∀ w ∈ lw_g, w.before ([.ref (a 0), .int x1] : List Value).toArray s = true := fun w hw => atoms_spec (ws := Cond.code yX5_does cX5_does 2 (Option.some Jvm.ClassFile.FieldType.int) :: lw_g) B.pre w (List.mem_cons_of_mem _ hw)
  have hown : s.vm.findClass RX5 = some m.cls := findClass_of_methodNamed B.named
  have hlocks := B.notSynchronized
  have hD := hD0.self (sz := s.heap.size)
  generalize hAe : va_A (wX5 a cI cC cO M) s.heap.size = A at hD ⊢
  have hA : ∀ q : Nat, s.heap.size ≤ q → A q := fun q hq => by rw [← hAe]; exact Or.inr hq
  have hS : va_S A s.heap s.heap [] := va_S.rf
  have hl := lv_entry ([.ref (a 0), .int x1]) (n := 2) (Nat.le_of_ble_eq_true rfl)
  rw [lg_entry_eq]
  generalize (lg_sl ([.ref (a 0), .int x1]) ++ List.replicate (2 - (lg_sl ([.ref (a 0), .int x1])).length) Slot.unset).toArray = ls at hl ⊢
  have hl : lv_has ls 2 [(0, .ref (a 0)), (1, .int x1)] := hl
  unfold F_X5_does at h
  refine lv_iload_n hx hb dX5_does_0 rfl (lv_at hl 1 rfl) ?_
  by_cases c1 : x1 = (104 : Int32)
  · replace h := fp c1 h
    refine lv_lookup (off := 35) (tgt := 36) hx hb dX5_does_1 (by decide) (by rw [c1]; decide) (by decide) ?_
    refine lv_aload_n hx hb dX5_does_36 rfl (lv_at hl 0 rfl) ?_
    refine lv_aload_n hx hb dX5_does_37 rfl (lv_at hl 0 rfl) ?_
    refine va_get (D := D) (ci := 5) (v := .ref (a 6)) (C := RX5) (T := TX5) (N := 23) hx hb ht i_X5 hown hK hP 0 rfl rfl 10 (by decide) (ht _ wd_546) (fun _ h9 => h9) rfl dX5_does_38 ?_
    refine lv_iconst (v := (0 : Int32)) hx hb dX5_does_41 (by decide) ?_
    obtain ⟨i2, h⟩ := ck_ok h
    refine va_iald hx hb hK hP 6 0 rfl rfl i2 dX5_does_42 ?_
    refine lv_aload_n hx hb dX5_does_43 rfl (lv_at hl 0 rfl) ?_
    refine va_get (D := D) (ci := 5) (v := .ref (a 6)) (C := RX5) (T := TX5) (N := 23) hx hb ht i_X5 hown hK hP 0 rfl rfl 10 (by decide) (ht _ wd_546) (fun _ h9 => h9) rfl dX5_does_44 ?_
    refine lv_iconst (v := (1 : Int32)) hx hb dX5_does_47 (by decide) ?_
    obtain ⟨i3, h⟩ := ck_ok h
    refine va_iald hx hb hK hP 6 0 rfl rfl i3 dX5_does_48 ?_
    obtain ⟨u4, M5, e6, h⟩ := b2_ok h
    refine cl_Vi (ws' := (wX5 a cI cC cO M5)) ⟨hx, hb, hml, hown, ht⟩ (c_X5_adds l D cI cC cO a M (M 5 (0 : Int32).toNatClampNeg) (M 5 (1 : Int32).toNatClampNeg) _ _ e6) (cwv 2 ht wd_621 wd_6 wd_618 wd_620 ws_21 (by decide +kernel) rfl rfl ⟨Nat.le_of_ble_eq_true rfl, Nat.le_of_ble_eq_true rfl⟩) 5 0 rfl rfl rfl hK hP hD hS hA hN [0, 1, 2, 3, 4, 5, 6, 7, 8, 9, 10, 11, 12] [] [0, 1, 2, 3, 4, 5, 6, 7, 8, 9, 10, 11, 12] (by decide) rfl rfl (by decide) (by decide) rfl (by decide) rfl hl.1 rfl (Nat.le_of_ble_eq_true rfl) dX5_does_49 ⟨Nat.le_of_ble_eq_true rfl, Nat.le_of_ble_eq_true rfl⟩ (fun H locs hP hD hS => ?_)
    cases h
    exact rt_i hx hb hr hlocks hS hP hK hD dX5_does_52
  · replace h := fn c1 h
    by_cases c7 : x1 = (111 : Int32)
    · replace h := fp c7 h
      refine lv_lookup (off := 81) (tgt := 82) hx hb dX5_does_1 (by decide) (by rw [c7]; decide) (by decide) ?_
      refine lv_aload_n hx hb dX5_does_82 rfl (lv_at hl 0 rfl) ?_
      refine lv_aload_n hx hb dX5_does_83 rfl (lv_at hl 0 rfl) ?_
      refine va_get (D := D) (ci := 5) (v := .ref (a 6)) (C := RX5) (T := TX5) (N := 23) hx hb ht i_X5 hown hK hP 0 rfl rfl 10 (by decide) (ht _ wd_546) (fun _ h9 => h9) rfl dX5_does_84 ?_
      refine lv_iconst (v := (0 : Int32)) hx hb dX5_does_87 (by decide) ?_
      obtain ⟨i8, h⟩ := ck_ok h
      refine va_iald hx hb hK hP 6 0 rfl rfl i8 dX5_does_88 ?_
      refine lv_aload_n hx hb dX5_does_89 rfl (lv_at hl 0 rfl) ?_
      refine va_get (D := D) (ci := 5) (v := .ref (a 6)) (C := RX5) (T := TX5) (N := 23) hx hb ht i_X5 hown hK hP 0 rfl rfl 10 (by decide) (ht _ wd_546) (fun _ h9 => h9) rfl dX5_does_90 ?_
      refine lv_iconst (v := (1 : Int32)) hx hb dX5_does_93 (by decide) ?_
      obtain ⟨i9, h⟩ := ck_ok h
      refine va_iald hx hb hK hP 6 0 rfl rfl i9 dX5_does_94 ?_
      refine lv_aload_n hx hb dX5_does_95 rfl (lv_at hl 0 rfl) ?_
      refine va_get (D := D) (ci := 5) (v := .ref (a 6)) (C := RX5) (T := TX5) (N := 23) hx hb ht i_X5 hown hK hP 0 rfl rfl 10 (by decide) (ht _ wd_546) (fun _ h9 => h9) rfl dX5_does_96 ?_
      refine lv_iconst (v := (2 : Int32)) hx hb dX5_does_99 (by decide) ?_
      obtain ⟨i10, h⟩ := ck_ok h
      refine va_iald hx hb hK hP 6 0 rfl rfl i10 dX5_does_100 ?_
      obtain ⟨u11, M12, e13, h⟩ := b2_ok h
      refine cl_Vi (ws' := (wX5 a cI cC cO M12)) ⟨hx, hb, hml, hown, ht⟩ (c_X5_opens l D cI cC cO a M (M 5 (0 : Int32).toNatClampNeg) (M 5 (1 : Int32).toNatClampNeg) (M 5 (2 : Int32).toNatClampNeg) _ _ e13) (cwv 3 ht wd_654 wd_6 wd_651 wd_653 ws_26 (by decide +kernel) rfl rfl ⟨Nat.le_of_ble_eq_true rfl, Nat.le_of_ble_eq_true rfl⟩) 5 0 rfl rfl rfl hK hP hD hS hA hN [0, 1, 2, 3, 4, 5, 6, 7, 8, 9, 10, 11, 12] [] [0, 1, 2, 3, 4, 5, 6, 7, 8, 9, 10, 11, 12] (by decide) rfl rfl (by decide) (by decide) rfl (by decide) rfl hl.1 rfl (Nat.le_of_ble_eq_true rfl) dX5_does_101 ⟨Nat.le_of_ble_eq_true rfl, Nat.le_of_ble_eq_true rfl⟩ (fun H locs hP hD hS => ?_)
      cases h
      exact rt_i hx hb hr hlocks hS hP hK hD dX5_does_104
    · replace h := fn c7 h
      by_cases c14 : x1 = (112 : Int32)
      · replace h := fp c14 h
        refine lv_lookup (off := 52) (tgt := 53) hx hb dX5_does_1 (by decide) (by rw [c14]; decide) (by decide) ?_
        refine lv_aload_n hx hb dX5_does_53 rfl (lv_at hl 0 rfl) ?_
        refine lv_aload_n hx hb dX5_does_54 rfl (lv_at hl 0 rfl) ?_
        refine va_get (D := D) (ci := 5) (v := .ref (a 6)) (C := RX5) (T := TX5) (N := 23) hx hb ht i_X5 hown hK hP 0 rfl rfl 10 (by decide) (ht _ wd_546) (fun _ h9 => h9) rfl dX5_does_55 ?_
        refine lv_iconst (v := (0 : Int32)) hx hb dX5_does_58 (by decide) ?_
        obtain ⟨i15, h⟩ := ck_ok h
        refine va_iald hx hb hK hP 6 0 rfl rfl i15 dX5_does_59 ?_
        refine lv_aload_n hx hb dX5_does_60 rfl (lv_at hl 0 rfl) ?_
        refine va_get (D := D) (ci := 5) (v := .ref (a 6)) (C := RX5) (T := TX5) (N := 23) hx hb ht i_X5 hown hK hP 0 rfl rfl 10 (by decide) (ht _ wd_546) (fun _ h9 => h9) rfl dX5_does_61 ?_
        refine lv_iconst (v := (1 : Int32)) hx hb dX5_does_64 (by decide) ?_
        obtain ⟨i16, h⟩ := ck_ok h
        refine va_iald hx hb hK hP 6 0 rfl rfl i16 dX5_does_65 ?_
        refine lv_aload_n hx hb dX5_does_66 rfl (lv_at hl 0 rfl) ?_
        refine va_get (D := D) (ci := 5) (v := .ref (a 6)) (C := RX5) (T := TX5) (N := 23) hx hb ht i_X5 hown hK hP 0 rfl rfl 10 (by decide) (ht _ wd_546) (fun _ h9 => h9) rfl dX5_does_67 ?_
        refine lv_iconst (v := (2 : Int32)) hx hb dX5_does_70 (by decide) ?_
        obtain ⟨i17, h⟩ := ck_ok h
        refine va_iald hx hb hK hP 6 0 rfl rfl i17 dX5_does_71 ?_
        refine lv_aload_n hx hb dX5_does_72 rfl (lv_at hl 0 rfl) ?_
        refine va_get (D := D) (ci := 5) (v := .ref (a 6)) (C := RX5) (T := TX5) (N := 23) hx hb ht i_X5 hown hK hP 0 rfl rfl 10 (by decide) (ht _ wd_546) (fun _ h9 => h9) rfl dX5_does_73 ?_
        refine lv_iconst (v := (3 : Int32)) hx hb dX5_does_76 (by decide) ?_
        obtain ⟨i18, h⟩ := ck_ok h
        refine va_iald hx hb hK hP 6 0 rfl rfl i18 dX5_does_77 ?_
        obtain ⟨u19, M20, e21, h⟩ := b2_ok h
        refine cl_Vi (ws' := (wX5 a cI cC cO M20)) ⟨hx, hb, hml, hown, ht⟩ (c_X5_lays l D cI cC cO a M (M 5 (0 : Int32).toNatClampNeg) (M 5 (1 : Int32).toNatClampNeg) (M 5 (2 : Int32).toNatClampNeg) (M 5 (3 : Int32).toNatClampNeg) _ _ e21) (cwv 4 ht wd_638 wd_6 wd_635 wd_637 ws_24 (by decide +kernel) rfl rfl ⟨Nat.le_of_ble_eq_true rfl, Nat.le_of_ble_eq_true rfl⟩) 5 0 rfl rfl rfl hK hP hD hS hA hN [0, 1, 2, 3, 4, 5, 6, 7, 8, 9, 10, 11, 12] [] [0, 1, 2, 3, 4, 5, 6, 7, 8, 9, 10, 11, 12] (by decide) rfl rfl (by decide) (by decide) rfl (by decide) rfl hl.1 rfl (Nat.le_of_ble_eq_true rfl) dX5_does_78 ⟨Nat.le_of_ble_eq_true rfl, Nat.le_of_ble_eq_true rfl⟩ (fun H locs hP hD hS => ?_)
        cases h
        exact rt_i hx hb hr hlocks hS hP hK hD dX5_does_81
      · replace h := fn c14 h
        refine lv_lookup (off := 104) (tgt := 105) hx hb dX5_does_1 (by decide) (by simp only [lookupswitch.offset_cons, lookupswitch.offset_nil, Array.toList]; rw [if_neg (lk_ne (k := 104) (by decide) c1), if_neg (lk_ne (k := 111) (by decide) c7), if_neg (lk_ne (k := 112) (by decide) c14)] <;> rfl) (by decide) ?_
        refine lv_aload_n hx hb dX5_does_105 rfl (lv_at hl 0 rfl) ?_
        refine lv_iconst (v := (2 : Int32)) hx hb dX5_does_106 (by decide) ?_
        refine lv_iconst (v := (2 : Int32)) hx hb dX5_does_107 (by decide) ?_
        refine lv_aload_n hx hb dX5_does_108 rfl (lv_at hl 0 rfl) ?_
        refine va_get (D := D) (ci := 5) (v := .ref (a 6)) (C := RX5) (T := TX5) (N := 23) hx hb ht i_X5 hown hK hP 0 rfl rfl 10 (by decide) (ht _ wd_546) (fun _ h9 => h9) rfl dX5_does_109 ?_
        refine lv_iconst (v := (0 : Int32)) hx hb dX5_does_112 (by decide) ?_
        obtain ⟨i22, h⟩ := ck_ok h
        refine va_iald hx hb hK hP 6 0 rfl rfl i22 dX5_does_113 ?_
        refine lv_imul hx hb dX5_does_114 ?_
        refine lv_iadd hx hb dX5_does_115 ?_
        refine lv_aload_n hx hb dX5_does_116 rfl (lv_at hl 0 rfl) ?_
        refine va_get (D := D) (ci := 5) (v := .ref (a 6)) (C := RX5) (T := TX5) (N := 23) hx hb ht i_X5 hown hK hP 0 rfl rfl 10 (by decide) (ht _ wd_546) (fun _ h9 => h9) rfl dX5_does_117 ?_
        refine lv_iconst (v := (1 : Int32)) hx hb dX5_does_120 (by decide) ?_
        obtain ⟨i23, h⟩ := ck_ok h
        refine va_iald hx hb hK hP 6 0 rfl rfl i23 dX5_does_121 ?_
        obtain ⟨u24, M25, e26, h⟩ := b2_ok h
        refine cl_Vi (ws' := (wX5 a cI cC cO M25)) ⟨hx, hb, hml, hown, ht⟩ (c_X5_becomes l D cI cC cO a M ((2 : Int32) + ((2 : Int32) * (M 5 (0 : Int32).toNatClampNeg))) (M 5 (1 : Int32).toNatClampNeg) _ _ e26) (cwv 2 ht wd_662 wd_6 wd_659 wd_661 ws_27 (by decide +kernel) rfl rfl ⟨Nat.le_of_ble_eq_true rfl, Nat.le_of_ble_eq_true rfl⟩) 5 0 rfl rfl rfl hK hP hD hS hA hN [0, 1, 2, 3, 4, 5, 6, 7, 8, 9, 10, 11, 12] [] [0, 1, 2, 3, 4, 5, 6, 7, 8, 9, 10, 11, 12] (by decide) rfl rfl (by decide) (by decide) rfl (by decide) rfl hl.1 rfl (Nat.le_of_ble_eq_true rfl) dX5_does_122 ⟨Nat.le_of_ble_eq_true rfl, Nat.le_of_ble_eq_true rfl⟩ (fun H locs hP hD hS => ?_)
        cases h
        exact rt_i hx hb hr hlocks hS hP hK hD dX5_does_125
theorem dX5_doesNext_0 : decode cX5_doesNext 0 = .ok (.aload_n 0, 1) := by decide +kernel
theorem dX5_doesNext_1 : decode cX5_doesNext 1 = .ok (.getfield 160, 3) := by decide +kernel
theorem dX5_doesNext_4 : decode cX5_doesNext 4 = .ok (.istore_n 1, 1) := by decide +kernel
theorem dX5_doesNext_5 : decode cX5_doesNext 5 = .ok (.aload_n 0, 1) := by decide +kernel
theorem dX5_doesNext_6 : decode cX5_doesNext 6 = .ok (.invokevirtual 163, 3) := by decide +kernel
theorem dX5_doesNext_9 : decode cX5_doesNext 9 = .ok (.istore_n 2, 1) := by decide +kernel
theorem dX5_doesNext_10 : decode cX5_doesNext 10 = .ok (.iload_n 2, 1) := by decide +kernel
theorem dX5_doesNext_11 : decode cX5_doesNext 11 = .ok (.bipush 104, 2) := by decide +kernel
theorem dX5_doesNext_13 : decode cX5_doesNext 13 = .ok (.if_icmp .eq 9, 3) := by decide +kernel
theorem dX5_doesNext_16 : decode cX5_doesNext 16 = .ok (.iload_n 2, 1) := by decide +kernel
theorem dX5_doesNext_17 : decode cX5_doesNext 17 = .ok (.bipush 117, 2) := by decide +kernel
theorem dX5_doesNext_19 : decode cX5_doesNext 19 = .ok (.if_icmp .ne 7, 3) := by decide +kernel
theorem dX5_doesNext_22 : decode cX5_doesNext 22 = .ok (.iconst 2, 1) := by decide +kernel
theorem dX5_doesNext_23 : decode cX5_doesNext 23 = .ok (.goto 24, 3) := by decide +kernel
theorem dX5_doesNext_26 : decode cX5_doesNext 26 = .ok (.iload_n 2, 1) := by decide +kernel
theorem dX5_doesNext_27 : decode cX5_doesNext 27 = .ok (.bipush 111, 2) := by decide +kernel
theorem dX5_doesNext_29 : decode cX5_doesNext 29 = .ok (.if_icmp .ne 7, 3) := by decide +kernel
theorem dX5_doesNext_32 : decode cX5_doesNext 32 = .ok (.iconst 3, 1) := by decide +kernel
theorem dX5_doesNext_33 : decode cX5_doesNext 33 = .ok (.goto 14, 3) := by decide +kernel
theorem dX5_doesNext_36 : decode cX5_doesNext 36 = .ok (.iload_n 2, 1) := by decide +kernel
theorem dX5_doesNext_37 : decode cX5_doesNext 37 = .ok (.bipush 112, 2) := by decide +kernel
theorem dX5_doesNext_39 : decode cX5_doesNext 39 = .ok (.if_icmp .ne 7, 3) := by decide +kernel
theorem dX5_doesNext_42 : decode cX5_doesNext 42 = .ok (.iconst 4, 1) := by decide +kernel
theorem dX5_doesNext_43 : decode cX5_doesNext 43 = .ok (.goto 4, 3) := by decide +kernel
theorem dX5_doesNext_46 : decode cX5_doesNext 46 = .ok (.iconst 0, 1) := by decide +kernel
theorem dX5_doesNext_47 : decode cX5_doesNext 47 = .ok (.istore_n 3, 1) := by decide +kernel
theorem dX5_doesNext_48 : decode cX5_doesNext 48 = .ok (.aload_n 0, 1) := by decide +kernel
theorem dX5_doesNext_49 : decode cX5_doesNext 49 = .ok (.dup, 1) := by decide +kernel
theorem dX5_doesNext_50 : decode cX5_doesNext 50 = .ok (.getfield 160, 3) := by decide +kernel
theorem dX5_doesNext_53 : decode cX5_doesNext 53 = .ok (.iload_n 3, 1) := by decide +kernel
theorem dX5_doesNext_54 : decode cX5_doesNext 54 = .ok (.ifCond .le 7, 3) := by decide +kernel
theorem dX5_doesNext_57 : decode cX5_doesNext 57 = .ok (.iconst 1, 1) := by decide +kernel
theorem dX5_doesNext_58 : decode cX5_doesNext 58 = .ok (.goto 4, 3) := by decide +kernel
theorem dX5_doesNext_61 : decode cX5_doesNext 61 = .ok (.iconst 0, 1) := by decide +kernel
theorem dX5_doesNext_62 : decode cX5_doesNext 62 = .ok (.iadd, 1) := by decide +kernel
theorem dX5_doesNext_63 : decode cX5_doesNext 63 = .ok (.putfield 160, 3) := by decide +kernel
theorem dX5_doesNext_66 : decode cX5_doesNext 66 = .ok (.iload_n 3, 1) := by decide +kernel
theorem dX5_doesNext_67 : decode cX5_doesNext 67 = .ok (.ifCond .eq 11, 3) := by decide +kernel
theorem dX5_doesNext_70 : decode cX5_doesNext 70 = .ok (.aload_n 0, 1) := by decide +kernel
theorem dX5_doesNext_71 : decode cX5_doesNext 71 = .ok (.iload_n 3, 1) := by decide +kernel
theorem dX5_doesNext_72 : decode cX5_doesNext 72 = .ok (.invokevirtual 169, 3) := by decide +kernel
theorem dX5_doesNext_75 : decode cX5_doesNext 75 = .ok (.ifCond .ne 15, 3) := by decide +kernel
theorem dX5_doesNext_78 : decode cX5_doesNext 78 = .ok (.aload_n 0, 1) := by decide +kernel
theorem dX5_doesNext_79 : decode cX5_doesNext 79 = .ok (.aload_n 0, 1) := by decide +kernel
theorem dX5_doesNext_80 : decode cX5_doesNext 80 = .ok (.getfield 160, 3) := by decide +kernel
theorem dX5_doesNext_83 : decode cX5_doesNext 83 = .ok (.iload_n 1, 1) := by decide +kernel
theorem dX5_doesNext_84 : decode cX5_doesNext 84 = .ok (.isub, 1) := by decide +kernel
theorem dX5_doesNext_85 : decode cX5_doesNext 85 = .ok (.putfield 172, 3) := by decide +kernel
theorem dX5_doesNext_88 : decode cX5_doesNext 88 = .ok (.iconst 1, 1) := by decide +kernel
theorem dX5_doesNext_89 : decode cX5_doesNext 89 = .ok (.ireturn, 1) := by decide +kernel
theorem dX5_doesNext_90 : decode cX5_doesNext 90 = .ok (.iconst 0, 1) := by decide +kernel
theorem dX5_doesNext_91 : decode cX5_doesNext 91 = .ok (.istore 4, 2) := by decide +kernel
theorem dX5_doesNext_93 : decode cX5_doesNext 93 = .ok (.iload 4, 2) := by decide +kernel
theorem dX5_doesNext_95 : decode cX5_doesNext 95 = .ok (.iload_n 3, 1) := by decide +kernel
theorem dX5_doesNext_96 : decode cX5_doesNext 96 = .ok (.if_icmp .ge 27, 3) := by decide +kernel
theorem dX5_doesNext_99 : decode cX5_doesNext 99 = .ok (.aload_n 0, 1) := by decide +kernel
theorem dX5_doesNext_100 : decode cX5_doesNext 100 = .ok (.iload_n 2, 1) := by decide +kernel
theorem dX5_doesNext_101 : decode cX5_doesNext 101 = .ok (.iload 4, 2) := by decide +kernel
theorem dX5_doesNext_103 : decode cX5_doesNext 103 = .ok (.invokevirtual 175, 3) := by decide +kernel
theorem dX5_doesNext_106 : decode cX5_doesNext 106 = .ok (.ifCond .ne 11, 3) := by decide +kernel
theorem dX5_doesNext_109 : decode cX5_doesNext 109 = .ok (.aload_n 0, 1) := by decide +kernel
theorem dX5_doesNext_110 : decode cX5_doesNext 110 = .ok (.iload 4, 2) := by decide +kernel
theorem dX5_doesNext_112 : decode cX5_doesNext 112 = .ok (.putfield 172, 3) := by decide +kernel
theorem dX5_doesNext_115 : decode cX5_doesNext 115 = .ok (.iconst 2, 1) := by decide +kernel
theorem dX5_doesNext_116 : decode cX5_doesNext 116 = .ok (.ireturn, 1) := by decide +kernel
theorem dX5_doesNext_117 : decode cX5_doesNext 117 = .ok (.iinc 4 1, 3) := by decide +kernel
theorem dX5_doesNext_120 : decode cX5_doesNext 120 = .ok (.goto (-27), 3) := by decide +kernel
theorem dX5_doesNext_123 : decode cX5_doesNext 123 = .ok (.aload_n 0, 1) := by decide +kernel
theorem dX5_doesNext_124 : decode cX5_doesNext 124 = .ok (.ldc 104, 2) := by decide +kernel
theorem dX5_doesNext_126 : decode cX5_doesNext 126 = .ok (.putfield 172, 3) := by decide +kernel
theorem dX5_doesNext_129 : decode cX5_doesNext 129 = .ok (.aload_n 0, 1) := by decide +kernel
theorem dX5_doesNext_130 : decode cX5_doesNext 130 = .ok (.iload_n 2, 1) := by decide +kernel
theorem dX5_doesNext_131 : decode cX5_doesNext 131 = .ok (.invokevirtual 178, 3) := by decide +kernel
theorem dX5_doesNext_134 : decode cX5_doesNext 134 = .ok (.ldc 71, 2) := by decide +kernel
theorem dX5_doesNext_136 : decode cX5_doesNext 136 = .ok (.if_icmp .ne 7, 3) := by decide +kernel
theorem dX5_doesNext_139 : decode cX5_doesNext 139 = .ok (.iconst 3, 1) := by decide +kernel
theorem dX5_doesNext_140 : decode cX5_doesNext 140 = .ok (.goto 4, 3) := by decide +kernel
theorem dX5_doesNext_143 : decode cX5_doesNext 143 = .ok (.iconst 0, 1) := by decide +kernel
theorem dX5_doesNext_144 : decode cX5_doesNext 144 = .ok (.ireturn, 1) := by decide +kernel
set_option maxHeartbeats 4000000 in
set_option maxRecDepth 100000 in
theorem c_X5_doesNext (l : Launch) (D : va_G) (cI cC cO : ClassId) (a : Nat → Nat) (M : Mm) (res : Int32 × Mm) (sz : Nat) (h : F_X5_doesNext M = some res) : Met l yX5_doesNext (Cond.code yX5_doesNext cX5_doesNext 5 (Option.some Jvm.ClassFile.FieldType.int) :: lw_g) ({ frames := 3, cells := 0, slots := 0, locals := 66 } : Room) (va_Pc [.ref (a 0)] (pS D cI cC cO sz (wX5 a cI cC cO M))) (QI D cI cC cO (va_A (wX5 a cI cC cO M) sz) (wX5 a cI cC cO res.2) res.1) 0 0 (va_A (wX5 a cI cC cO M) sz) := by
  refine Met.ofW (cc := cX5_doesNext) (maxL := 5) (ret := (Option.some Jvm.ClassFile.FieldType.int)) (by decide) rfl ?_
  intro p e s m args below meth c s₁ B hml hv
  obtain ⟨rfl, rfl, hP, hK, hD0, hN⟩ := hv
  have hx := B.exec
  have hb := B.bytes
  have hr := B.returns
  have ht : ∀ w ∈ lw_g, w.before ([.ref (a 0)] : List Value).toArray s = true := fun w hw => atoms_spec (ws := Cond.code yX5_doesNext cX5_doesNext 5 (Option.some Jvm.ClassFile.FieldType.int) :: lw_g) B.pre w (List.mem_cons_of_mem _ hw)
  have hown : s.vm.findClass RX5 = some m.cls := findClass_of_methodNamed B.named
  have hlocks := B.notSynchronized
  have hD := hD0.self (sz := s.heap.size)
  generalize hAe : va_A (wX5 a cI cC cO M) s.heap.size = A at hD ⊢
  have hA : ∀ q : Nat, s.heap.size ≤ q → A q := fun q hq => by rw [← hAe]; exact Or.inr hq
  have hS : va_S A s.heap s.heap [] := va_S.rf
  have hl := lv_entry ([.ref (a 0)]) (n := 5) (Nat.le_of_ble_eq_true rfl)
  rw [lg_entry_eq]
  generalize (lg_sl ([.ref (a 0)]) ++ List.replicate (5 - (lg_sl ([.ref (a 0)])).length) Slot.unset).toArray = ls at hl ⊢
  have hl : lv_has ls 5 [(0, .ref (a 0))] := hl
  have w78 : ∀ (M : Mm) (y1 : Int32) (H : Heap) (locs : List Loc) (ls : Array Slot), F_X5_doesNext_78 M y1 = some res → va_P D classes (wX5 a cI cC cO M) H → va_D A (wX5 a cI cC cO M) → va_S A s.heap H locs → lv_has ls 5 [(0, .ref (a 0)), (1, .int y1)] → W p l e ({ frames := 3, cells := 0, slots := 0, locals := 66 } : Room) s m ([.ref (a 0)] : List Value).toArray below meth c H locs 0 0 (MQ below (QI D cI cC cO A (wX5 a cI cC cO res.2) res.1) ([.ref (a 0)] : List Value).toArray s 0 0 A) (F0 m 78 ls []) := by
    intro M y1 H locs ls h hP hD hS hl
    unfold F_X5_doesNext_78 at h
    refine lv_aload_n hx hb dX5_doesNext_78 rfl (lv_at hl 0 rfl) ?_
    refine lv_aload_n hx hb dX5_doesNext_79 rfl (lv_at hl 0 rfl) ?_
    refine va_get (D := D) (ci := 5) (v := .int (M 12 2)) (C := RX5) (T := TX5) (N := 23) hx hb ht i_X5 hown hK hP 0 rfl rfl 7 (by decide) (ht _ wd_543) (fun _ h9 => h9) rfl dX5_doesNext_80 ?_
    refine lv_iload_n hx hb dX5_doesNext_83 rfl (lv_at hl 1 rfl) ?_
    refine lv_isub hx hb dX5_doesNext_84 ?_
    refine va_put (D := D) (ci := 5) (v := .int ((M 12 2) - y1)) (ty := .int) (C := RX5) (T := TX5) (N := 23) hx hb ht i_X5 tyX5 tyX5_ok nmX5 hown hK hP hD hS 0 rfl rfl 9 (by decide) (ht _ wd_545) (fun _ h9 => h9) rfl (by decide +kernel) rfl rfl (Nat.le_of_ble_eq_true rfl) dX5_doesNext_85 (fun H locs hP hD hS => ?_)
    obtain ⟨M1, e2, h⟩ := sv_ok h
    have hP : va_P D classes (wX5 a cI cC cO M1) H := by rw [← e2]; exact hP
    have hD : va_D A (wX5 a cI cC cO M1) := by rw [← e2]; exact hD
    refine lv_iconst (v := (1 : Int32)) hx hb dX5_doesNext_88 (by decide) ?_
    cases h
    exact rt_i hx hb hr hlocks hS hP hK hD dX5_doesNext_89
  have w93 : ∀ (n93 : Nat) (M : Mm) (y2 y3 y4 : Int32) (H : Heap) (locs : List Loc) (ls : Array Slot), F_X5_doesNext_93 n93 M y2 y3 y4 = some res → va_P D classes (wX5 a cI cC cO M) H → va_D A (wX5 a cI cC cO M) → va_S A s.heap H locs → lv_has ls 5 [(0, .ref (a 0)), (2, .int y2), (3, .int y3), (4, .int y4)] → W p l e ({ frames := 3, cells := 0, slots := 0, locals := 66 } : Room) s m ([.ref (a 0)] : List Value).toArray below meth c H locs 0 0 (MQ below (QI D cI cC cO A (wX5 a cI cC cO res.2) res.1) ([.ref (a 0)] : List Value).toArray s 0 0 A) (F0 m 93 ls []) := by
    intro n93
    induction n93 with
    | zero => intro M y2 y3 y4 H locs ls h hP hD hS hl; exact absurd (show (none : Option (Int32 × Mm)) = some res from h) (by simp)
    | succ n93 ih93 =>
      intro M y2 y3 y4 H locs ls h hP hD hS hl
      have h : F_X5_doesNextB_93 (F_X5_doesNext_93 n93) M y2 y3 y4 = some res := h
      unfold F_X5_doesNextB_93 at h
      refine lv_iload hx hb dX5_doesNext_93 (lv_at hl 3 rfl) ?_
      refine lv_iload_n hx hb dX5_doesNext_95 rfl (lv_at hl 2 rfl) ?_
      refine lv_icmp_ge (tgt := 123) hx hb dX5_doesNext_96 (by decide) (fun c1 => ?_) (fun c1 => ?_)
      · replace h := fp c1 h
        refine lv_aload_n hx hb dX5_doesNext_123 rfl (lv_at hl 0 rfl) ?_
        refine lv_ldc hx hb hown (ht _ wd_691) dX5_doesNext_124 ?_
        refine va_put (D := D) (ci := 5) (v := .int (-1000004 : Int32)) (ty := .int) (C := RX5) (T := TX5) (N := 23) hx hb ht i_X5 tyX5 tyX5_ok nmX5 hown hK hP hD hS 0 rfl rfl 9 (by decide) (ht _ wd_545) (fun _ h9 => h9) rfl (by decide +kernel) rfl rfl (Nat.le_of_ble_eq_true rfl) dX5_doesNext_126 (fun H locs hP hD hS => ?_)
        obtain ⟨M2, e3, h⟩ := sv_ok h
        have hP : va_P D classes (wX5 a cI cC cO M2) H := by rw [← e3]; exact hP
        have hD : va_D A (wX5 a cI cC cO M2) := by rw [← e3]; exact hD
        refine lv_aload_n hx hb dX5_doesNext_129 rfl (lv_at hl 0 rfl) ?_
        refine lv_iload_n hx hb dX5_doesNext_130 rfl (lv_at hl 1 rfl) ?_
        obtain ⟨u4, M5, e6, h⟩ := b2_ok h
        refine cl_Vi (ws' := (wX5 a cI cC cO M5)) ⟨hx, hb, hml, hown, ht⟩ (c_X5_does l D cI cC cO a M2 y2 _ _ e6) (cwv 1 ht wd_817 wd_6 wd_814 wd_816 ws_48 (by decide +kernel) rfl rfl ⟨Nat.le_of_ble_eq_true rfl, Nat.le_of_ble_eq_true rfl⟩) 5 0 rfl rfl rfl hK hP hD hS hA hN [0, 1, 2, 3, 4, 5, 6, 7, 8, 9, 10, 11, 12] [] [0, 1, 2, 3, 4, 5, 6, 7, 8, 9, 10, 11, 12] (by decide) rfl rfl (by decide) (by decide) rfl (by decide) rfl hl.1 rfl (Nat.le_of_ble_eq_true rfl) dX5_doesNext_131 ⟨Nat.le_of_ble_eq_true rfl, Nat.le_of_ble_eq_true rfl⟩ (fun H locs hP hD hS => ?_)
        refine lv_ldc hx hb hown (ht _ wd_622) dX5_doesNext_134 ?_
        refine lv_icmp_ne (tgt := 143) hx hb dX5_doesNext_136 (by decide) (fun c7 => ?_) (fun c7 => ?_)
        · replace h := fn c7 h
          refine lv_iconst (v := (0 : Int32)) hx hb dX5_doesNext_143 (by decide) ?_
          cases h
          exact rt_i hx hb hr hlocks hS hP hK hD dX5_doesNext_144
        · replace h := fp c7 h
          refine lv_iconst (v := (3 : Int32)) hx hb dX5_doesNext_139 (by decide) ?_
          refine lv_goto (tgt := 144) hx hb dX5_doesNext_140 (by decide) ?_
          cases h
          exact rt_i hx hb hr hlocks hS hP hK hD dX5_doesNext_144
      · replace h := fn c1 h
        refine lv_aload_n hx hb dX5_doesNext_99 rfl (lv_at hl 0 rfl) ?_
        refine lv_iload_n hx hb dX5_doesNext_100 rfl (lv_at hl 1 rfl) ?_
        refine lv_iload hx hb dX5_doesNext_101 (lv_at hl 3 rfl) ?_
        obtain ⟨u8, e9, h⟩ := b1_ok h
        refine cl_Vi (ws' := (wX5 a cI cC cO M)) ⟨hx, hb, hml, hown, ht⟩ (c_X5_isRight l D cI cC cO a M y2 y4 _ _ e9) (cwv 2 ht wd_813 wd_6 wd_810 wd_812 ws_47 (by decide +kernel) rfl rfl ⟨Nat.le_of_ble_eq_true rfl, Nat.le_of_ble_eq_true rfl⟩) 5 0 rfl rfl rfl hK hP hD hS hA hN [0, 1, 2, 3, 4, 5, 6, 7, 8, 9, 10, 11, 12] [] [0, 1, 2, 3, 4, 5, 6, 7, 8, 9, 10, 11, 12] (by decide) rfl rfl (by decide) (by decide) rfl (by decide) rfl hl.1 rfl (Nat.le_of_ble_eq_true rfl) dX5_doesNext_103 ⟨Nat.le_of_ble_eq_true rfl, Nat.le_of_ble_eq_true rfl⟩ (fun H locs hP hD hS => ?_)
        refine lv_if_ne (tgt := 117) hx hb dX5_doesNext_106 (by decide) (fun c10 => ?_) (fun c10 => ?_)
        · replace h := fn c10 h
          refine lv_iinc (v := (y4 + 1)) (lv' := [(4, .int (y4 + 1)), (0, .ref (a 0)), (2, .int y2), (3, .int y3)]) hx hb dX5_doesNext_117 hl (k := 3) rfl rfl (by decide) rfl (fun ls hl => ?_)
          refine lv_goto (tgt := 93) hx hb dX5_doesNext_120 (by decide) ?_
          exact ih93 M y2 y3 (y4 + 1) _ _ ls h hP hD hS (lv_sub hl [1, 2, 3, 0] rfl)
        · replace h := fp c10 h
          refine lv_aload_n hx hb dX5_doesNext_109 rfl (lv_at hl 0 rfl) ?_
          refine lv_iload hx hb dX5_doesNext_110 (lv_at hl 3 rfl) ?_
          refine va_put (D := D) (ci := 5) (v := .int y4) (ty := .int) (C := RX5) (T := TX5) (N := 23) hx hb ht i_X5 tyX5 tyX5_ok nmX5 hown hK hP hD hS 0 rfl rfl 9 (by decide) (ht _ wd_545) (fun _ h9 => h9) rfl (by decide +kernel) rfl rfl (Nat.le_of_ble_eq_true rfl) dX5_doesNext_112 (fun H locs hP hD hS => ?_)
          obtain ⟨M11, e12, h⟩ := sv_ok h
          have hP : va_P D classes (wX5 a cI cC cO M11) H := by rw [← e12]; exact hP
          have hD : va_D A (wX5 a cI cC cO M11) := by rw [← e12]; exact hD
          refine lv_iconst (v := (2 : Int32)) hx hb dX5_doesNext_115 (by decide) ?_
          cases h
          exact rt_i hx hb hr hlocks hS hP hK hD dX5_doesNext_116
  have w62 : ∀ (M : Mm) (y1 y2 y3 s0 s1 : Int32) (H : Heap) (locs : List Loc) (ls : Array Slot), F_X5_doesNext_62 M y1 y2 y3 s0 s1 = some res → va_P D classes (wX5 a cI cC cO M) H → va_D A (wX5 a cI cC cO M) → va_S A s.heap H locs → lv_has ls 5 [(0, .ref (a 0)), (1, .int y1), (2, .int y2), (3, .int y3)] → W p l e ({ frames := 3, cells := 0, slots := 0, locals := 66 } : Room) s m ([.ref (a 0)] : List Value).toArray below meth c H locs 0 0 (MQ below (QI D cI cC cO A (wX5 a cI cC cO res.2) res.1) ([.ref (a 0)] : List Value).toArray s 0 0 A) (F0 m 62 ls [.int s0, .int s1, .ref (a 0)]) := by
    intro M y1 y2 y3 s0 s1 H locs ls h hP hD hS hl
    unfold F_X5_doesNext_62 at h
    refine lv_iadd hx hb dX5_doesNext_62 ?_
    refine va_put (D := D) (ci := 5) (v := .int (s1 + s0)) (ty := .int) (C := RX5) (T := TX5) (N := 23) hx hb ht i_X5 tyX5 tyX5_ok nmX5 hown hK hP hD hS 0 rfl rfl 7 (by decide) (ht _ wd_543) (fun _ h9 => h9) rfl (by decide +kernel) rfl rfl (Nat.le_of_ble_eq_true rfl) dX5_doesNext_63 (fun H locs hP hD hS => ?_)
    obtain ⟨M1, e2, h⟩ := sv_ok h
    have hP : va_P D classes (wX5 a cI cC cO M1) H := by rw [← e2]; exact hP
    have hD : va_D A (wX5 a cI cC cO M1) := by rw [← e2]; exact hD
    refine lv_iload_n hx hb dX5_doesNext_66 rfl (lv_at hl 3 rfl) ?_
    refine lv_if_eq (tgt := 78) hx hb dX5_doesNext_67 (by decide) (fun c3 => ?_) (fun c3 => ?_)
    · replace h := fp c3 h
      exact w78 M1 y1 _ _ ls h hP hD hS (lv_sub hl [0, 1] rfl)
    · replace h := fn c3 h
      refine lv_aload_n hx hb dX5_doesNext_70 rfl (lv_at hl 0 rfl) ?_
      refine lv_iload_n hx hb dX5_doesNext_71 rfl (lv_at hl 3 rfl) ?_
      obtain ⟨u4, M5, e6, h⟩ := b2_ok h
      refine cl_Vi (ws' := (wX5 a cI cC cO M5)) ⟨hx, hb, hml, hown, ht⟩ (c_X5_reads l D cI cC cO a M1 y3 _ _ e6) (cwv 1 ht wd_805 wd_6 wd_802 wd_804 ws_45 (by decide +kernel) rfl rfl ⟨Nat.le_of_ble_eq_true rfl, Nat.le_of_ble_eq_true rfl⟩) 5 0 rfl rfl rfl hK hP hD hS hA hN [0, 1, 2, 3, 4, 5, 6, 7, 8, 9, 10, 11, 12] [] [0, 1, 2, 3, 4, 5, 6, 7, 8, 9, 10, 11, 12] (by decide) rfl rfl (by decide) (by decide) rfl (by decide) rfl hl.1 rfl (Nat.le_of_ble_eq_true rfl) dX5_doesNext_72 ⟨Nat.le_of_ble_eq_true rfl, Nat.le_of_ble_eq_true rfl⟩ (fun H locs hP hD hS => ?_)
      refine lv_if_ne (tgt := 90) hx hb dX5_doesNext_75 (by decide) (fun c7 => ?_) (fun c7 => ?_)
      · replace h := fn c7 h
        refine lv_iconst (v := (0 : Int32)) hx hb dX5_doesNext_90 (by decide) ?_
        refine lv_istore (lv' := [(4, .int (0 : Int32)), (0, .ref (a 0)), (1, .int y1), (2, .int y2), (3, .int y3)]) hx hb dX5_doesNext_91 hl (by decide) rfl (fun ls hl => ?_)
        exact w93 FU M5 y2 y3 (0 : Int32) _ _ ls h hP hD hS (lv_sub hl [1, 3, 4, 0] rfl)
      · replace h := fp c7 h
        exact w78 M5 y1 _ _ ls h hP hD hS (lv_sub hl [0, 1] rfl)
  have w47 : ∀ (M : Mm) (y1 y2 s0 : Int32) (H : Heap) (locs : List Loc) (ls : Array Slot), F_X5_doesNext_47 M y1 y2 s0 = some res → va_P D classes (wX5 a cI cC cO M) H → va_D A (wX5 a cI cC cO M) → va_S A s.heap H locs → lv_has ls 5 [(0, .ref (a 0)), (1, .int y1), (2, .int y2)] → W p l e ({ frames := 3, cells := 0, slots := 0, locals := 66 } : Room) s m ([.ref (a 0)] : List Value).toArray below meth c H locs 0 0 (MQ below (QI D cI cC cO A (wX5 a cI cC cO res.2) res.1) ([.ref (a 0)] : List Value).toArray s 0 0 A) (F0 m 47 ls [.int s0]) := by
    intro M y1 y2 s0 H locs ls h hP hD hS hl
    unfold F_X5_doesNext_47 at h
    refine lv_istore_n (lv' := [(3, .int s0), (0, .ref (a 0)), (1, .int y1), (2, .int y2)]) hx hb dX5_doesNext_47 rfl hl (by decide) rfl (fun ls hl => ?_)
    refine lv_aload_n hx hb dX5_doesNext_48 rfl (lv_at hl 1 rfl) ?_
    refine lv_dup hx hb dX5_doesNext_49 rfl ?_
    refine va_get (D := D) (ci := 5) (v := .int (M 12 2)) (C := RX5) (T := TX5) (N := 23) hx hb ht i_X5 hown hK hP 0 rfl rfl 7 (by decide) (ht _ wd_543) (fun _ h9 => h9) rfl dX5_doesNext_50 ?_
    refine lv_iload_n hx hb dX5_doesNext_53 rfl (lv_at hl 0 rfl) ?_
    refine lv_if_le (tgt := 61) hx hb dX5_doesNext_54 (by decide) (fun c1 => ?_) (fun c1 => ?_)
    · replace h := fp c1 h
      refine lv_iconst (v := (0 : Int32)) hx hb dX5_doesNext_61 (by decide) ?_
      exact w62 M y1 y2 s0 (0 : Int32) (M 12 2) _ _ ls h hP hD hS (lv_sub hl [1, 2, 3, 0] rfl)
    · replace h := fn c1 h
      refine lv_iconst (v := (1 : Int32)) hx hb dX5_doesNext_57 (by decide) ?_
      refine lv_goto (tgt := 62) hx hb dX5_doesNext_58 (by decide) ?_
      exact w62 M y1 y2 s0 (1 : Int32) (M 12 2) _ _ ls h hP hD hS (lv_sub hl [1, 2, 3, 0] rfl)
  have w22 : ∀ (M : Mm) (y1 y2 : Int32) (H : Heap) (locs : List Loc) (ls : Array Slot), F_X5_doesNext_22 M y1 y2 = some res → va_P D classes (wX5 a cI cC cO M) H → va_D A (wX5 a cI cC cO M) → va_S A s.heap H locs → lv_has ls 5 [(0, .ref (a 0)), (1, .int y1), (2, .int y2)] → W p l e ({ frames := 3, cells := 0, slots := 0, locals := 66 } : Room) s m ([.ref (a 0)] : List Value).toArray below meth c H locs 0 0 (MQ below (QI D cI cC cO A (wX5 a cI cC cO res.2) res.1) ([.ref (a 0)] : List Value).toArray s 0 0 A) (F0 m 22 ls []) := by
    intro M y1 y2 H locs ls h hP hD hS hl
    unfold F_X5_doesNext_22 at h
    refine lv_iconst (v := (2 : Int32)) hx hb dX5_doesNext_22 (by decide) ?_
    refine lv_goto (tgt := 47) hx hb dX5_doesNext_23 (by decide) ?_
    exact w47 M y1 y2 (2 : Int32) _ _ ls h hP hD hS (lv_sub hl [0, 1, 2] rfl)
  unfold F_X5_doesNext at h
  refine lv_aload_n hx hb dX5_doesNext_0 rfl (lv_at hl 0 rfl) ?_
  refine va_get (D := D) (ci := 5) (v := .int (M 12 2)) (C := RX5) (T := TX5) (N := 23) hx hb ht i_X5 hown hK hP 0 rfl rfl 7 (by decide) (ht _ wd_543) (fun _ h9 => h9) rfl dX5_doesNext_1 ?_
  refine lv_istore_n (lv' := [(1, .int (M 12 2)), (0, .ref (a 0))]) hx hb dX5_doesNext_4 rfl hl (by decide) rfl (fun ls hl => ?_)
  refine lv_aload_n hx hb dX5_doesNext_5 rfl (lv_at hl 1 rfl) ?_
  obtain ⟨u1, e2, h⟩ := b1_ok h
  refine cl_Vi (ws' := (wX5 a cI cC cO M)) ⟨hx, hb, hml, hown, ht⟩ (c_X5_sign l D cI cC cO a M _ _ e2) (cwv 0 ht wd_801 wd_6 wd_798 wd_800 ws_44 (by decide +kernel) rfl rfl ⟨Nat.le_of_ble_eq_true rfl, Nat.le_of_ble_eq_true rfl⟩) 5 0 rfl rfl rfl hK hP hD hS hA hN [0, 1, 2, 3, 4, 5, 6, 7, 8, 9, 10, 11, 12] [] [0, 1, 2, 3, 4, 5, 6, 7, 8, 9, 10, 11, 12] (by decide) rfl rfl (by decide) (by decide) rfl (by decide) rfl hl.1 rfl (Nat.le_of_ble_eq_true rfl) dX5_doesNext_6 ⟨Nat.le_of_ble_eq_true rfl, Nat.le_of_ble_eq_true rfl⟩ (fun H locs hP hD hS => ?_)
  refine lv_istore_n (lv' := [(2, .int u1), (1, .int (M 12 2)), (0, .ref (a 0))]) hx hb dX5_doesNext_9 rfl hl (by decide) rfl (fun ls hl => ?_)
  refine lv_iload_n hx hb dX5_doesNext_10 rfl (lv_at hl 0 rfl) ?_
  refine lv_bipush (v := (104 : Int32)) hx hb dX5_doesNext_11 (by decide) ?_
  refine lv_icmp_eq (tgt := 22) hx hb dX5_doesNext_13 (by decide) (fun c3 => ?_) (fun c3 => ?_)
  · replace h := fp c3 h
    exact w22 M (M 12 2) u1 _ _ ls h hP hD hS (lv_sub hl [2, 1, 0] rfl)
  · replace h := fn c3 h
    refine lv_iload_n hx hb dX5_doesNext_16 rfl (lv_at hl 0 rfl) ?_
    refine lv_bipush (v := (117 : Int32)) hx hb dX5_doesNext_17 (by decide) ?_
    refine lv_icmp_ne (tgt := 26) hx hb dX5_doesNext_19 (by decide) (fun c4 => ?_) (fun c4 => ?_)
    · replace h := fn c4 h
      refine lv_iload_n hx hb dX5_doesNext_26 rfl (lv_at hl 0 rfl) ?_
      refine lv_bipush (v := (111 : Int32)) hx hb dX5_doesNext_27 (by decide) ?_
      refine lv_icmp_ne (tgt := 36) hx hb dX5_doesNext_29 (by decide) (fun c5 => ?_) (fun c5 => ?_)
      · replace h := fn c5 h
        refine lv_iload_n hx hb dX5_doesNext_36 rfl (lv_at hl 0 rfl) ?_
        refine lv_bipush (v := (112 : Int32)) hx hb dX5_doesNext_37 (by decide) ?_
        refine lv_icmp_ne (tgt := 46) hx hb dX5_doesNext_39 (by decide) (fun c6 => ?_) (fun c6 => ?_)
        · replace h := fn c6 h
          refine lv_iconst (v := (0 : Int32)) hx hb dX5_doesNext_46 (by decide) ?_
          exact w47 M (M 12 2) u1 (0 : Int32) _ _ ls h hP hD hS (lv_sub hl [2, 1, 0] rfl)
        · replace h := fp c6 h
          refine lv_iconst (v := (4 : Int32)) hx hb dX5_doesNext_42 (by decide) ?_
          refine lv_goto (tgt := 47) hx hb dX5_doesNext_43 (by decide) ?_
          exact w47 M (M 12 2) u1 (4 : Int32) _ _ ls h hP hD hS (lv_sub hl [2, 1, 0] rfl)
      · replace h := fp c5 h
        refine lv_iconst (v := (3 : Int32)) hx hb dX5_doesNext_32 (by decide) ?_
        refine lv_goto (tgt := 47) hx hb dX5_doesNext_33 (by decide) ?_
        exact w47 M (M 12 2) u1 (3 : Int32) _ _ ls h hP hD hS (lv_sub hl [2, 1, 0] rfl)
    · replace h := fp c4 h
      exact w22 M (M 12 2) u1 _ _ ls h hP hD hS (lv_sub hl [2, 1, 0] rfl)
theorem dX5_faulty_0 : decode cX5_faulty 0 = .ok (.iconst 0, 1) := by decide +kernel
theorem dX5_faulty_1 : decode cX5_faulty 1 = .ok (.istore_n 1, 1) := by decide +kernel
theorem dX5_faulty_2 : decode cX5_faulty 2 = .ok (.iload_n 1, 1) := by decide +kernel
theorem dX5_faulty_3 : decode cX5_faulty 3 = .ok (.bipush 74, 2) := by decide +kernel
theorem dX5_faulty_5 : decode cX5_faulty 5 = .ok (.if_icmp .ge 21, 3) := by decide +kernel
theorem dX5_faulty_8 : decode cX5_faulty 8 = .ok (.aload_n 0, 1) := by decide +kernel
theorem dX5_faulty_9 : decode cX5_faulty 9 = .ok (.getfield 19, 3) := by decide +kernel
theorem dX5_faulty_12 : decode cX5_faulty 12 = .ok (.iload_n 1, 1) := by decide +kernel
theorem dX5_faulty_13 : decode cX5_faulty 13 = .ok (.aload_n 0, 1) := by decide +kernel
theorem dX5_faulty_14 : decode cX5_faulty 14 = .ok (.getfield 7, 3) := by decide +kernel
theorem dX5_faulty_17 : decode cX5_faulty 17 = .ok (.iload_n 1, 1) := by decide +kernel
theorem dX5_faulty_18 : decode cX5_faulty 18 = .ok (.iaload, 1) := by decide +kernel
theorem dX5_faulty_19 : decode cX5_faulty 19 = .ok (.iastore, 1) := by decide +kernel
theorem dX5_faulty_20 : decode cX5_faulty 20 = .ok (.iinc 1 1, 3) := by decide +kernel
theorem dX5_faulty_23 : decode cX5_faulty 23 = .ok (.goto (-21), 3) := by decide +kernel
theorem dX5_faulty_26 : decode cX5_faulty 26 = .ok (.ldc 104, 2) := by decide +kernel
theorem dX5_faulty_28 : decode cX5_faulty 28 = .ok (.istore_n 1, 1) := by decide +kernel
theorem dX5_faulty_29 : decode cX5_faulty 29 = .ok (.aload_n 0, 1) := by decide +kernel
theorem dX5_faulty_30 : decode cX5_faulty 30 = .ok (.iconst 0, 1) := by decide +kernel
theorem dX5_faulty_31 : decode cX5_faulty 31 = .ok (.putfield 160, 3) := by decide +kernel
theorem dX5_faulty_34 : decode cX5_faulty 34 = .ok (.aload_n 0, 1) := by decide +kernel
theorem dX5_faulty_35 : decode cX5_faulty 35 = .ok (.getfield 160, 3) := by decide +kernel
theorem dX5_faulty_38 : decode cX5_faulty 38 = .ok (.aload_n 0, 1) := by decide +kernel
theorem dX5_faulty_39 : decode cX5_faulty 39 = .ok (.getfield 156, 3) := by decide +kernel
theorem dX5_faulty_42 : decode cX5_faulty 42 = .ok (.if_icmp .ge 38, 3) := by decide +kernel
theorem dX5_faulty_45 : decode cX5_faulty 45 = .ok (.iload_n 1, 1) := by decide +kernel
theorem dX5_faulty_46 : decode cX5_faulty 46 = .ok (.ldc 104, 2) := by decide +kernel
theorem dX5_faulty_48 : decode cX5_faulty 48 = .ok (.if_icmp .ne 32, 3) := by decide +kernel
theorem dX5_faulty_51 : decode cX5_faulty 51 = .ok (.aload_n 0, 1) := by decide +kernel
theorem dX5_faulty_52 : decode cX5_faulty 52 = .ok (.getfield 160, 3) := by decide +kernel
theorem dX5_faulty_55 : decode cX5_faulty 55 = .ok (.istore_n 2, 1) := by decide +kernel
theorem dX5_faulty_56 : decode cX5_faulty 56 = .ok (.aload_n 0, 1) := by decide +kernel
theorem dX5_faulty_57 : decode cX5_faulty 57 = .ok (.aload_n 0, 1) := by decide +kernel
theorem dX5_faulty_58 : decode cX5_faulty 58 = .ok (.invokevirtual 181, 3) := by decide +kernel
theorem dX5_faulty_61 : decode cX5_faulty 61 = .ok (.putfield 184, 3) := by decide +kernel
theorem dX5_faulty_64 : decode cX5_faulty 64 = .ok (.aload_n 0, 1) := by decide +kernel
theorem dX5_faulty_65 : decode cX5_faulty 65 = .ok (.getfield 184, 3) := by decide +kernel
theorem dX5_faulty_68 : decode cX5_faulty 68 = .ok (.ifCond .le 7, 3) := by decide +kernel
theorem dX5_faulty_71 : decode cX5_faulty 71 = .ok (.iload_n 2, 1) := by decide +kernel
theorem dX5_faulty_72 : decode cX5_faulty 72 = .ok (.goto 4, 3) := by decide +kernel
theorem dX5_faulty_75 : decode cX5_faulty 75 = .ok (.iload_n 1, 1) := by decide +kernel
theorem dX5_faulty_76 : decode cX5_faulty 76 = .ok (.istore_n 1, 1) := by decide +kernel
theorem dX5_faulty_77 : decode cX5_faulty 77 = .ok (.goto (-43), 3) := by decide +kernel
theorem dX5_faulty_80 : decode cX5_faulty 80 = .ok (.iconst 0, 1) := by decide +kernel
theorem dX5_faulty_81 : decode cX5_faulty 81 = .ok (.istore_n 2, 1) := by decide +kernel
theorem dX5_faulty_82 : decode cX5_faulty 82 = .ok (.iload_n 2, 1) := by decide +kernel
theorem dX5_faulty_83 : decode cX5_faulty 83 = .ok (.bipush 74, 2) := by decide +kernel
theorem dX5_faulty_85 : decode cX5_faulty 85 = .ok (.if_icmp .ge 21, 3) := by decide +kernel
theorem dX5_faulty_88 : decode cX5_faulty 88 = .ok (.aload_n 0, 1) := by decide +kernel
theorem dX5_faulty_89 : decode cX5_faulty 89 = .ok (.getfield 7, 3) := by decide +kernel
theorem dX5_faulty_92 : decode cX5_faulty 92 = .ok (.iload_n 2, 1) := by decide +kernel
theorem dX5_faulty_93 : decode cX5_faulty 93 = .ok (.aload_n 0, 1) := by decide +kernel
theorem dX5_faulty_94 : decode cX5_faulty 94 = .ok (.getfield 19, 3) := by decide +kernel
theorem dX5_faulty_97 : decode cX5_faulty 97 = .ok (.iload_n 2, 1) := by decide +kernel
theorem dX5_faulty_98 : decode cX5_faulty 98 = .ok (.iaload, 1) := by decide +kernel
theorem dX5_faulty_99 : decode cX5_faulty 99 = .ok (.iastore, 1) := by decide +kernel
theorem dX5_faulty_100 : decode cX5_faulty 100 = .ok (.iinc 2 1, 3) := by decide +kernel
theorem dX5_faulty_103 : decode cX5_faulty 103 = .ok (.goto (-21), 3) := by decide +kernel
theorem dX5_faulty_106 : decode cX5_faulty 106 = .ok (.iload_n 1, 1) := by decide +kernel
theorem dX5_faulty_107 : decode cX5_faulty 107 = .ok (.ireturn, 1) := by decide +kernel
set_option maxHeartbeats 4000000 in
set_option maxRecDepth 100000 in
theorem c_X5_faulty (l : Launch) (D : va_G) (cI cC cO : ClassId) (a : Nat → Nat) (M : Mm) (res : Int32 × Mm) (sz : Nat) (h : F_X5_faulty M = some res) : Met l yX5_faulty (Cond.code yX5_faulty cX5_faulty 3 (Option.some Jvm.ClassFile.FieldType.int) :: lw_g) ({ frames := 4, cells := 0, slots := 0, locals := 90 } : Room) (va_Pc [.ref (a 0)] (pS D cI cC cO sz (wX5 a cI cC cO M))) (QI D cI cC cO (va_A (wX5 a cI cC cO M) sz) (wX5 a cI cC cO res.2) res.1) 0 0 (va_A (wX5 a cI cC cO M) sz) := by
  refine Met.ofW (cc := cX5_faulty) (maxL := 3) (ret := (Option.some Jvm.ClassFile.FieldType.int)) (by decide) rfl ?_
  intro p e s m args below meth c s₁ B hml hv
  obtain ⟨rfl, rfl, hP, hK, hD0, hN⟩ := hv
  have hx := B.exec
  have hb := B.bytes
  have hr := B.returns
  have ht : ∀ w ∈ lw_g, w.before ([.ref (a 0)] : List Value).toArray s = true := fun w hw => atoms_spec (ws := Cond.code yX5_faulty cX5_faulty 3 (Option.some Jvm.ClassFile.FieldType.int) :: lw_g) B.pre w (List.mem_cons_of_mem _ hw)
  have hown : s.vm.findClass RX5 = some m.cls := findClass_of_methodNamed B.named
  have hlocks := B.notSynchronized
  have hD := hD0.self (sz := s.heap.size)
  generalize hAe : va_A (wX5 a cI cC cO M) s.heap.size = A at hD ⊢
  have hA : ∀ q : Nat, s.heap.size ≤ q → A q := fun q hq => by rw [← hAe]; exact Or.inr hq
  have hS : va_S A s.heap s.heap [] := va_S.rf
  have hl := lv_entry ([.ref (a 0)]) (n := 3) (Nat.le_of_ble_eq_true rfl)
  rw [lg_entry_eq]
  generalize (lg_sl ([.ref (a 0)]) ++ List.replicate (3 - (lg_sl ([.ref (a 0)])).length) Slot.unset).toArray = ls at hl ⊢
  have hl : lv_has ls 3 [(0, .ref (a 0))] := hl
  have w82 : ∀ (n82 : Nat) (M : Mm) (y1 y2 : Int32) (H : Heap) (locs : List Loc) (ls : Array Slot), F_X5_faulty_82 n82 M y1 y2 = some res → va_P D classes (wX5 a cI cC cO M) H → va_D A (wX5 a cI cC cO M) → va_S A s.heap H locs → lv_has ls 3 [(0, .ref (a 0)), (1, .int y1), (2, .int y2)] → W p l e ({ frames := 4, cells := 0, slots := 0, locals := 90 } : Room) s m ([.ref (a 0)] : List Value).toArray below meth c H locs 0 0 (MQ below (QI D cI cC cO A (wX5 a cI cC cO res.2) res.1) ([.ref (a 0)] : List Value).toArray s 0 0 A) (F0 m 82 ls []) := by
    intro n82
    induction n82 with
    | zero => intro M y1 y2 H locs ls h hP hD hS hl; exact absurd (show (none : Option (Int32 × Mm)) = some res from h) (by simp)
    | succ n82 ih82 =>
      intro M y1 y2 H locs ls h hP hD hS hl
      have h : F_X5_faultyB_82 (F_X5_faulty_82 n82) M y1 y2 = some res := h
      unfold F_X5_faultyB_82 at h
      refine lv_iload_n hx hb dX5_faulty_82 rfl (lv_at hl 2 rfl) ?_
      refine lv_bipush (v := (74 : Int32)) hx hb dX5_faulty_83 (by decide) ?_
      refine lv_icmp_ge (tgt := 106) hx hb dX5_faulty_85 (by decide) (fun c1 => ?_) (fun c1 => ?_)
      · replace h := fp c1 h
        refine lv_iload_n hx hb dX5_faulty_106 rfl (lv_at hl 1 rfl) ?_
        cases h
        exact rt_i hx hb hr hlocks hS hP hK hD dX5_faulty_107
      · replace h := fn c1 h
        refine lv_aload_n hx hb dX5_faulty_88 rfl (lv_at hl 0 rfl) ?_
        refine va_get (D := D) (ci := 5) (v := .ref (a 1)) (C := RX5) (T := TX5) (N := 23) hx hb ht i_X5 hown hK hP 0 rfl rfl 0 (by decide) (ht _ wd_536) (fun _ h9 => h9) rfl dX5_faulty_89 ?_
        refine lv_iload_n hx hb dX5_faulty_92 rfl (lv_at hl 2 rfl) ?_
        refine lv_aload_n hx hb dX5_faulty_93 rfl (lv_at hl 0 rfl) ?_
        refine va_get (D := D) (ci := 5) (v := .ref (a 4)) (C := RX5) (T := TX5) (N := 23) hx hb ht i_X5 hown hK hP 0 rfl rfl 3 (by decide) (ht _ wd_539) (fun _ h9 => h9) rfl dX5_faulty_94 ?_
        refine lv_iload_n hx hb dX5_faulty_97 rfl (lv_at hl 2 rfl) ?_
        obtain ⟨i2, h⟩ := ck_ok h
        refine va_iald hx hb hK hP 4 0 rfl rfl i2 dX5_faulty_98 ?_
        obtain ⟨i3, h⟩ := ck_ok h
        refine va_iast hx hb hK hP hD hS 1 0 rfl rfl i3 dX5_faulty_99 (fun H locs hP hD hS => ?_)
        obtain ⟨M4, e5, h⟩ := sv_ok h
        have hP : va_P D classes (wX5 a cI cC cO M4) H := by rw [← e5]; exact hP
        have hD : va_D A (wX5 a cI cC cO M4) := by rw [← e5]; exact hD
        refine lv_iinc (v := (y2 + 1)) (lv' := [(2, .int (y2 + 1)), (0, .ref (a 0)), (1, .int y1)]) hx hb dX5_faulty_100 hl (k := 2) rfl rfl (by decide) rfl (fun ls hl => ?_)
        refine lv_goto (tgt := 82) hx hb dX5_faulty_103 (by decide) ?_
        exact ih82 M4 y1 (y2 + 1) _ _ ls h hP hD hS (lv_sub hl [1, 2, 0] rfl)
  have w34 : ∀ (n34 : Nat) (M : Mm) (y1 : Int32) (H : Heap) (locs : List Loc) (ls : Array Slot), F_X5_faulty_34 n34 M y1 = some res → va_P D classes (wX5 a cI cC cO M) H → va_D A (wX5 a cI cC cO M) → va_S A s.heap H locs → lv_has ls 3 [(0, .ref (a 0)), (1, .int y1)] → W p l e ({ frames := 4, cells := 0, slots := 0, locals := 90 } : Room) s m ([.ref (a 0)] : List Value).toArray below meth c H locs 0 0 (MQ below (QI D cI cC cO A (wX5 a cI cC cO res.2) res.1) ([.ref (a 0)] : List Value).toArray s 0 0 A) (F0 m 34 ls []) := by
    intro n34
    induction n34 with
    | zero => intro M y1 H locs ls h hP hD hS hl; exact absurd (show (none : Option (Int32 × Mm)) = some res from h) (by simp)
    | succ n34 ih34 =>
      intro M y1 H locs ls h hP hD hS hl
      have h : F_X5_faultyB_34 (F_X5_faulty_34 n34) M y1 = some res := h
      unfold F_X5_faultyB_34 at h
      refine lv_aload_n hx hb dX5_faulty_34 rfl (lv_at hl 0 rfl) ?_
      refine va_get (D := D) (ci := 5) (v := .int (M 12 2)) (C := RX5) (T := TX5) (N := 23) hx hb ht i_X5 hown hK hP 0 rfl rfl 7 (by decide) (ht _ wd_543) (fun _ h9 => h9) rfl dX5_faulty_35 ?_
      refine lv_aload_n hx hb dX5_faulty_38 rfl (lv_at hl 0 rfl) ?_
      refine va_get (D := D) (ci := 5) (v := .int (M 12 1)) (C := RX5) (T := TX5) (N := 23) hx hb ht i_X5 hown hK hP 0 rfl rfl 6 (by decide) (ht _ wd_542) (fun _ h9 => h9) rfl dX5_faulty_39 ?_
      refine lv_icmp_ge (tgt := 80) hx hb dX5_faulty_42 (by decide) (fun c1 => ?_) (fun c1 => ?_)
      · replace h := fp c1 h
        refine lv_iconst (v := (0 : Int32)) hx hb dX5_faulty_80 (by decide) ?_
        refine lv_istore_n (lv' := [(2, .int (0 : Int32)), (0, .ref (a 0)), (1, .int y1)]) hx hb dX5_faulty_81 rfl hl (by decide) rfl (fun ls hl => ?_)
        exact w82 FU M y1 (0 : Int32) _ _ ls h hP hD hS (lv_sub hl [1, 2, 0] rfl)
      · replace h := fn c1 h
        refine lv_iload_n hx hb dX5_faulty_45 rfl (lv_at hl 1 rfl) ?_
        refine lv_ldc hx hb hown (ht _ wd_691) dX5_faulty_46 ?_
        refine lv_icmp_ne (tgt := 80) hx hb dX5_faulty_48 (by decide) (fun c2 => ?_) (fun c2 => ?_)
        · replace h := fn c2 h
          refine lv_iconst (v := (0 : Int32)) hx hb dX5_faulty_80 (by decide) ?_
          refine lv_istore_n (lv' := [(2, .int (0 : Int32)), (0, .ref (a 0)), (1, .int y1)]) hx hb dX5_faulty_81 rfl hl (by decide) rfl (fun ls hl => ?_)
          exact w82 FU M y1 (0 : Int32) _ _ ls h hP hD hS (lv_sub hl [1, 2, 0] rfl)
        · replace h := fp c2 h
          refine lv_aload_n hx hb dX5_faulty_51 rfl (lv_at hl 0 rfl) ?_
          refine va_get (D := D) (ci := 5) (v := .int (M 12 2)) (C := RX5) (T := TX5) (N := 23) hx hb ht i_X5 hown hK hP 0 rfl rfl 7 (by decide) (ht _ wd_543) (fun _ h9 => h9) rfl dX5_faulty_52 ?_
          refine lv_istore_n (lv' := [(2, .int (M 12 2)), (0, .ref (a 0)), (1, .int y1)]) hx hb dX5_faulty_55 rfl hl (by decide) rfl (fun ls hl => ?_)
          refine lv_aload_n hx hb dX5_faulty_56 rfl (lv_at hl 1 rfl) ?_
          refine lv_aload_n hx hb dX5_faulty_57 rfl (lv_at hl 1 rfl) ?_
          obtain ⟨u3, M4, e5, h⟩ := b2_ok h
          refine cl_Vi (ws' := (wX5 a cI cC cO M4)) ⟨hx, hb, hml, hown, ht⟩ (c_X5_doesNext l D cI cC cO a M _ _ e5) (cwv 0 ht wd_797 wd_6 wd_794 wd_796 ws_43 (by decide +kernel) rfl rfl ⟨Nat.le_of_ble_eq_true rfl, Nat.le_of_ble_eq_true rfl⟩) 5 0 rfl rfl rfl hK hP hD hS hA hN [0, 1, 2, 3, 4, 5, 6, 7, 8, 9, 10, 11, 12] [] [0, 1, 2, 3, 4, 5, 6, 7, 8, 9, 10, 11, 12] (by decide) rfl rfl (by decide) (by decide) rfl (by decide) rfl hl.1 rfl (Nat.le_of_ble_eq_true rfl) dX5_faulty_58 ⟨Nat.le_of_ble_eq_true rfl, Nat.le_of_ble_eq_true rfl⟩ (fun H locs hP hD hS => ?_)
          refine va_put (D := D) (ci := 5) (v := .int u3) (ty := .int) (C := RX5) (T := TX5) (N := 23) hx hb ht i_X5 tyX5 tyX5_ok nmX5 hown hK hP hD hS 0 rfl rfl 8 (by decide) (ht _ wd_544) (fun _ h9 => h9) rfl (by decide +kernel) rfl rfl (Nat.le_of_ble_eq_true rfl) dX5_faulty_61 (fun H locs hP hD hS => ?_)
          obtain ⟨M6, e7, h⟩ := sv_ok h
          have hP : va_P D classes (wX5 a cI cC cO M6) H := by rw [← e7]; exact hP
          have hD : va_D A (wX5 a cI cC cO M6) := by rw [← e7]; exact hD
          refine lv_aload_n hx hb dX5_faulty_64 rfl (lv_at hl 1 rfl) ?_
          refine va_get (D := D) (ci := 5) (v := .int (M6 12 3)) (C := RX5) (T := TX5) (N := 23) hx hb ht i_X5 hown hK hP 0 rfl rfl 8 (by decide) (ht _ wd_544) (fun _ h9 => h9) rfl dX5_faulty_65 ?_
          refine lv_if_le (tgt := 75) hx hb dX5_faulty_68 (by decide) (fun c8 => ?_) (fun c8 => ?_)
          · replace h := fp c8 h
            refine lv_iload_n hx hb dX5_faulty_75 rfl (lv_at hl 2 rfl) ?_
            refine lv_istore_n (lv' := [(1, .int y1), (2, .int (M 12 2)), (0, .ref (a 0))]) hx hb dX5_faulty_76 rfl hl (by decide) rfl (fun ls hl => ?_)
            refine lv_goto (tgt := 34) hx hb dX5_faulty_77 (by decide) ?_
            exact ih34 M6 y1 _ _ ls h hP hD hS (lv_sub hl [2, 0] rfl)
          · replace h := fn c8 h
            refine lv_iload_n hx hb dX5_faulty_71 rfl (lv_at hl 0 rfl) ?_
            refine lv_goto (tgt := 76) hx hb dX5_faulty_72 (by decide) ?_
            refine lv_istore_n (lv' := [(1, .int (M 12 2)), (2, .int (M 12 2)), (0, .ref (a 0))]) hx hb dX5_faulty_76 rfl hl (by decide) rfl (fun ls hl => ?_)
            refine lv_goto (tgt := 34) hx hb dX5_faulty_77 (by decide) ?_
            exact ih34 M6 (M 12 2) _ _ ls h hP hD hS (lv_sub hl [2, 0] rfl)
  have w2 : ∀ (n2 : Nat) (M : Mm) (y1 : Int32) (H : Heap) (locs : List Loc) (ls : Array Slot), F_X5_faulty_2 n2 M y1 = some res → va_P D classes (wX5 a cI cC cO M) H → va_D A (wX5 a cI cC cO M) → va_S A s.heap H locs → lv_has ls 3 [(0, .ref (a 0)), (1, .int y1)] → W p l e ({ frames := 4, cells := 0, slots := 0, locals := 90 } : Room) s m ([.ref (a 0)] : List Value).toArray below meth c H locs 0 0 (MQ below (QI D cI cC cO A (wX5 a cI cC cO res.2) res.1) ([.ref (a 0)] : List Value).toArray s 0 0 A) (F0 m 2 ls []) := by
    intro n2
    induction n2 with
    | zero => intro M y1 H locs ls h hP hD hS hl; exact absurd (show (none : Option (Int32 × Mm)) = some res from h) (by simp)
    | succ n2 ih2 =>
      intro M y1 H locs ls h hP hD hS hl
      have h : F_X5_faultyB_2 (F_X5_faulty_2 n2) M y1 = some res := h
      unfold F_X5_faultyB_2 at h
      refine lv_iload_n hx hb dX5_faulty_2 rfl (lv_at hl 1 rfl) ?_
      refine lv_bipush (v := (74 : Int32)) hx hb dX5_faulty_3 (by decide) ?_
      refine lv_icmp_ge (tgt := 26) hx hb dX5_faulty_5 (by decide) (fun c1 => ?_) (fun c1 => ?_)
      · replace h := fp c1 h
        refine lv_ldc hx hb hown (ht _ wd_691) dX5_faulty_26 ?_
        refine lv_istore_n (lv' := [(1, .int (-1000004 : Int32)), (0, .ref (a 0))]) hx hb dX5_faulty_28 rfl hl (by decide) rfl (fun ls hl => ?_)
        refine lv_aload_n hx hb dX5_faulty_29 rfl (lv_at hl 1 rfl) ?_
        refine lv_iconst (v := (0 : Int32)) hx hb dX5_faulty_30 (by decide) ?_
        refine va_put (D := D) (ci := 5) (v := .int (0 : Int32)) (ty := .int) (C := RX5) (T := TX5) (N := 23) hx hb ht i_X5 tyX5 tyX5_ok nmX5 hown hK hP hD hS 0 rfl rfl 7 (by decide) (ht _ wd_543) (fun _ h9 => h9) rfl (by decide +kernel) rfl rfl (Nat.le_of_ble_eq_true rfl) dX5_faulty_31 (fun H locs hP hD hS => ?_)
        obtain ⟨M2, e3, h⟩ := sv_ok h
        have hP : va_P D classes (wX5 a cI cC cO M2) H := by rw [← e3]; exact hP
        have hD : va_D A (wX5 a cI cC cO M2) := by rw [← e3]; exact hD
        exact w34 FU M2 (-1000004 : Int32) _ _ ls h hP hD hS (lv_sub hl [1, 0] rfl)
      · replace h := fn c1 h
        refine lv_aload_n hx hb dX5_faulty_8 rfl (lv_at hl 0 rfl) ?_
        refine va_get (D := D) (ci := 5) (v := .ref (a 4)) (C := RX5) (T := TX5) (N := 23) hx hb ht i_X5 hown hK hP 0 rfl rfl 3 (by decide) (ht _ wd_539) (fun _ h9 => h9) rfl dX5_faulty_9 ?_
        refine lv_iload_n hx hb dX5_faulty_12 rfl (lv_at hl 1 rfl) ?_
        refine lv_aload_n hx hb dX5_faulty_13 rfl (lv_at hl 0 rfl) ?_
        refine va_get (D := D) (ci := 5) (v := .ref (a 1)) (C := RX5) (T := TX5) (N := 23) hx hb ht i_X5 hown hK hP 0 rfl rfl 0 (by decide) (ht _ wd_536) (fun _ h9 => h9) rfl dX5_faulty_14 ?_
        refine lv_iload_n hx hb dX5_faulty_17 rfl (lv_at hl 1 rfl) ?_
        obtain ⟨i4, h⟩ := ck_ok h
        refine va_iald hx hb hK hP 1 0 rfl rfl i4 dX5_faulty_18 ?_
        obtain ⟨i5, h⟩ := ck_ok h
        refine va_iast hx hb hK hP hD hS 4 0 rfl rfl i5 dX5_faulty_19 (fun H locs hP hD hS => ?_)
        obtain ⟨M6, e7, h⟩ := sv_ok h
        have hP : va_P D classes (wX5 a cI cC cO M6) H := by rw [← e7]; exact hP
        have hD : va_D A (wX5 a cI cC cO M6) := by rw [← e7]; exact hD
        refine lv_iinc (v := (y1 + 1)) (lv' := [(1, .int (y1 + 1)), (0, .ref (a 0))]) hx hb dX5_faulty_20 hl (k := 1) rfl rfl (by decide) rfl (fun ls hl => ?_)
        refine lv_goto (tgt := 2) hx hb dX5_faulty_23 (by decide) ?_
        exact ih2 M6 (y1 + 1) _ _ ls h hP hD hS (lv_sub hl [1, 0] rfl)
  unfold F_X5_faulty at h
  refine lv_iconst (v := (0 : Int32)) hx hb dX5_faulty_0 (by decide) ?_
  refine lv_istore_n (lv' := [(1, .int (0 : Int32)), (0, .ref (a 0))]) hx hb dX5_faulty_1 rfl hl (by decide) rfl (fun ls hl => ?_)
  exact w2 FU M (0 : Int32) _ _ ls h hP hD hS (lv_sub hl [1, 0] rfl)
theorem dX5_fault_0 : decode cX5_fault 0 = .ok (.iload_n 1, 1) := by decide +kernel
theorem dX5_fault_1 : decode cX5_fault 1 = .ok (.iconst 0, 1) := by decide +kernel
theorem dX5_fault_2 : decode cX5_fault 2 = .ok (.iconst 2, 1) := by decide +kernel
theorem dX5_fault_3 : decode cX5_fault 3 = .ok (.invokestatic 63, 3) := by decide +kernel
theorem dX5_fault_6 : decode cX5_fault 6 = .ok (.ifCond .ne 6, 3) := by decide +kernel
theorem dX5_fault_9 : decode cX5_fault 9 = .ok (.ldc 67, 2) := by decide +kernel
theorem dX5_fault_11 : decode cX5_fault 11 = .ok (.ireturn, 1) := by decide +kernel
theorem dX5_fault_12 : decode cX5_fault 12 = .ok (.aload_n 0, 1) := by decide +kernel
theorem dX5_fault_13 : decode cX5_fault 13 = .ok (.invokevirtual 187, 3) := by decide +kernel
theorem dX5_fault_16 : decode cX5_fault 16 = .ok (.istore_n 2, 1) := by decide +kernel
theorem dX5_fault_17 : decode cX5_fault 17 = .ok (.iload_n 2, 1) := by decide +kernel
theorem dX5_fault_18 : decode cX5_fault 18 = .ok (.ldc 104, 2) := by decide +kernel
theorem dX5_fault_20 : decode cX5_fault 20 = .ok (.if_icmp .eq 7, 3) := by decide +kernel
theorem dX5_fault_23 : decode cX5_fault 23 = .ok (.iload_n 1, 1) := by decide +kernel
theorem dX5_fault_24 : decode cX5_fault 24 = .ok (.ifCond .ne 7, 3) := by decide +kernel
theorem dX5_fault_27 : decode cX5_fault 27 = .ok (.iload_n 2, 1) := by decide +kernel
theorem dX5_fault_28 : decode cX5_fault 28 = .ok (.goto 19, 3) := by decide +kernel
theorem dX5_fault_31 : decode cX5_fault 31 = .ok (.iload_n 1, 1) := by decide +kernel
theorem dX5_fault_32 : decode cX5_fault 32 = .ok (.iconst 1, 1) := by decide +kernel
theorem dX5_fault_33 : decode cX5_fault 33 = .ok (.if_icmp .ne 10, 3) := by decide +kernel
theorem dX5_fault_36 : decode cX5_fault 36 = .ok (.aload_n 0, 1) := by decide +kernel
theorem dX5_fault_37 : decode cX5_fault 37 = .ok (.getfield 184, 3) := by decide +kernel
theorem dX5_fault_40 : decode cX5_fault 40 = .ok (.goto 7, 3) := by decide +kernel
theorem dX5_fault_43 : decode cX5_fault 43 = .ok (.aload_n 0, 1) := by decide +kernel
theorem dX5_fault_44 : decode cX5_fault 44 = .ok (.getfield 172, 3) := by decide +kernel
theorem dX5_fault_47 : decode cX5_fault 47 = .ok (.ireturn, 1) := by decide +kernel
set_option maxHeartbeats 4000000 in
set_option maxRecDepth 100000 in
theorem c_X5_fault (l : Launch) (D : va_G) (cI cC cO : ClassId) (a : Nat → Nat) (M : Mm) (x1 : Int32) (res : Int32 × Mm) (sz : Nat) (h : F_X5_fault M x1 = some res) : Met l yX5_fault (Cond.code yX5_fault cX5_fault 3 (Option.some Jvm.ClassFile.FieldType.int) :: lw_g) ({ frames := 5, cells := 0, slots := 0, locals := 112 } : Room) (va_Pc [.ref (a 0), .int x1] (pS D cI cC cO sz (wX5 a cI cC cO M))) (QI D cI cC cO (va_A (wX5 a cI cC cO M) sz) (wX5 a cI cC cO res.2) res.1) 0 0 (va_A (wX5 a cI cC cO M) sz) := by
  refine Met.ofW (cc := cX5_fault) (maxL := 3) (ret := (Option.some Jvm.ClassFile.FieldType.int)) (by decide) rfl ?_
  intro p e s m args below meth c s₁ B hml hv
  obtain ⟨rfl, rfl, hP, hK, hD0, hN⟩ := hv
  have hx := B.exec
  have hb := B.bytes
  have hr := B.returns
  have ht : ∀ w ∈ lw_g, w.before ([.ref (a 0), .int x1] : List Value).toArray s = true := fun w hw => atoms_spec (ws := Cond.code yX5_fault cX5_fault 3 (Option.some Jvm.ClassFile.FieldType.int) :: lw_g) B.pre w (List.mem_cons_of_mem _ hw)
  have hown : s.vm.findClass RX5 = some m.cls := findClass_of_methodNamed B.named
  have hlocks := B.notSynchronized
  have hD := hD0.self (sz := s.heap.size)
  generalize hAe : va_A (wX5 a cI cC cO M) s.heap.size = A at hD ⊢
  have hA : ∀ q : Nat, s.heap.size ≤ q → A q := fun q hq => by rw [← hAe]; exact Or.inr hq
  have hS : va_S A s.heap s.heap [] := va_S.rf
  have hl := lv_entry ([.ref (a 0), .int x1]) (n := 3) (Nat.le_of_ble_eq_true rfl)
  rw [lg_entry_eq]
  generalize (lg_sl ([.ref (a 0), .int x1]) ++ List.replicate (3 - (lg_sl ([.ref (a 0), .int x1])).length) Slot.unset).toArray = ls at hl ⊢
  have hl : lv_has ls 3 [(0, .ref (a 0)), (1, .int x1)] := hl
  unfold F_X5_fault at h
  refine lv_iload_n hx hb dX5_fault_0 rfl (lv_at hl 1 rfl) ?_
  refine lv_iconst (v := (0 : Int32)) hx hb dX5_fault_1 (by decide) ?_
  refine lv_iconst (v := (2 : Int32)) hx hb dX5_fault_2 (by decide) ?_
  obtain ⟨u1, e2, h⟩ := b1_ok h
  refine cl_Si (ws' := (wX5 a cI cC cO M)) ⟨hx, hb, hml, hown, ht⟩ (c_X5_in l D cI cC cO x1 (0 : Int32) (2 : Int32) _ _ e2) (cwst 3 ht wd_612 wd_6 wd_610 wd_611 (by decide +kernel) rfl rfl ⟨Nat.le_of_ble_eq_true rfl, Nat.le_of_ble_eq_true rfl⟩) hK hP hD hS hA hN [] [0, 1, 2, 3, 4, 5, 6, 7, 8, 9, 10, 11, 12] [0, 1, 2, 3, 4, 5, 6, 7, 8, 9, 10, 11, 12] (by decide) rfl rfl (by decide) (by decide) rfl (by decide) rfl hl.1 rfl (Nat.le_of_ble_eq_true rfl) dX5_fault_3 ⟨Nat.le_of_ble_eq_true rfl, Nat.le_of_ble_eq_true rfl⟩ (fun H locs hP hD hS => ?_)
  refine lv_if_ne (tgt := 12) hx hb dX5_fault_6 (by decide) (fun c3 => ?_) (fun c3 => ?_)
  · replace h := fn c3 h
    refine lv_aload_n hx hb dX5_fault_12 rfl (lv_at hl 0 rfl) ?_
    obtain ⟨u4, M5, e6, h⟩ := b2_ok h
    refine cl_Vi (ws' := (wX5 a cI cC cO M5)) ⟨hx, hb, hml, hown, ht⟩ (c_X5_faulty l D cI cC cO a M _ _ e6) (cwv 0 ht wd_793 wd_6 wd_790 wd_792 ws_42 (by decide +kernel) rfl rfl ⟨Nat.le_of_ble_eq_true rfl, Nat.le_of_ble_eq_true rfl⟩) 5 0 rfl rfl rfl hK hP hD hS hA hN [0, 1, 2, 3, 4, 5, 6, 7, 8, 9, 10, 11, 12] [] [0, 1, 2, 3, 4, 5, 6, 7, 8, 9, 10, 11, 12] (by decide) rfl rfl (by decide) (by decide) rfl (by decide) rfl hl.1 rfl (Nat.le_of_ble_eq_true rfl) dX5_fault_13 ⟨Nat.le_of_ble_eq_true rfl, Nat.le_of_ble_eq_true rfl⟩ (fun H locs hP hD hS => ?_)
    refine lv_istore_n (lv' := [(2, .int u4), (0, .ref (a 0)), (1, .int x1)]) hx hb dX5_fault_16 rfl hl (by decide) rfl (fun ls hl => ?_)
    refine lv_iload_n hx hb dX5_fault_17 rfl (lv_at hl 0 rfl) ?_
    refine lv_ldc hx hb hown (ht _ wd_691) dX5_fault_18 ?_
    refine lv_icmp_eq (tgt := 27) hx hb dX5_fault_20 (by decide) (fun c7 => ?_) (fun c7 => ?_)
    · replace h := fp c7 h
      refine lv_iload_n hx hb dX5_fault_27 rfl (lv_at hl 0 rfl) ?_
      refine lv_goto (tgt := 47) hx hb dX5_fault_28 (by decide) ?_
      cases h
      exact rt_i hx hb hr hlocks hS hP hK hD dX5_fault_47
    · replace h := fn c7 h
      refine lv_iload_n hx hb dX5_fault_23 rfl (lv_at hl 2 rfl) ?_
      refine lv_if_ne (tgt := 31) hx hb dX5_fault_24 (by decide) (fun c8 => ?_) (fun c8 => ?_)
      · replace h := fn c8 h
        refine lv_iload_n hx hb dX5_fault_31 rfl (lv_at hl 2 rfl) ?_
        refine lv_iconst (v := (1 : Int32)) hx hb dX5_fault_32 (by decide) ?_
        refine lv_icmp_ne (tgt := 43) hx hb dX5_fault_33 (by decide) (fun c9 => ?_) (fun c9 => ?_)
        · replace h := fn c9 h
          refine lv_aload_n hx hb dX5_fault_43 rfl (lv_at hl 1 rfl) ?_
          refine va_get (D := D) (ci := 5) (v := .int (M5 12 4)) (C := RX5) (T := TX5) (N := 23) hx hb ht i_X5 hown hK hP 0 rfl rfl 9 (by decide) (ht _ wd_545) (fun _ h9 => h9) rfl dX5_fault_44 ?_
          cases h
          exact rt_i hx hb hr hlocks hS hP hK hD dX5_fault_47
        · replace h := fp c9 h
          refine lv_aload_n hx hb dX5_fault_36 rfl (lv_at hl 1 rfl) ?_
          refine va_get (D := D) (ci := 5) (v := .int (M5 12 3)) (C := RX5) (T := TX5) (N := 23) hx hb ht i_X5 hown hK hP 0 rfl rfl 8 (by decide) (ht _ wd_544) (fun _ h9 => h9) rfl dX5_fault_37 ?_
          refine lv_goto (tgt := 47) hx hb dX5_fault_40 (by decide) ?_
          cases h
          exact rt_i hx hb hr hlocks hS hP hK hD dX5_fault_47
      · replace h := fp c8 h
        refine lv_iload_n hx hb dX5_fault_27 rfl (lv_at hl 0 rfl) ?_
        refine lv_goto (tgt := 47) hx hb dX5_fault_28 (by decide) ?_
        cases h
        exact rt_i hx hb hr hlocks hS hP hK hD dX5_fault_47
  · replace h := fp c3 h
    refine lv_ldc hx hb hown (ht _ wd_613) dX5_fault_9 ?_
    cases h
    exact rt_i hx hb hr hlocks hS hP hK hD dX5_fault_11
theorem dX5_play_0 : decode cX5_play 0 = .ok (.aload_n 0, 1) := by decide +kernel
theorem dX5_play_1 : decode cX5_play 1 = .ok (.invokevirtual 187, 3) := by decide +kernel
theorem dX5_play_4 : decode cX5_play 4 = .ok (.ldc 104, 2) := by decide +kernel
theorem dX5_play_6 : decode cX5_play 6 = .ok (.if_icmp .eq 6, 3) := by decide +kernel
theorem dX5_play_9 : decode cX5_play 9 = .ok (.ldc 159, 2) := by decide +kernel
theorem dX5_play_11 : decode cX5_play 11 = .ok (.ireturn, 1) := by decide +kernel
theorem dX5_play_12 : decode cX5_play 12 = .ok (.aload_n 0, 1) := by decide +kernel
theorem dX5_play_13 : decode cX5_play 13 = .ok (.invokevirtual 72, 3) := by decide +kernel
theorem dX5_play_16 : decode cX5_play 16 = .ok (.iconst 0, 1) := by decide +kernel
theorem dX5_play_17 : decode cX5_play 17 = .ok (.istore_n 1, 1) := by decide +kernel
theorem dX5_play_18 : decode cX5_play 18 = .ok (.aload_n 0, 1) := by decide +kernel
theorem dX5_play_19 : decode cX5_play 19 = .ok (.iconst 0, 1) := by decide +kernel
theorem dX5_play_20 : decode cX5_play 20 = .ok (.putfield 160, 3) := by decide +kernel
theorem dX5_play_23 : decode cX5_play 23 = .ok (.aload_n 0, 1) := by decide +kernel
theorem dX5_play_24 : decode cX5_play 24 = .ok (.getfield 160, 3) := by decide +kernel
theorem dX5_play_27 : decode cX5_play 27 = .ok (.aload_n 0, 1) := by decide +kernel
theorem dX5_play_28 : decode cX5_play 28 = .ok (.getfield 156, 3) := by decide +kernel
theorem dX5_play_31 : decode cX5_play 31 = .ok (.if_icmp .ge 21, 3) := by decide +kernel
theorem dX5_play_34 : decode cX5_play 34 = .ok (.iload_n 1, 1) := by decide +kernel
theorem dX5_play_35 : decode cX5_play 35 = .ok (.aload_n 0, 1) := by decide +kernel
theorem dX5_play_36 : decode cX5_play 36 = .ok (.invokevirtual 181, 3) := by decide +kernel
theorem dX5_play_39 : decode cX5_play 39 = .ok (.ifCond .ne 7, 3) := by decide +kernel
theorem dX5_play_42 : decode cX5_play 42 = .ok (.iconst 1, 1) := by decide +kernel
theorem dX5_play_43 : decode cX5_play 43 = .ok (.goto 4, 3) := by decide +kernel
theorem dX5_play_46 : decode cX5_play 46 = .ok (.iconst 0, 1) := by decide +kernel
theorem dX5_play_47 : decode cX5_play 47 = .ok (.iadd, 1) := by decide +kernel
theorem dX5_play_48 : decode cX5_play 48 = .ok (.istore_n 1, 1) := by decide +kernel
theorem dX5_play_49 : decode cX5_play 49 = .ok (.goto (-26), 3) := by decide +kernel
theorem dX5_play_52 : decode cX5_play 52 = .ok (.aload_n 0, 1) := by decide +kernel
theorem dX5_play_53 : decode cX5_play 53 = .ok (.iload_n 1, 1) := by decide +kernel
theorem dX5_play_54 : decode cX5_play 54 = .ok (.invokevirtual 79, 3) := by decide +kernel
theorem dX5_play_57 : decode cX5_play 57 = .ok (.ireturn, 1) := by decide +kernel
set_option maxHeartbeats 4000000 in
set_option maxRecDepth 100000 in
theorem c_X5_play (l : Launch) (D : va_G) (cI cC cO : ClassId) (a : Nat → Nat) (M : Mm) (res : Int32 × Mm) (sz : Nat) (h : F_X5_play M = some res) : Met l yX5_play (Cond.code yX5_play cX5_play 2 (Option.some Jvm.ClassFile.FieldType.int) :: lw_g) ({ frames := 5, cells := 0, slots := 0, locals := 112 } : Room) (va_Pc [.ref (a 0)] (pS D cI cC cO sz (wX5 a cI cC cO M))) (QI D cI cC cO (va_A (wX5 a cI cC cO M) sz) (wX5 a cI cC cO res.2) res.1) 0 0 (va_A (wX5 a cI cC cO M) sz) := by
  refine Met.ofW (cc := cX5_play) (maxL := 2) (ret := (Option.some Jvm.ClassFile.FieldType.int)) (by decide) rfl ?_
  intro p e s m args below meth c s₁ B hml hv
  obtain ⟨rfl, rfl, hP, hK, hD0, hN⟩ := hv
  have hx := B.exec
  have hb := B.bytes
  have hr := B.returns
  have ht : ∀ w ∈ lw_g, w.before ([.ref (a 0)] : List Value).toArray s = true := fun w hw => atoms_spec (ws := Cond.code yX5_play cX5_play 2 (Option.some Jvm.ClassFile.FieldType.int) :: lw_g) B.pre w (List.mem_cons_of_mem _ hw)
  have hown : s.vm.findClass RX5 = some m.cls := findClass_of_methodNamed B.named
  have hlocks := B.notSynchronized
  have hD := hD0.self (sz := s.heap.size)
  generalize hAe : va_A (wX5 a cI cC cO M) s.heap.size = A at hD ⊢
  have hA : ∀ q : Nat, s.heap.size ≤ q → A q := fun q hq => by rw [← hAe]; exact Or.inr hq
  have hS : va_S A s.heap s.heap [] := va_S.rf
  have hl := lv_entry ([.ref (a 0)]) (n := 2) (Nat.le_of_ble_eq_true rfl)
  rw [lg_entry_eq]
  generalize (lg_sl ([.ref (a 0)]) ++ List.replicate (2 - (lg_sl ([.ref (a 0)])).length) Slot.unset).toArray = ls at hl ⊢
  have hl : lv_has ls 2 [(0, .ref (a 0))] := hl
  have w23 : ∀ (n23 : Nat) (M : Mm) (y1 : Int32) (H : Heap) (locs : List Loc) (ls : Array Slot), F_X5_play_23 n23 M y1 = some res → va_P D classes (wX5 a cI cC cO M) H → va_D A (wX5 a cI cC cO M) → va_S A s.heap H locs → lv_has ls 2 [(0, .ref (a 0)), (1, .int y1)] → W p l e ({ frames := 5, cells := 0, slots := 0, locals := 112 } : Room) s m ([.ref (a 0)] : List Value).toArray below meth c H locs 0 0 (MQ below (QI D cI cC cO A (wX5 a cI cC cO res.2) res.1) ([.ref (a 0)] : List Value).toArray s 0 0 A) (F0 m 23 ls []) := by
    intro n23
    induction n23 with
    | zero => intro M y1 H locs ls h hP hD hS hl; exact absurd (show (none : Option (Int32 × Mm)) = some res from h) (by simp)
    | succ n23 ih23 =>
      intro M y1 H locs ls h hP hD hS hl
      have h : F_X5_playB_23 (F_X5_play_23 n23) M y1 = some res := h
      unfold F_X5_playB_23 at h
      refine lv_aload_n hx hb dX5_play_23 rfl (lv_at hl 0 rfl) ?_
      refine va_get (D := D) (ci := 5) (v := .int (M 12 2)) (C := RX5) (T := TX5) (N := 23) hx hb ht i_X5 hown hK hP 0 rfl rfl 7 (by decide) (ht _ wd_543) (fun _ h9 => h9) rfl dX5_play_24 ?_
      refine lv_aload_n hx hb dX5_play_27 rfl (lv_at hl 0 rfl) ?_
      refine va_get (D := D) (ci := 5) (v := .int (M 12 1)) (C := RX5) (T := TX5) (N := 23) hx hb ht i_X5 hown hK hP 0 rfl rfl 6 (by decide) (ht _ wd_542) (fun _ h9 => h9) rfl dX5_play_28 ?_
      refine lv_icmp_ge (tgt := 52) hx hb dX5_play_31 (by decide) (fun c1 => ?_) (fun c1 => ?_)
      · replace h := fp c1 h
        refine lv_aload_n hx hb dX5_play_52 rfl (lv_at hl 0 rfl) ?_
        refine lv_iload_n hx hb dX5_play_53 rfl (lv_at hl 1 rfl) ?_
        obtain ⟨u2, M3, e4, h⟩ := b2_ok h
        refine cl_Vi (ws' := (wX5 a cI cC cO M3)) ⟨hx, hb, hml, hown, ht⟩ (c_X5_acted l D cI cC cO a M y1 _ _ e4) (cwv 1 ht wd_626 wd_6 wd_623 wd_625 ws_22 (by decide +kernel) rfl rfl ⟨Nat.le_of_ble_eq_true rfl, Nat.le_of_ble_eq_true rfl⟩) 5 0 rfl rfl rfl hK hP hD hS hA hN [0, 1, 2, 3, 4, 5, 6, 7, 8, 9, 10, 11, 12] [] [0, 1, 2, 3, 4, 5, 6, 7, 8, 9, 10, 11, 12] (by decide) rfl rfl (by decide) (by decide) rfl (by decide) rfl hl.1 rfl (Nat.le_of_ble_eq_true rfl) dX5_play_54 ⟨Nat.le_of_ble_eq_true rfl, Nat.le_of_ble_eq_true rfl⟩ (fun H locs hP hD hS => ?_)
        cases h
        exact rt_i hx hb hr hlocks hS hP hK hD dX5_play_57
      · replace h := fn c1 h
        refine lv_iload_n hx hb dX5_play_34 rfl (lv_at hl 1 rfl) ?_
        refine lv_aload_n hx hb dX5_play_35 rfl (lv_at hl 0 rfl) ?_
        obtain ⟨u5, M6, e7, h⟩ := b2_ok h
        refine cl_Vi (ws' := (wX5 a cI cC cO M6)) ⟨hx, hb, hml, hown, ht⟩ (c_X5_doesNext l D cI cC cO a M _ _ e7) (cwv 0 ht wd_797 wd_6 wd_794 wd_796 ws_43 (by decide +kernel) rfl rfl ⟨Nat.le_of_ble_eq_true rfl, Nat.le_of_ble_eq_true rfl⟩) 5 0 rfl rfl rfl hK hP hD hS hA hN [0, 1, 2, 3, 4, 5, 6, 7, 8, 9, 10, 11, 12] [] [0, 1, 2, 3, 4, 5, 6, 7, 8, 9, 10, 11, 12] (by decide) rfl rfl (by decide) (by decide) rfl (by decide) rfl hl.1 rfl (Nat.le_of_ble_eq_true rfl) dX5_play_36 ⟨Nat.le_of_ble_eq_true rfl, Nat.le_of_ble_eq_true rfl⟩ (fun H locs hP hD hS => ?_)
        refine lv_if_ne (tgt := 46) hx hb dX5_play_39 (by decide) (fun c8 => ?_) (fun c8 => ?_)
        · replace h := fn c8 h
          refine lv_iconst (v := (0 : Int32)) hx hb dX5_play_46 (by decide) ?_
          refine lv_iadd hx hb dX5_play_47 ?_
          refine lv_istore_n (lv' := [(1, .int (y1 + (0 : Int32))), (0, .ref (a 0))]) hx hb dX5_play_48 rfl hl (by decide) rfl (fun ls hl => ?_)
          refine lv_goto (tgt := 23) hx hb dX5_play_49 (by decide) ?_
          exact ih23 M6 (y1 + (0 : Int32)) _ _ ls h hP hD hS (lv_sub hl [1, 0] rfl)
        · replace h := fp c8 h
          refine lv_iconst (v := (1 : Int32)) hx hb dX5_play_42 (by decide) ?_
          refine lv_goto (tgt := 47) hx hb dX5_play_43 (by decide) ?_
          refine lv_iadd hx hb dX5_play_47 ?_
          refine lv_istore_n (lv' := [(1, .int (y1 + (1 : Int32))), (0, .ref (a 0))]) hx hb dX5_play_48 rfl hl (by decide) rfl (fun ls hl => ?_)
          refine lv_goto (tgt := 23) hx hb dX5_play_49 (by decide) ?_
          exact ih23 M6 (y1 + (1 : Int32)) _ _ ls h hP hD hS (lv_sub hl [1, 0] rfl)
  unfold F_X5_play at h
  refine lv_aload_n hx hb dX5_play_0 rfl (lv_at hl 0 rfl) ?_
  obtain ⟨u1, M2, e3, h⟩ := b2_ok h
  refine cl_Vi (ws' := (wX5 a cI cC cO M2)) ⟨hx, hb, hml, hown, ht⟩ (c_X5_faulty l D cI cC cO a M _ _ e3) (cwv 0 ht wd_793 wd_6 wd_790 wd_792 ws_42 (by decide +kernel) rfl rfl ⟨Nat.le_of_ble_eq_true rfl, Nat.le_of_ble_eq_true rfl⟩) 5 0 rfl rfl rfl hK hP hD hS hA hN [0, 1, 2, 3, 4, 5, 6, 7, 8, 9, 10, 11, 12] [] [0, 1, 2, 3, 4, 5, 6, 7, 8, 9, 10, 11, 12] (by decide) rfl rfl (by decide) (by decide) rfl (by decide) rfl hl.1 rfl (Nat.le_of_ble_eq_true rfl) dX5_play_1 ⟨Nat.le_of_ble_eq_true rfl, Nat.le_of_ble_eq_true rfl⟩ (fun H locs hP hD hS => ?_)
  refine lv_ldc hx hb hown (ht _ wd_691) dX5_play_4 ?_
  refine lv_icmp_eq (tgt := 12) hx hb dX5_play_6 (by decide) (fun c4 => ?_) (fun c4 => ?_)
  · replace h := fp c4 h
    refine lv_aload_n hx hb dX5_play_12 rfl (lv_at hl 0 rfl) ?_
    obtain ⟨M5, e6, h⟩ := b1_ok h
    refine cl_Vv (ws' := (wX5 a cI cC cO M5)) ⟨hx, hb, hml, hown, ht⟩ (c_X5_keeps l D cI cC cO a M2 _ _ e6) (cwv 0 ht wd_617 wd_6 wd_614 wd_616 ws_20 (by decide +kernel) rfl rfl ⟨Nat.le_of_ble_eq_true rfl, Nat.le_of_ble_eq_true rfl⟩) 5 0 rfl rfl rfl hK hP hD hS hA hN [0, 1, 2, 3, 4, 5, 6, 7, 8, 9, 10, 11, 12] [] [0, 1, 2, 3, 4, 5, 6, 7, 8, 9, 10, 11, 12] (by decide) rfl rfl (by decide) (by decide) rfl (by decide) rfl hl.1 rfl (Nat.le_of_ble_eq_true rfl) dX5_play_13 ⟨Nat.le_of_ble_eq_true rfl, Nat.le_of_ble_eq_true rfl⟩ (fun H locs hP hD hS => ?_)
    refine lv_iconst (v := (0 : Int32)) hx hb dX5_play_16 (by decide) ?_
    refine lv_istore_n (lv' := [(1, .int (0 : Int32)), (0, .ref (a 0))]) hx hb dX5_play_17 rfl hl (by decide) rfl (fun ls hl => ?_)
    refine lv_aload_n hx hb dX5_play_18 rfl (lv_at hl 1 rfl) ?_
    refine lv_iconst (v := (0 : Int32)) hx hb dX5_play_19 (by decide) ?_
    refine va_put (D := D) (ci := 5) (v := .int (0 : Int32)) (ty := .int) (C := RX5) (T := TX5) (N := 23) hx hb ht i_X5 tyX5 tyX5_ok nmX5 hown hK hP hD hS 0 rfl rfl 7 (by decide) (ht _ wd_543) (fun _ h9 => h9) rfl (by decide +kernel) rfl rfl (Nat.le_of_ble_eq_true rfl) dX5_play_20 (fun H locs hP hD hS => ?_)
    obtain ⟨M7, e8, h⟩ := sv_ok h
    have hP : va_P D classes (wX5 a cI cC cO M7) H := by rw [← e8]; exact hP
    have hD : va_D A (wX5 a cI cC cO M7) := by rw [← e8]; exact hD
    exact w23 FU M7 (0 : Int32) _ _ ls h hP hD hS (lv_sub hl [1, 0] rfl)
  · replace h := fn c4 h
    refine lv_ldc hx hb hown (ht _ wd_777) dX5_play_9 ?_
    cases h
    exact rt_i hx hb hr hlocks hS hP hK hD dX5_play_11
end
