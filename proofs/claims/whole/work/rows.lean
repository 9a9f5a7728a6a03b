section
-- ===== PART A: goes FIRST, ahead of the names: the tables' words, and 'selects' of the private methods out of them =====
/-- a private method of a class that the tables say can be made, by its rows of tables_1 -/
def lw_okq (q : MethodName × Nat) : Prop := (q.1.cls ≠ "java/lang/invoke/MethodHandle" ∧ q.1.cls ≠ "java/lang/invoke/VarHandle") ∧ Cond.instantiable q.1.cls q.2 ∈ tables_1 ∧ Cond.privateMethod q.1 ∈ tables_1 ∧ Cond.instanceMethod q.1 ∈ tables_1
theorem lw_p0 : lw_okq (⟨"PipeMoments$History", "dropOldest", "()V"⟩, 2) := ⟨⟨by decide +kernel, by decide +kernel⟩, List.mem_of_getElem? (i := 51) (by decide +kernel), List.mem_of_getElem? (i := 173) (by decide +kernel), List.mem_of_getElem? (i := 174) (by decide +kernel)⟩
theorem lw_p1 : lw_okq (⟨"PipeMoments$Stream", "leastTickFor", "(I)I"⟩, 7) := ⟨⟨by decide +kernel, by decide +kernel⟩, List.mem_of_getElem? (i := 68) (by decide +kernel), List.mem_of_getElem? (i := 288) (by decide +kernel), List.mem_of_getElem? (i := 289) (by decide +kernel)⟩
theorem lw_p2 : lw_okq (⟨"PipeMoments$Stream", "begin", "()V"⟩, 7) := ⟨⟨by decide +kernel, by decide +kernel⟩, List.mem_of_getElem? (i := 68) (by decide +kernel), List.mem_of_getElem? (i := 292) (by decide +kernel), List.mem_of_getElem? (i := 293) (by decide +kernel)⟩
theorem lw_p3 : lw_okq (⟨"PipeMoments$Stream", "bind", "(II)V"⟩, 7) := ⟨⟨by decide +kernel, by decide +kernel⟩, List.mem_of_getElem? (i := 68) (by decide +kernel), List.mem_of_getElem? (i := 303) (by decide +kernel), List.mem_of_getElem? (i := 304) (by decide +kernel)⟩
theorem lw_p4 : lw_okq (⟨"PipeMoments$Stream", "moreBy", "(I)I"⟩, 7) := ⟨⟨by decide +kernel, by decide +kernel⟩, List.mem_of_getElem? (i := 68) (by decide +kernel), List.mem_of_getElem? (i := 316) (by decide +kernel), List.mem_of_getElem? (i := 317) (by decide +kernel)⟩
theorem lw_p5 : lw_okq (⟨"PipeMoments$Stream", "search", "(I)V"⟩, 7) := ⟨⟨by decide +kernel, by decide +kernel⟩, List.mem_of_getElem? (i := 68) (by decide +kernel), List.mem_of_getElem? (i := 321) (by decide +kernel), List.mem_of_getElem? (i := 322) (by decide +kernel)⟩
theorem lw_p6 : lw_okq (⟨"PipeMoments$Stream", "tryWay", "(III)V"⟩, 7) := ⟨⟨by decide +kernel, by decide +kernel⟩, List.mem_of_getElem? (i := 68) (by decide +kernel), List.mem_of_getElem? (i := 325) (by decide +kernel), List.mem_of_getElem? (i := 326) (by decide +kernel)⟩
theorem lw_p7 : lw_okq (⟨"PipeMoments$Stream", "spread", "(II)V"⟩, 7) := ⟨⟨by decide +kernel, by decide +kernel⟩, List.mem_of_getElem? (i := 68) (by decide +kernel), List.mem_of_getElem? (i := 329) (by decide +kernel), List.mem_of_getElem? (i := 330) (by decide +kernel)⟩
theorem lw_p8 : lw_okq (⟨"PipeMoments$Stream", "carryToArrival", "()I"⟩, 7) := ⟨⟨by decide +kernel, by decide +kernel⟩, List.mem_of_getElem? (i := 68) (by decide +kernel), List.mem_of_getElem? (i := 334) (by decide +kernel), List.mem_of_getElem? (i := 335) (by decide +kernel)⟩
theorem lw_p9 : lw_okq (⟨"PipeMoments$Stream", "mostBy", "(I)I"⟩, 7) := ⟨⟨by decide +kernel, by decide +kernel⟩, List.mem_of_getElem? (i := 68) (by decide +kernel), List.mem_of_getElem? (i := 351) (by decide +kernel), List.mem_of_getElem? (i := 352) (by decide +kernel)⟩
theorem lw_p10 : lw_okq (⟨"PipeMoments$Stream", "isNarrow", "(II)Z"⟩, 7) := ⟨⟨by decide +kernel, by decide +kernel⟩, List.mem_of_getElem? (i := 68) (by decide +kernel), List.mem_of_getElem? (i := 384) (by decide +kernel), List.mem_of_getElem? (i := 385) (by decide +kernel)⟩
theorem lw_p11 : lw_okq (⟨"PipeMoments$Settings", "readSetting", "()V"⟩, 9) := ⟨⟨by decide +kernel, by decide +kernel⟩, List.mem_of_getElem? (i := 98) (by decide +kernel), List.mem_of_getElem? (i := 473) (by decide +kernel), List.mem_of_getElem? (i := 474) (by decide +kernel)⟩
theorem lw_p12 : lw_okq (⟨"PipeMoments$Settings", "readForm", "(C)Z"⟩, 9) := ⟨⟨by decide +kernel, by decide +kernel⟩, List.mem_of_getElem? (i := 98) (by decide +kernel), List.mem_of_getElem? (i := 477) (by decide +kernel), List.mem_of_getElem? (i := 478) (by decide +kernel)⟩
theorem lw_p13 : lw_okq (⟨"PipeMoments$Settings", "readNumber", "(I)Z"⟩, 9) := ⟨⟨by decide +kernel, by decide +kernel⟩, List.mem_of_getElem? (i := 98) (by decide +kernel), List.mem_of_getElem? (i := 484) (by decide +kernel), List.mem_of_getElem? (i := 485) (by decide +kernel)⟩
theorem lw_p14 : lw_okq (⟨"PipeMoments$Settings", "isDigitNext", "()Z"⟩, 9) := ⟨⟨by decide +kernel, by decide +kernel⟩, List.mem_of_getElem? (i := 98) (by decide +kernel), List.mem_of_getElem? (i := 488) (by decide +kernel), List.mem_of_getElem? (i := 489) (by decide +kernel)⟩
theorem lw_p15 : lw_okq (⟨"PipeMoments$Settings", "readSign", "(C)Z"⟩, 9) := ⟨⟨by decide +kernel, by decide +kernel⟩, List.mem_of_getElem? (i := 98) (by decide +kernel), List.mem_of_getElem? (i := 493) (by decide +kernel), List.mem_of_getElem? (i := 494) (by decide +kernel)⟩
def lw_privs_1 : List (MethodName × Nat) := [(⟨"PipeMoments$History", "dropOldest", "()V"⟩, 2), (⟨"PipeMoments$Stream", "leastTickFor", "(I)I"⟩, 7), (⟨"PipeMoments$Stream", "begin", "()V"⟩, 7), (⟨"PipeMoments$Stream", "bind", "(II)V"⟩, 7), (⟨"PipeMoments$Stream", "moreBy", "(I)I"⟩, 7), (⟨"PipeMoments$Stream", "search", "(I)V"⟩, 7), (⟨"PipeMoments$Stream", "tryWay", "(III)V"⟩, 7), (⟨"PipeMoments$Stream", "spread", "(II)V"⟩, 7), (⟨"PipeMoments$Stream", "carryToArrival", "()I"⟩, 7), (⟨"PipeMoments$Stream", "mostBy", "(I)I"⟩, 7), (⟨"PipeMoments$Stream", "isNarrow", "(II)Z"⟩, 7), (⟨"PipeMoments$Settings", "readSetting", "()V"⟩, 9), (⟨"PipeMoments$Settings", "readForm", "(C)Z"⟩, 9), (⟨"PipeMoments$Settings", "readNumber", "(I)Z"⟩, 9), (⟨"PipeMoments$Settings", "isDigitNext", "()Z"⟩, 9), (⟨"PipeMoments$Settings", "readSign", "(C)Z"⟩, 9)]
theorem lw_r1 : ∀ q ∈ lw_privs_1, lw_okq q := List.forall_mem_cons.mpr ⟨lw_p0, List.forall_mem_cons.mpr ⟨lw_p1, List.forall_mem_cons.mpr ⟨lw_p2, List.forall_mem_cons.mpr ⟨lw_p3, List.forall_mem_cons.mpr ⟨lw_p4, List.forall_mem_cons.mpr ⟨lw_p5, List.forall_mem_cons.mpr ⟨lw_p6, List.forall_mem_cons.mpr ⟨lw_p7, List.forall_mem_cons.mpr ⟨lw_p8, List.forall_mem_cons.mpr ⟨lw_p9, List.forall_mem_cons.mpr ⟨lw_p10, List.forall_mem_cons.mpr ⟨lw_p11, List.forall_mem_cons.mpr ⟨lw_p12, List.forall_mem_cons.mpr ⟨lw_p13, List.forall_mem_cons.mpr ⟨lw_p14, List.forall_mem_cons.mpr ⟨lw_p15, fun _ h => absurd h List.not_mem_nil⟩⟩⟩⟩⟩⟩⟩⟩⟩⟩⟩⟩⟩⟩⟩⟩
theorem lw_p16 : lw_okq (⟨"PipeMoments$Settings", "badNumber", "(C)I"⟩, 9) := ⟨⟨by decide +kernel, by decide +kernel⟩, List.mem_of_getElem? (i := 98) (by decide +kernel), List.mem_of_getElem? (i := 497) (by decide +kernel), List.mem_of_getElem? (i := 498) (by decide +kernel)⟩
theorem lw_p17 : lw_okq (⟨"PipeMoments$Settings", "isBeyondLimit", "(C)Z"⟩, 9) := ⟨⟨by decide +kernel, by decide +kernel⟩, List.mem_of_getElem? (i := 98) (by decide +kernel), List.mem_of_getElem? (i := 505) (by decide +kernel), List.mem_of_getElem? (i := 506) (by decide +kernel)⟩
theorem lw_p18 : lw_okq (⟨"PipeMoments$Settings", "settle", "(C)V"⟩, 9) := ⟨⟨by decide +kernel, by decide +kernel⟩, List.mem_of_getElem? (i := 98) (by decide +kernel), List.mem_of_getElem? (i := 511) (by decide +kernel), List.mem_of_getElem? (i := 512) (by decide +kernel)⟩
theorem lw_p19 : lw_okq (⟨"PipeMomentsModel", "asIs", "()V"⟩, 23) := ⟨⟨by decide +kernel, by decide +kernel⟩, List.mem_of_getElem? (i := 527) (by decide +kernel), List.mem_of_getElem? (i := 533) (by decide +kernel), List.mem_of_getElem? (i := 534) (by decide +kernel)⟩
theorem lw_p20 : lw_okq (⟨"PipeMomentsModel", "keeps", "()V"⟩, 23) := ⟨⟨by decide +kernel, by decide +kernel⟩, List.mem_of_getElem? (i := 527) (by decide +kernel), List.mem_of_getElem? (i := 615) (by decide +kernel), List.mem_of_getElem? (i := 616) (by decide +kernel)⟩
theorem lw_p21 : lw_okq (⟨"PipeMomentsModel", "adds", "(II)I"⟩, 23) := ⟨⟨by decide +kernel, by decide +kernel⟩, List.mem_of_getElem? (i := 527) (by decide +kernel), List.mem_of_getElem? (i := 619) (by decide +kernel), List.mem_of_getElem? (i := 620) (by decide +kernel)⟩
theorem lw_p22 : lw_okq (⟨"PipeMomentsModel", "acted", "(I)I"⟩, 23) := ⟨⟨by decide +kernel, by decide +kernel⟩, List.mem_of_getElem? (i := 527) (by decide +kernel), List.mem_of_getElem? (i := 624) (by decide +kernel), List.mem_of_getElem? (i := 625) (by decide +kernel)⟩
theorem lw_p23 : lw_okq (⟨"PipeMomentsModel", "isPlace", "(I)Z"⟩, 23) := ⟨⟨by decide +kernel, by decide +kernel⟩, List.mem_of_getElem? (i := 527) (by decide +kernel), List.mem_of_getElem? (i := 632) (by decide +kernel), List.mem_of_getElem? (i := 633) (by decide +kernel)⟩
theorem lw_p24 : lw_okq (⟨"PipeMomentsModel", "lays", "(IIII)I"⟩, 23) := ⟨⟨by decide +kernel, by decide +kernel⟩, List.mem_of_getElem? (i := 527) (by decide +kernel), List.mem_of_getElem? (i := 636) (by decide +kernel), List.mem_of_getElem? (i := 637) (by decide +kernel)⟩
theorem lw_p25 : lw_okq (⟨"PipeMomentsModel", "isPipe", "(I)Z"⟩, 23) := ⟨⟨by decide +kernel, by decide +kernel⟩, List.mem_of_getElem? (i := 527) (by decide +kernel), List.mem_of_getElem? (i := 644) (by decide +kernel), List.mem_of_getElem? (i := 645) (by decide +kernel)⟩
theorem lw_p26 : lw_okq (⟨"PipeMomentsModel", "opens", "(III)I"⟩, 23) := ⟨⟨by decide +kernel, by decide +kernel⟩, List.mem_of_getElem? (i := 527) (by decide +kernel), List.mem_of_getElem? (i := 652) (by decide +kernel), List.mem_of_getElem? (i := 653) (by decide +kernel)⟩
theorem lw_p27 : lw_okq (⟨"PipeMomentsModel", "becomes", "(II)I"⟩, 23) := ⟨⟨by decide +kernel, by decide +kernel⟩, List.mem_of_getElem? (i := 527) (by decide +kernel), List.mem_of_getElem? (i := 660) (by decide +kernel), List.mem_of_getElem? (i := 661) (by decide +kernel)⟩
theorem lw_p28 : lw_okq (⟨"PipeMomentsModel", "pi", "(II)I"⟩, 23) := ⟨⟨by decide +kernel, by decide +kernel⟩, List.mem_of_getElem? (i := 527) (by decide +kernel), List.mem_of_getElem? (i := 676) (by decide +kernel), List.mem_of_getElem? (i := 677) (by decide +kernel)⟩
theorem lw_p29 : lw_okq (⟨"PipeMomentsModel", "pipesOf", "(II)I"⟩, 23) := ⟨⟨by decide +kernel, by decide +kernel⟩, List.mem_of_getElem? (i := 527) (by decide +kernel), List.mem_of_getElem? (i := 684) (by decide +kernel), List.mem_of_getElem? (i := 685) (by decide +kernel)⟩
theorem lw_p30 : lw_okq (⟨"PipeMomentsModel", "alone", "(I)I"⟩, 23) := ⟨⟨by decide +kernel, by decide +kernel⟩, List.mem_of_getElem? (i := 527) (by decide +kernel), List.mem_of_getElem? (i := 688) (by decide +kernel), List.mem_of_getElem? (i := 689) (by decide +kernel)⟩
theorem lw_p31 : lw_okq (⟨"PipeMomentsModel", "comes", "(I)I"⟩, 23) := ⟨⟨by decide +kernel, by decide +kernel⟩, List.mem_of_getElem? (i := 527) (by decide +kernel), List.mem_of_getElem? (i := 697) (by decide +kernel), List.mem_of_getElem? (i := 698) (by decide +kernel)⟩
def lw_privs_2 : List (MethodName × Nat) := [(⟨"PipeMoments$Settings", "badNumber", "(C)I"⟩, 9), (⟨"PipeMoments$Settings", "isBeyondLimit", "(C)Z"⟩, 9), (⟨"PipeMoments$Settings", "settle", "(C)V"⟩, 9), (⟨"PipeMomentsModel", "asIs", "()V"⟩, 23), (⟨"PipeMomentsModel", "keeps", "()V"⟩, 23), (⟨"PipeMomentsModel", "adds", "(II)I"⟩, 23), (⟨"PipeMomentsModel", "acted", "(I)I"⟩, 23), (⟨"PipeMomentsModel", "isPlace", "(I)Z"⟩, 23), (⟨"PipeMomentsModel", "lays", "(IIII)I"⟩, 23), (⟨"PipeMomentsModel", "isPipe", "(I)Z"⟩, 23), (⟨"PipeMomentsModel", "opens", "(III)I"⟩, 23), (⟨"PipeMomentsModel", "becomes", "(II)I"⟩, 23), (⟨"PipeMomentsModel", "pi", "(II)I"⟩, 23), (⟨"PipeMomentsModel", "pipesOf", "(II)I"⟩, 23), (⟨"PipeMomentsModel", "alone", "(I)I"⟩, 23), (⟨"PipeMomentsModel", "comes", "(I)I"⟩, 23)]
theorem lw_r2 : ∀ q ∈ lw_privs_2, lw_okq q := List.forall_mem_cons.mpr ⟨lw_p16, List.forall_mem_cons.mpr ⟨lw_p17, List.forall_mem_cons.mpr ⟨lw_p18, List.forall_mem_cons.mpr ⟨lw_p19, List.forall_mem_cons.mpr ⟨lw_p20, List.forall_mem_cons.mpr ⟨lw_p21, List.forall_mem_cons.mpr ⟨lw_p22, List.forall_mem_cons.mpr ⟨lw_p23, List.forall_mem_cons.mpr ⟨lw_p24, List.forall_mem_cons.mpr ⟨lw_p25, List.forall_mem_cons.mpr ⟨lw_p26, List.forall_mem_cons.mpr ⟨lw_p27, List.forall_mem_cons.mpr ⟨lw_p28, List.forall_mem_cons.mpr ⟨lw_p29, List.forall_mem_cons.mpr ⟨lw_p30, List.forall_mem_cons.mpr ⟨lw_p31, fun _ h => absurd h List.not_mem_nil⟩⟩⟩⟩⟩⟩⟩⟩⟩⟩⟩⟩⟩⟩⟩⟩
theorem lw_p32 : lw_okq (⟨"PipeMomentsModel", "finds", "()Z"⟩, 23) := ⟨⟨by decide +kernel, by decide +kernel⟩, List.mem_of_getElem? (i := 527) (by decide +kernel), List.mem_of_getElem? (i := 701) (by decide +kernel), List.mem_of_getElem? (i := 702) (by decide +kernel)⟩
theorem lw_p33 : lw_okq (⟨"PipeMomentsModel", "unitsOf", "(I)I"⟩, 23) := ⟨⟨by decide +kernel, by decide +kernel⟩, List.mem_of_getElem? (i := 527) (by decide +kernel), List.mem_of_getElem? (i := 705) (by decide +kernel), List.mem_of_getElem? (i := 706) (by decide +kernel)⟩
theorem lw_p34 : lw_okq (⟨"PipeMomentsModel", "reaches", "(III)V"⟩, 23) := ⟨⟨by decide +kernel, by decide +kernel⟩, List.mem_of_getElem? (i := 527) (by decide +kernel), List.mem_of_getElem? (i := 710) (by decide +kernel), List.mem_of_getElem? (i := 711) (by decide +kernel)⟩
theorem lw_p35 : lw_okq (⟨"PipeMomentsModel", "looks", "(I)V"⟩, 23) := ⟨⟨by decide +kernel, by decide +kernel⟩, List.mem_of_getElem? (i := 527) (by decide +kernel), List.mem_of_getElem? (i := 714) (by decide +kernel), List.mem_of_getElem? (i := 715) (by decide +kernel)⟩
theorem lw_p36 : lw_okq (⟨"PipeMomentsModel", "roomOf", "(I)I"⟩, 23) := ⟨⟨by decide +kernel, by decide +kernel⟩, List.mem_of_getElem? (i := 527) (by decide +kernel), List.mem_of_getElem? (i := 718) (by decide +kernel), List.mem_of_getElem? (i := 719) (by decide +kernel)⟩
theorem lw_p37 : lw_okq (⟨"PipeMomentsModel", "isOpen", "(II)Z"⟩, 23) := ⟨⟨by decide +kernel, by decide +kernel⟩, List.mem_of_getElem? (i := 527) (by decide +kernel), List.mem_of_getElem? (i := 722) (by decide +kernel), List.mem_of_getElem? (i := 723) (by decide +kernel)⟩
theorem lw_p38 : lw_okq (⟨"PipeMomentsModel", "goes", "()V"⟩, 23) := ⟨⟨by decide +kernel, by decide +kernel⟩, List.mem_of_getElem? (i := 527) (by decide +kernel), List.mem_of_getElem? (i := 726) (by decide +kernel), List.mem_of_getElem? (i := 727) (by decide +kernel)⟩
theorem lw_p39 : lw_okq (⟨"PipeMomentsModel", "all", "()I"⟩, 23) := ⟨⟨by decide +kernel, by decide +kernel⟩, List.mem_of_getElem? (i := 527) (by decide +kernel), List.mem_of_getElem? (i := 734) (by decide +kernel), List.mem_of_getElem? (i := 735) (by decide +kernel)⟩
theorem lw_p40 : lw_okq (⟨"PipeMomentsModel", "isNarrow", "(I)Z"⟩, 23) := ⟨⟨by decide +kernel, by decide +kernel⟩, List.mem_of_getElem? (i := 527) (by decide +kernel), List.mem_of_getElem? (i := 746) (by decide +kernel), List.mem_of_getElem? (i := 747) (by decide +kernel)⟩
theorem lw_p41 : lw_okq (⟨"PipeMomentsModel", "bounds", "()I"⟩, 23) := ⟨⟨by decide +kernel, by decide +kernel⟩, List.mem_of_getElem? (i := 527) (by decide +kernel), List.mem_of_getElem? (i := 770) (by decide +kernel), List.mem_of_getElem? (i := 771) (by decide +kernel)⟩
theorem lw_p42 : lw_okq (⟨"PipeMomentsModel", "faulty", "()I"⟩, 23) := ⟨⟨by decide +kernel, by decide +kernel⟩, List.mem_of_getElem? (i := 527) (by decide +kernel), List.mem_of_getElem? (i := 791) (by decide +kernel), List.mem_of_getElem? (i := 792) (by decide +kernel)⟩
theorem lw_p43 : lw_okq (⟨"PipeMomentsModel", "doesNext", "()I"⟩, 23) := ⟨⟨by decide +kernel, by decide +kernel⟩, List.mem_of_getElem? (i := 527) (by decide +kernel), List.mem_of_getElem? (i := 795) (by decide +kernel), List.mem_of_getElem? (i := 796) (by decide +kernel)⟩
theorem lw_p44 : lw_okq (⟨"PipeMomentsModel", "sign", "()I"⟩, 23) := ⟨⟨by decide +kernel, by decide +kernel⟩, List.mem_of_getElem? (i := 527) (by decide +kernel), List.mem_of_getElem? (i := 799) (by decide +kernel), List.mem_of_getElem? (i := 800) (by decide +kernel)⟩
theorem lw_p45 : lw_okq (⟨"PipeMomentsModel", "reads", "(I)Z"⟩, 23) := ⟨⟨by decide +kernel, by decide +kernel⟩, List.mem_of_getElem? (i := 527) (by decide +kernel), List.mem_of_getElem? (i := 803) (by decide +kernel), List.mem_of_getElem? (i := 804) (by decide +kernel)⟩
theorem lw_p46 : lw_okq (⟨"PipeMomentsModel", "readsNumber", "(I)Z"⟩, 23) := ⟨⟨by decide +kernel, by decide +kernel⟩, List.mem_of_getElem? (i := 527) (by decide +kernel), List.mem_of_getElem? (i := 807) (by decide +kernel), List.mem_of_getElem? (i := 808) (by decide +kernel)⟩
theorem lw_p47 : lw_okq (⟨"PipeMomentsModel", "isRight", "(II)Z"⟩, 23) := ⟨⟨by decide +kernel, by decide +kernel⟩, List.mem_of_getElem? (i := 527) (by decide +kernel), List.mem_of_getElem? (i := 811) (by decide +kernel), List.mem_of_getElem? (i := 812) (by decide +kernel)⟩
def lw_privs_3 : List (MethodName × Nat) := [(⟨"PipeMomentsModel", "finds", "()Z"⟩, 23), (⟨"PipeMomentsModel", "unitsOf", "(I)I"⟩, 23), (⟨"PipeMomentsModel", "reaches", "(III)V"⟩, 23), (⟨"PipeMomentsModel", "looks", "(I)V"⟩, 23), (⟨"PipeMomentsModel", "roomOf", "(I)I"⟩, 23), (⟨"PipeMomentsModel", "isOpen", "(II)Z"⟩, 23), (⟨"PipeMomentsModel", "goes", "()V"⟩, 23), (⟨"PipeMomentsModel", "all", "()I"⟩, 23), (⟨"PipeMomentsModel", "isNarrow", "(I)Z"⟩, 23), (⟨"PipeMomentsModel", "bounds", "()I"⟩, 23), (⟨"PipeMomentsModel", "faulty", "()I"⟩, 23), (⟨"PipeMomentsModel", "doesNext", "()I"⟩, 23), (⟨"PipeMomentsModel", "sign", "()I"⟩, 23), (⟨"PipeMomentsModel", "reads", "(I)Z"⟩, 23), (⟨"PipeMomentsModel", "readsNumber", "(I)Z"⟩, 23), (⟨"PipeMomentsModel", "isRight", "(II)Z"⟩, 23)]
theorem lw_r3 : ∀ q ∈ lw_privs_3, lw_okq q := List.forall_mem_cons.mpr ⟨lw_p32, List.forall_mem_cons.mpr ⟨lw_p33, List.forall_mem_cons.mpr ⟨lw_p34, List.forall_mem_cons.mpr ⟨lw_p35, List.forall_mem_cons.mpr ⟨lw_p36, List.forall_mem_cons.mpr ⟨lw_p37, List.forall_mem_cons.mpr ⟨lw_p38, List.forall_mem_cons.mpr ⟨lw_p39, List.forall_mem_cons.mpr ⟨lw_p40, List.forall_mem_cons.mpr ⟨lw_p41, List.forall_mem_cons.mpr ⟨lw_p42, List.forall_mem_cons.mpr ⟨lw_p43, List.forall_mem_cons.mpr ⟨lw_p44, List.forall_mem_cons.mpr ⟨lw_p45, List.forall_mem_cons.mpr ⟨lw_p46, List.forall_mem_cons.mpr ⟨lw_p47, fun _ h => absurd h List.not_mem_nil⟩⟩⟩⟩⟩⟩⟩⟩⟩⟩⟩⟩⟩⟩⟩⟩
theorem lw_p48 : lw_okq (⟨"PipeMomentsModel", "does", "(I)I"⟩, 23) := ⟨⟨by decide +kernel, by decide +kernel⟩, List.mem_of_getElem? (i := 527) (by decide +kernel), List.mem_of_getElem? (i := 815) (by decide +kernel), List.mem_of_getElem? (i := 816) (by decide +kernel)⟩
def lw_privs_4 : List (MethodName × Nat) := [(⟨"PipeMomentsModel", "does", "(I)I"⟩, 23)]
theorem lw_r4 : ∀ q ∈ lw_privs_4, lw_okq q := List.forall_mem_cons.mpr ⟨lw_p48, fun _ h => absurd h List.not_mem_nil⟩
def lw_privs : List (MethodName × Nat) := lw_privs_1 ++ (lw_privs_2 ++ (lw_privs_3 ++ (lw_privs_4)))
def lw_tbl : List Cond := k2_sels lw_privs ++ tables_1
theorem lw_privs_ok : ∀ q ∈ lw_privs, lw_okq q := by
  show ∀ q ∈ lw_privs_1 ++ (lw_privs_2 ++ (lw_privs_3 ++ (lw_privs_4))), lw_okq q
  exact List.forall_mem_append.mpr ⟨lw_r1, List.forall_mem_append.mpr ⟨lw_r2, List.forall_mem_append.mpr ⟨lw_r3, lw_r4⟩⟩⟩

def RX0 : String := "PipeMoments$History"
def TX0 : u_T := fun k => match k with
  | 0 => ("PipeMoments$History", "states", "[LPipeMoments$Layout;", true)
  | _ => ("PipeMoments$History", "kept", "I", false)
def tyX0 : Nat → FieldType := fun k => match k with
  | 0 => .array (.object "PipeMoments$Layout")
  | _ => .int
abbrev wsX00 : List Cond := u_ws RX0 TX0 2
theorem nmX0 : ∀ a, a < 2 → ∀ b, b < 2 → a ≠ b → (TX0 a).2.1 ≠ (TX0 b).2.1 := by decide +kernel
theorem tyX0_ok : ∀ k, k < 2 → parseFieldDescriptor (TX0 k).2.2.1 = some (tyX0 k) := by decide +kernel
abbrev cX0_init : ByteArray := prog_2_method_1_code
def yX0_init : MethodName := ⟨RX0, "<init>", "()V"⟩
abbrev cX0_keep : ByteArray := prog_2_method_2_code
def yX0_keep : MethodName := ⟨RX0, "keep", "(LPipeMoments$Layout;)V"⟩
abbrev cX0_restore : ByteArray := prog_2_method_3_code
def yX0_restore : MethodName := ⟨RX0, "restore", "(LPipeMoments$Layout;)V"⟩
abbrev cX0_dropOldest : ByteArray := prog_2_method_4_code
def yX0_dropOldest : MethodName := ⟨RX0, "dropOldest", "()V"⟩
def RX1 : String := "PipeMoments$Layout"
def TX1 : u_T := fun k => match k with
  | 0 => ("PipeMoments$Layout", "unitsAt", "[I", true)
  | 1 => ("PipeMoments$Layout", "roomAt", "[I", true)
  | 2 => ("PipeMoments$Layout", "parts", "[I", true)
  | 3 => ("PipeMoments$Layout", "placeCount", "I", false)
  | _ => ("PipeMoments$Layout", "pipeCount", "I", false)
def tyX1 : Nat → FieldType := fun k => match k with
  | 0 => .array .int
  | 1 => .array .int
  | 2 => .array .int
  | 3 => .int
  | _ => .int
abbrev wsX10 : List Cond := u_ws RX1 TX1 5
theorem nmX1 : ∀ a, a < 5 → ∀ b, b < 5 → a ≠ b → (TX1 a).2.1 ≠ (TX1 b).2.1 := by decide +kernel
theorem tyX1_ok : ∀ k, k < 5 → parseFieldDescriptor (TX1 k).2.2.1 = some (tyX1 k) := by decide +kernel
abbrev cX1_init : ByteArray := prog_3_method_1_code
def yX1_init : MethodName := ⟨RX1, "<init>", "()V"⟩
abbrev cX1_copyFrom : ByteArray := prog_3_method_2_code
def yX1_copyFrom : MethodName := ⟨RX1, "copyFrom", "(LPipeMoments$Layout;)V"⟩
abbrev cX1_isPlace : ByteArray := prog_3_method_3_code
def yX1_isPlace : MethodName := ⟨RX1, "isPlace", "(I)Z"⟩
abbrev cX1_isPipe : ByteArray := prog_3_method_4_code
def yX1_isPipe : MethodName := ⟨RX1, "isPipe", "(I)Z"⟩
abbrev cX1_placesAreFull : ByteArray := prog_3_method_5_code
def yX1_placesAreFull : MethodName := ⟨RX1, "placesAreFull", "()Z"⟩
abbrev cX1_pipesAreFull : ByteArray := prog_3_method_6_code
def yX1_pipesAreFull : MethodName := ⟨RX1, "pipesAreFull", "()Z"⟩
abbrev cX1_badOfPlace : ByteArray := prog_3_method_7_code
def yX1_badOfPlace : MethodName := ⟨RX1, "badOfPlace", "(II)I"⟩
abbrev cX1_badOfPipe : ByteArray := prog_3_method_8_code
def yX1_badOfPipe : MethodName := ⟨RX1, "badOfPipe", "(IIII)I"⟩
abbrev cX1_badOfOpening : ByteArray := prog_3_method_9_code
def yX1_badOfOpening : MethodName := ⟨RX1, "badOfOpening", "(III)I"⟩
abbrev cX1_badOfUnits : ByteArray := prog_3_method_10_code
def yX1_badOfUnits : MethodName := ⟨RX1, "badOfUnits", "(II)I"⟩
abbrev cX1_addPlace : ByteArray := prog_3_method_11_code
def yX1_addPlace : MethodName := ⟨RX1, "addPlace", "(II)I"⟩
abbrev cX1_addPipe : ByteArray := prog_3_method_12_code
def yX1_addPipe : MethodName := ⟨RX1, "addPipe", "(IIII)I"⟩
abbrev cX1_removePipe : ByteArray := prog_3_method_13_code
def yX1_removePipe : MethodName := ⟨RX1, "removePipe", "(I)V"⟩
abbrev cX1_setOpening : ByteArray := prog_3_method_14_code
def yX1_setOpening : MethodName := ⟨RX1, "setOpening", "(III)V"⟩
abbrev cX1_partOf : ByteArray := prog_3_method_15_code
def yX1_partOf : MethodName := ⟨RX1, "partOf", "(II)I"⟩
abbrev cX1_setPart : ByteArray := prog_3_method_16_code
def yX1_setPart : MethodName := ⟨RX1, "setPart", "(III)V"⟩
abbrev cX1_boundIn : ByteArray := prog_3_method_17_code
def yX1_boundIn : MethodName := ⟨RX1, "boundIn", "(II)I"⟩
abbrev cX1_pipesWith : ByteArray := prog_3_method_18_code
def yX1_pipesWith : MethodName := ⟨RX1, "pipesWith", "(II)I"⟩
abbrev cX1_allUnits : ByteArray := prog_3_method_19_code
def yX1_allUnits : MethodName := ⟨RX1, "allUnits", "()I"⟩
abbrev cX1_allBounds : ByteArray := prog_3_method_20_code
def yX1_allBounds : MethodName := ⟨RX1, "allBounds", "()I"⟩
def RX2 : String := "PipeMoments$Settings"
def TX2 : u_T := fun k => match k with
  | 0 => ("PipeMoments$Settings", "signs", "[C", true)
  | 1 => ("PipeMoments$Settings", "numbers", "[I", true)
  | 2 => ("PipeMoments$Settings", "trial", "LPipeMoments$Layout;", true)
  | 3 => ("PipeMoments$Settings", "length", "I", false)
  | 4 => ("PipeMoments$Settings", "next", "I", false)
  | 5 => ("PipeMoments$Settings", "start", "I", false)
  | 6 => ("PipeMoments$Settings", "reason", "I", false)
  | 7 => ("PipeMoments$Settings", "cause", "I", false)
  | _ => ("PipeMoments$Settings", "settled", "I", false)
def tyX2 : Nat → FieldType := fun k => match k with
  | 0 => .array .char
  | 1 => .array .int
  | 2 => .object "PipeMoments$Layout"
  | 3 => .int
  | 4 => .int
  | 5 => .int
  | 6 => .int
  | 7 => .int
  | _ => .int
abbrev wsX20 : List Cond := u_ws RX2 TX2 9
theorem nmX2 : ∀ a, a < 9 → ∀ b, b < 9 → a ≠ b → (TX2 a).2.1 ≠ (TX2 b).2.1 := by decide +kernel
theorem tyX2_ok : ∀ k, k < 9 → parseFieldDescriptor (TX2 k).2.2.1 = some (tyX2 k) := by decide +kernel
abbrev cX2_init : ByteArray := prog_4_method_1_code
def yX2_init : MethodName := ⟨RX2, "<init>", "()V"⟩
abbrev cX2_append : ByteArray := prog_4_method_2_code
def yX2_append : MethodName := ⟨RX2, "append", "(C)I"⟩
abbrev cX2_empty : ByteArray := prog_4_method_3_code
def yX2_empty : MethodName := ⟨RX2, "empty", "()I"⟩
abbrev cX2_faultPart : ByteArray := prog_4_method_4_code
def yX2_faultPart : MethodName := ⟨RX2, "faultPart", "(I)I"⟩
abbrev cX2_read : ByteArray := prog_4_method_5_code
def yX2_read : MethodName := ⟨RX2, "read", "(LPipeMoments$Layout;)V"⟩
abbrev cX2_readSetting : ByteArray := prog_4_method_6_code
def yX2_readSetting : MethodName := ⟨RX2, "readSetting", "()V"⟩
abbrev cX2_readForm : ByteArray := prog_4_method_7_code
def yX2_readForm : MethodName := ⟨RX2, "readForm", "(C)Z"⟩
abbrev cX2_numbersOf : ByteArray := prog_4_method_8_code
def yX2_numbersOf : MethodName := ⟨RX2, "numbersOf", "(C)I"⟩
abbrev cX2_readNumber : ByteArray := prog_4_method_9_code
def yX2_readNumber : MethodName := ⟨RX2, "readNumber", "(I)Z"⟩
abbrev cX2_isDigitNext : ByteArray := prog_4_method_10_code
def yX2_isDigitNext : MethodName := ⟨RX2, "isDigitNext", "()Z"⟩
abbrev cX2_readSign : ByteArray := prog_4_method_11_code
def yX2_readSign : MethodName := ⟨RX2, "readSign", "(C)Z"⟩
abbrev cX2_badNumber : ByteArray := prog_4_method_12_code
def yX2_badNumber : MethodName := ⟨RX2, "badNumber", "(C)I"⟩
abbrev cX2_isBeyondLimit : ByteArray := prog_4_method_13_code
def yX2_isBeyondLimit : MethodName := ⟨RX2, "isBeyondLimit", "(C)Z"⟩
abbrev cX2_settle : ByteArray := prog_4_method_14_code
def yX2_settle : MethodName := ⟨RX2, "settle", "(C)V"⟩
def RX3 : String := "PipeMoments$Stream"
def TX3 : u_T := fun k => match k with
  | 0 => ("PipeMoments$Stream", "net", "LPipeMoments$Layout;", true)
  | 1 => ("PipeMoments$Stream", "left", "[I", true)
  | 2 => ("PipeMoments$Stream", "reachedBy", "[I", true)
  | 3 => ("PipeMoments$Stream", "reachedFrom", "[I", true)
  | 4 => ("PipeMoments$Stream", "queue", "[I", true)
  | 5 => ("PipeMoments$Stream", "queued", "I", false)
  | _ => ("PipeMoments$Stream", "arrival", "I", false)
def tyX3 : Nat → FieldType := fun k => match k with
  | 0 => .object "PipeMoments$Layout"
  | 1 => .array .int
  | 2 => .array .int
  | 3 => .array .int
  | 4 => .array .int
  | 5 => .int
  | _ => .int
abbrev wsX30 : List Cond := u_ws RX3 TX3 7
theorem nmX3 : ∀ a, a < 7 → ∀ b, b < 7 → a ≠ b → (TX3 a).2.1 ≠ (TX3 b).2.1 := by decide +kernel
theorem tyX3_ok : ∀ k, k < 7 → parseFieldDescriptor (TX3 k).2.2.1 = some (tyX3 k) := by decide +kernel
abbrev cX3_init : ByteArray := prog_5_method_1_code
def yX3_init : MethodName := ⟨RX3, "<init>", "()V"⟩
abbrev cX3_most : ByteArray := prog_5_method_2_code
def yX3_most : MethodName := ⟨RX3, "most", "(LPipeMoments$Layout;I)I"⟩
abbrev cX3_mostWithout : ByteArray := prog_5_method_3_code
def yX3_mostWithout : MethodName := ⟨RX3, "mostWithout", "(LPipeMoments$Layout;II)I"⟩
abbrev cX3_mostWider : ByteArray := prog_5_method_4_code
def yX3_mostWider : MethodName := ⟨RX3, "mostWider", "(LPipeMoments$Layout;II)I"⟩
abbrev cX3_mostWithUnit : ByteArray := prog_5_method_5_code
def yX3_mostWithUnit : MethodName := ⟨RX3, "mostWithUnit", "(LPipeMoments$Layout;II)I"⟩
abbrev cX3_mostRepeated : ByteArray := prog_5_method_6_code
def yX3_mostRepeated : MethodName := ⟨RX3, "mostRepeated", "(LPipeMoments$Layout;II)I"⟩
abbrev cX3_leastTick : ByteArray := prog_5_method_7_code
def yX3_leastTick : MethodName := ⟨RX3, "leastTick", "(LPipeMoments$Layout;I)I"⟩
abbrev cX3_leastTickAlone : ByteArray := prog_5_method_8_code
def yX3_leastTickAlone : MethodName := ⟨RX3, "leastTickAlone", "(LPipeMoments$Layout;I)I"⟩
abbrev cX3_usedPipes : ByteArray := prog_5_method_9_code
def yX3_usedPipes : MethodName := ⟨RX3, "usedPipes", "()I"⟩
abbrev cX3_isWanting : ByteArray := prog_5_method_10_code
def yX3_isWanting : MethodName := ⟨RX3, "isWanting", "(II)Z"⟩
abbrev cX3_narrowPipes : ByteArray := prog_5_method_11_code
def yX3_narrowPipes : MethodName := ⟨RX3, "narrowPipes", "(I)I"⟩
abbrev cX3_isNarrow : ByteArray := prog_5_method_12_code
def yX3_isNarrow : MethodName := ⟨RX3, "isNarrow", "(II)Z"⟩
abbrev cX3_mostBy : ByteArray := prog_5_method_13_code
def yX3_mostBy : MethodName := ⟨RX3, "mostBy", "(I)I"⟩
abbrev cX3_leastTickFor : ByteArray := prog_5_method_14_code
def yX3_leastTickFor : MethodName := ⟨RX3, "leastTickFor", "(I)I"⟩
abbrev cX3_through : ByteArray := prog_5_method_15_code
def yX3_through : MethodName := ⟨RX3, "through", "(II)I"⟩
abbrev cX3_waiting : ByteArray := prog_5_method_16_code
def yX3_waiting : MethodName := ⟨RX3, "waiting", "(I)I"⟩
abbrev cX3_settingOut : ByteArray := prog_5_method_17_code
def yX3_settingOut : MethodName := ⟨RX3, "settingOut", "(I)I"⟩
abbrev cX3_back : ByteArray := prog_5_method_18_code
def yX3_back : MethodName := ⟨RX3, "back", "(I)I"⟩
abbrev cX3_begin : ByteArray := prog_5_method_19_code
def yX3_begin : MethodName := ⟨RX3, "begin", "()V"⟩
abbrev cX3_bind : ByteArray := prog_5_method_20_code
def yX3_bind : MethodName := ⟨RX3, "bind", "(II)V"⟩
abbrev cX3_moreBy : ByteArray := prog_5_method_21_code
def yX3_moreBy : MethodName := ⟨RX3, "moreBy", "(I)I"⟩
abbrev cX3_search : ByteArray := prog_5_method_22_code
def yX3_search : MethodName := ⟨RX3, "search", "(I)V"⟩
abbrev cX3_spread : ByteArray := prog_5_method_23_code
def yX3_spread : MethodName := ⟨RX3, "spread", "(II)V"⟩
abbrev cX3_tryWay : ByteArray := prog_5_method_24_code
def yX3_tryWay : MethodName := ⟨RX3, "tryWay", "(III)V"⟩
abbrev cX3_carryToArrival : ByteArray := prog_5_method_25_code
def yX3_carryToArrival : MethodName := ⟨RX3, "carryToArrival", "()I"⟩
def RX4 : String := "PipeMoments"
def TX4 : u_T := fun k => match k with
  | 0 => ("PipeMoments", "laid", "LPipeMoments$Layout;", true)
  | 1 => ("PipeMoments", "history", "LPipeMoments$History;", true)
  | 2 => ("PipeMoments", "stream", "LPipeMoments$Stream;", true)
  | _ => ("PipeMoments", "settings", "LPipeMoments$Settings;", true)
def tyX4 : Nat → FieldType := fun k => match k with
  | 0 => .object "PipeMoments$Layout"
  | 1 => .object "PipeMoments$History"
  | 2 => .object "PipeMoments$Stream"
  | _ => .object "PipeMoments$Settings"
abbrev wsX40 : List Cond := u_ws RX4 TX4 4
theorem nmX4 : ∀ a, a < 4 → ∀ b, b < 4 → a ≠ b → (TX4 a).2.1 ≠ (TX4 b).2.1 := by decide +kernel
theorem tyX4_ok : ∀ k, k < 4 → parseFieldDescriptor (TX4 k).2.2.1 = some (tyX4 k) := by decide +kernel
abbrev cX4_init : ByteArray := prog_1_method_1_code
def yX4_init : MethodName := ⟨RX4, "<init>", "()V"⟩
abbrev cX4_place : ByteArray := prog_1_method_2_code
def yX4_place : MethodName := ⟨RX4, "place", "(II)I"⟩
abbrev cX4_pipe : ByteArray := prog_1_method_3_code
def yX4_pipe : MethodName := ⟨RX4, "pipe", "(IIII)I"⟩
abbrev cX4_dropPipe : ByteArray := prog_1_method_4_code
def yX4_dropPipe : MethodName := ⟨RX4, "dropPipe", "(I)I"⟩
abbrev cX4_open : ByteArray := prog_1_method_5_code
def yX4_open : MethodName := ⟨RX4, "open", "(III)I"⟩
abbrev cX4_widen : ByteArray := prog_1_method_6_code
def yX4_widen : MethodName := ⟨RX4, "widen", "(II)I"⟩
abbrev cX4_units : ByteArray := prog_1_method_7_code
def yX4_units : MethodName := ⟨RX4, "units", "(II)I"⟩
abbrev cX4_room : ByteArray := prog_1_method_8_code
def yX4_room : MethodName := ⟨RX4, "room", "(II)I"⟩
abbrev cX4_pipeOf : ByteArray := prog_1_method_9_code
def yX4_pipeOf : MethodName := ⟨RX4, "pipeOf", "(II)I"⟩
abbrev cX4_placeOf : ByteArray := prog_1_method_10_code
def yX4_placeOf : MethodName := ⟨RX4, "placeOf", "(II)I"⟩
abbrev cX4_come : ByteArray := prog_1_method_11_code
def yX4_come : MethodName := ⟨RX4, "come", "(I)I"⟩
abbrev cX4_earliest : ByteArray := prog_1_method_12_code
def yX4_earliest : MethodName := ⟨RX4, "earliest", "(I)I"⟩
abbrev cX4_repeated : ByteArray := prog_1_method_13_code
def yX4_repeated : MethodName := ⟨RX4, "repeated", "(II)I"⟩
abbrev cX4_narrow : ByteArray := prog_1_method_14_code
def yX4_narrow : MethodName := ⟨RX4, "narrow", "(I)I"⟩
abbrev cX4_wanting : ByteArray := prog_1_method_15_code
def yX4_wanting : MethodName := ⟨RX4, "wanting", "(III)I"⟩
abbrev cX4_dearest : ByteArray := prog_1_method_16_code
def yX4_dearest : MethodName := ⟨RX4, "dearest", "(II)I"⟩
abbrev cX4_helpful : ByteArray := prog_1_method_17_code
def yX4_helpful : MethodName := ⟨RX4, "helpful", "(II)I"⟩
abbrev cX4_withOneMore : ByteArray := prog_1_method_18_code
def yX4_withOneMore : MethodName := ⟨RX4, "withOneMore", "(II)I"⟩
abbrev cX4_count : ByteArray := prog_1_method_19_code
def yX4_count : MethodName := ⟨RX4, "count", "(I)I"⟩
abbrev cX4_undo : ByteArray := prog_1_method_20_code
def yX4_undo : MethodName := ⟨RX4, "undo", "()I"⟩
abbrev cX4_type : ByteArray := prog_1_method_21_code
def yX4_type : MethodName := ⟨RX4, "type", "(I)I"⟩
abbrev cX4_clearText : ByteArray := prog_1_method_22_code
def yX4_clearText : MethodName := ⟨RX4, "clearText", "()I"⟩
abbrev cX4_fault : ByteArray := prog_1_method_23_code
def yX4_fault : MethodName := ⟨RX4, "fault", "(I)I"⟩
abbrev cX4_play : ByteArray := prog_1_method_24_code
def yX4_play : MethodName := ⟨RX4, "play", "()I"⟩
abbrev cX4_within : ByteArray := prog_1_method_25_code
def yX4_within : MethodName := ⟨RX4, "within", "(III)Z"⟩
abbrev cX4_isTick : ByteArray := prog_1_method_26_code
def yX4_isTick : MethodName := ⟨RX4, "isTick", "(I)Z"⟩
abbrev cX4_has : ByteArray := prog_1_method_27_code
def yX4_has : MethodName := ⟨RX4, "has", "(II)Z"⟩
def RX5 : String := "PipeMomentsModel"
def TX5 : u_T := fun k => match k with
  | 0 => ("PipeMomentsModel", "s", "[I", true)
  | 1 => ("PipeMomentsModel", "was", "[I", true)
  | 2 => ("PipeMomentsModel", "begun", "[I", true)
  | 3 => ("PipeMomentsModel", "aside", "[I", true)
  | 4 => ("PipeMomentsModel", "states", "I", false)
  | 5 => ("PipeMomentsModel", "text", "[C", true)
  | 6 => ("PipeMomentsModel", "typed", "I", false)
  | 7 => ("PipeMomentsModel", "at", "I", false)
  | 8 => ("PipeMomentsModel", "reason", "I", false)
  | 9 => ("PipeMomentsModel", "cause", "I", false)
  | 10 => ("PipeMomentsModel", "number", "[I", true)
  | 11 => ("PipeMomentsModel", "out", "[I", true)
  | 12 => ("PipeMomentsModel", "wait", "[I", true)
  | 13 => ("PipeMomentsModel", "enter", "[I", true)
  | 14 => ("PipeMomentsModel", "back", "[I", true)
  | 15 => ("PipeMomentsModel", "by", "[I", true)
  | 16 => ("PipeMomentsModel", "row", "[I", true)
  | 17 => ("PipeMomentsModel", "end", "I", false)
  | 18 => ("PipeMomentsModel", "many", "I", false)
  | 19 => ("PipeMomentsModel", "without", "I", false)
  | 20 => ("PipeMomentsModel", "wider", "I", false)
  | 21 => ("PipeMomentsModel", "more", "I", false)
  | _ => ("PipeMomentsModel", "endless", "I", false)
def tyX5 : Nat → FieldType := fun k => match k with
  | 0 => .array .int
  | 1 => .array .int
  | 2 => .array .int
  | 3 => .array .int
  | 4 => .int
  | 5 => .array .char
  | 6 => .int
  | 7 => .int
  | 8 => .int
  | 9 => .int
  | 10 => .array .int
  | 11 => .array .int
  | 12 => .array .int
  | 13 => .array .int
  | 14 => .array .int
  | 15 => .array .int
  | 16 => .array .int
  | 17 => .int
  | 18 => .int
  | 19 => .int
  | 20 => .int
  | 21 => .int
  | _ => .int
abbrev wsX50 : List Cond := u_ws RX5 TX5 23
theorem nmX5 : ∀ a, a < 23 → ∀ b, b < 23 → a ≠ b → (TX5 a).2.1 ≠ (TX5 b).2.1 := by decide +kernel
theorem tyX5_ok : ∀ k, k < 23 → parseFieldDescriptor (TX5 k).2.2.1 = some (tyX5 k) := by decide +kernel
abbrev cX5_init : ByteArray := prog_7_method_1_code
def yX5_init : MethodName := ⟨RX5, "<init>", "()V"⟩
abbrev cX5_in : ByteArray := prog_7_method_2_code
def yX5_in : MethodName := ⟨RX5, "in", "(III)Z"⟩
abbrev cX5_asIs : ByteArray := prog_7_method_3_code
def yX5_asIs : MethodName := ⟨RX5, "asIs", "()V"⟩
abbrev cX5_isPlace : ByteArray := prog_7_method_4_code
def yX5_isPlace : MethodName := ⟨RX5, "isPlace", "(I)Z"⟩
abbrev cX5_isPipe : ByteArray := prog_7_method_5_code
def yX5_isPipe : MethodName := ⟨RX5, "isPipe", "(I)Z"⟩
abbrev cX5_pi : ByteArray := prog_7_method_6_code
def yX5_pi : MethodName := ⟨RX5, "pi", "(II)I"⟩
abbrev cX5_keeps : ByteArray := prog_7_method_7_code
def yX5_keeps : MethodName := ⟨RX5, "keeps", "()V"⟩
abbrev cX5_acted : ByteArray := prog_7_method_8_code
def yX5_acted : MethodName := ⟨RX5, "acted", "(I)I"⟩
abbrev cX5_adds : ByteArray := prog_7_method_9_code
def yX5_adds : MethodName := ⟨RX5, "adds", "(II)I"⟩
abbrev cX5_place : ByteArray := prog_7_method_10_code
def yX5_place : MethodName := ⟨RX5, "place", "(II)I"⟩
abbrev cX5_lays : ByteArray := prog_7_method_11_code
def yX5_lays : MethodName := ⟨RX5, "lays", "(IIII)I"⟩
abbrev cX5_pipe : ByteArray := prog_7_method_12_code
def yX5_pipe : MethodName := ⟨RX5, "pipe", "(IIII)I"⟩
abbrev cX5_dropPipe : ByteArray := prog_7_method_13_code
def yX5_dropPipe : MethodName := ⟨RX5, "dropPipe", "(I)I"⟩
abbrev cX5_opens : ByteArray := prog_7_method_14_code
def yX5_opens : MethodName := ⟨RX5, "opens", "(III)I"⟩
abbrev cX5_open : ByteArray := prog_7_method_15_code
def yX5_open : MethodName := ⟨RX5, "open", "(III)I"⟩
abbrev cX5_becomes : ByteArray := prog_7_method_16_code
def yX5_becomes : MethodName := ⟨RX5, "becomes", "(II)I"⟩
abbrev cX5_widen : ByteArray := prog_7_method_17_code
def yX5_widen : MethodName := ⟨RX5, "widen", "(II)I"⟩
abbrev cX5_units : ByteArray := prog_7_method_18_code
def yX5_units : MethodName := ⟨RX5, "units", "(II)I"⟩
abbrev cX5_room : ByteArray := prog_7_method_19_code
def yX5_room : MethodName := ⟨RX5, "room", "(II)I"⟩
abbrev cX5_pipeOf : ByteArray := prog_7_method_20_code
def yX5_pipeOf : MethodName := ⟨RX5, "pipeOf", "(II)I"⟩
abbrev cX5_pipesOf : ByteArray := prog_7_method_21_code
def yX5_pipesOf : MethodName := ⟨RX5, "pipesOf", "(II)I"⟩
abbrev cX5_alone : ByteArray := prog_7_method_22_code
def yX5_alone : MethodName := ⟨RX5, "alone", "(I)I"⟩
abbrev cX5_placeOf : ByteArray := prog_7_method_23_code
def yX5_placeOf : MethodName := ⟨RX5, "placeOf", "(II)I"⟩
abbrev cX5_unitsOf : ByteArray := prog_7_method_24_code
def yX5_unitsOf : MethodName := ⟨RX5, "unitsOf", "(I)I"⟩
abbrev cX5_roomOf : ByteArray := prog_7_method_25_code
def yX5_roomOf : MethodName := ⟨RX5, "roomOf", "(I)I"⟩
abbrev cX5_isOpen : ByteArray := prog_7_method_26_code
def yX5_isOpen : MethodName := ⟨RX5, "isOpen", "(II)Z"⟩
abbrev cX5_reaches : ByteArray := prog_7_method_27_code
def yX5_reaches : MethodName := ⟨RX5, "reaches", "(III)V"⟩
abbrev cX5_looks : ByteArray := prog_7_method_28_code
def yX5_looks : MethodName := ⟨RX5, "looks", "(I)V"⟩
abbrev cX5_finds : ByteArray := prog_7_method_29_code
def yX5_finds : MethodName := ⟨RX5, "finds", "()Z"⟩
abbrev cX5_goes : ByteArray := prog_7_method_30_code
def yX5_goes : MethodName := ⟨RX5, "goes", "()V"⟩
abbrev cX5_comes : ByteArray := prog_7_method_31_code
def yX5_comes : MethodName := ⟨RX5, "comes", "(I)I"⟩
abbrev cX5_come : ByteArray := prog_7_method_32_code
def yX5_come : MethodName := ⟨RX5, "come", "(I)I"⟩
abbrev cX5_all : ByteArray := prog_7_method_33_code
def yX5_all : MethodName := ⟨RX5, "all", "()I"⟩
abbrev cX5_earliest : ByteArray := prog_7_method_34_code
def yX5_earliest : MethodName := ⟨RX5, "earliest", "(I)I"⟩
abbrev cX5_repeated : ByteArray := prog_7_method_35_code
def yX5_repeated : MethodName := ⟨RX5, "repeated", "(II)I"⟩
abbrev cX5_isNarrow : ByteArray := prog_7_method_36_code
def yX5_isNarrow : MethodName := ⟨RX5, "isNarrow", "(I)Z"⟩
abbrev cX5_narrow : ByteArray := prog_7_method_37_code
def yX5_narrow : MethodName := ⟨RX5, "narrow", "(I)I"⟩
abbrev cX5_wanting : ByteArray := prog_7_method_38_code
def yX5_wanting : MethodName := ⟨RX5, "wanting", "(III)I"⟩
abbrev cX5_dearest : ByteArray := prog_7_method_39_code
def yX5_dearest : MethodName := ⟨RX5, "dearest", "(II)I"⟩
abbrev cX5_helpful : ByteArray := prog_7_method_40_code
def yX5_helpful : MethodName := ⟨RX5, "helpful", "(II)I"⟩
abbrev cX5_withOneMore : ByteArray := prog_7_method_41_code
def yX5_withOneMore : MethodName := ⟨RX5, "withOneMore", "(II)I"⟩
abbrev cX5_bounds : ByteArray := prog_7_method_42_code
def yX5_bounds : MethodName := ⟨RX5, "bounds", "()I"⟩
abbrev cX5_count : ByteArray := prog_7_method_43_code
def yX5_count : MethodName := ⟨RX5, "count", "(I)I"⟩
abbrev cX5_undo : ByteArray := prog_7_method_44_code
def yX5_undo : MethodName := ⟨RX5, "undo", "()I"⟩
abbrev cX5_type : ByteArray := prog_7_method_45_code
def yX5_type : MethodName := ⟨RX5, "type", "(I)I"⟩
abbrev cX5_clearText : ByteArray := prog_7_method_46_code
def yX5_clearText : MethodName := ⟨RX5, "clearText", "()I"⟩
abbrev cX5_sign : ByteArray := prog_7_method_47_code
def yX5_sign : MethodName := ⟨RX5, "sign", "()I"⟩
abbrev cX5_readsNumber : ByteArray := prog_7_method_48_code
def yX5_readsNumber : MethodName := ⟨RX5, "readsNumber", "(I)Z"⟩
abbrev cX5_reads : ByteArray := prog_7_method_49_code
def yX5_reads : MethodName := ⟨RX5, "reads", "(I)Z"⟩
abbrev cX5_isRight : ByteArray := prog_7_method_50_code
def yX5_isRight : MethodName := ⟨RX5, "isRight", "(II)Z"⟩
abbrev cX5_does : ByteArray := prog_7_method_51_code
def yX5_does : MethodName := ⟨RX5, "does", "(I)I"⟩
abbrev cX5_doesNext : ByteArray := prog_7_method_52_code
def yX5_doesNext : MethodName := ⟨RX5, "doesNext", "()I"⟩
abbrev cX5_faulty : ByteArray := prog_7_method_53_code
def yX5_faulty : MethodName := ⟨RX5, "faulty", "()I"⟩
abbrev cX5_fault : ByteArray := prog_7_method_54_code
def yX5_fault : MethodName := ⟨RX5, "fault", "(I)I"⟩
abbrev cX5_play : ByteArray := prog_7_method_55_code
def yX5_play : MethodName := ⟨RX5, "play", "()I"⟩
def RJ9 : String := "java/lang/Math"
def TJ9 : u_T := fun k => match k with
  | _ => ("", "", "", false)
def tyJ9 : Nat → FieldType := fun k => match k with
  | _ => .int
abbrev wsJ90 : List Cond := u_ws RJ9 TJ9 0
theorem nmJ9 : ∀ a, a < 0 → ∀ b, b < 0 → a ≠ b → (TJ9 a).2.1 ≠ (TJ9 b).2.1 := by decide +kernel
theorem tyJ9_ok : ∀ k, k < 0 → parseFieldDescriptor (TJ9 k).2.2.1 = some (tyJ9 k) := by decide +kernel
abbrev cJ9_max_7cf53 : ByteArray := prog_8_method_65_code
def yJ9_max_7cf53 : MethodName := ⟨RJ9, "max", "(II)I"⟩
abbrev cJ9_min_7cf53 : ByteArray := prog_8_method_69_code
def yJ9_min_7cf53 : MethodName := ⟨RJ9, "min", "(II)I"⟩
def RJ10 : String := "java/lang/System"
def TJ10 : u_T := fun k => match k with
  | _ => ("", "", "", false)
def tyJ10 : Nat → FieldType := fun k => match k with
  | _ => .int
abbrev wsJ100 : List Cond := u_ws RJ10 TJ10 0
theorem nmJ10 : ∀ a, a < 0 → ∀ b, b < 0 → a ≠ b → (TJ10 a).2.1 ≠ (TJ10 b).2.1 := by decide +kernel
theorem tyJ10_ok : ∀ k, k < 0 → parseFieldDescriptor (TJ10 k).2.2.1 = some (tyJ10 k) := by decide +kernel
def RJ7 : String := "java/util/Arrays"
def TJ7 : u_T := fun k => match k with
  | _ => ("", "", "", false)
def tyJ7 : Nat → FieldType := fun k => match k with
  | _ => .int
abbrev wsJ70 : List Cond := u_ws RJ7 TJ7 0
theorem nmJ7 : ∀ a, a < 0 → ∀ b, b < 0 → a ≠ b → (TJ7 a).2.1 ≠ (TJ7 b).2.1 := by decide +kernel
theorem tyJ7_ok : ∀ k, k < 0 → parseFieldDescriptor (TJ7 k).2.2.1 = some (tyJ7 k) := by decide +kernel
abbrev cJ7_fill_53178 : ByteArray := prog_10_method_103_code
def yJ7_fill_53178 : MethodName := ⟨RJ7, "fill", "([II)V"⟩
def RL : String := "PipeMomentsLaw"
abbrev cL_law : ByteArray := code
def yL_law : MethodName := ⟨RL, "law", "([I)Z"⟩
end
section
def lw_g : List Cond := lw_tbl.filter goodWord
theorem gm {w : Cond} (h : w ∈ lw_tbl) (g : goodWord w = true) : w ∈ lw_g := List.mem_filter.mpr ⟨h, g⟩
theorem gd_all {w : Cond} (h : w ∈ lw_g) : (w.onTables && w.keeps) = true ∨ ∃ ty, w = .arrayClass ty := good_of_word (List.mem_filter.mp h).2
theorem i_X0 : ∀ w ∈ u_ws RX0 TX0 2, w ∈ lw_g := fun w h => gm ((by decide +kernel : ∀ w ∈ u_ws RX0 TX0 2, w ∈ lw_tbl) w h) ((by decide +kernel : ∀ w ∈ u_ws RX0 TX0 2, goodWord w = true) w h)
theorem i_X1 : ∀ w ∈ u_ws RX1 TX1 5, w ∈ lw_g := fun w h => gm ((by decide +kernel : ∀ w ∈ u_ws RX1 TX1 5, w ∈ lw_tbl) w h) ((by decide +kernel : ∀ w ∈ u_ws RX1 TX1 5, goodWord w = true) w h)
theorem i_X2 : ∀ w ∈ u_ws RX2 TX2 9, w ∈ lw_g := fun w h => gm ((by decide +kernel : ∀ w ∈ u_ws RX2 TX2 9, w ∈ lw_tbl) w h) ((by decide +kernel : ∀ w ∈ u_ws RX2 TX2 9, goodWord w = true) w h)
theorem i_X3 : ∀ w ∈ u_ws RX3 TX3 7, w ∈ lw_g := fun w h => gm ((by decide +kernel : ∀ w ∈ u_ws RX3 TX3 7, w ∈ lw_tbl) w h) ((by decide +kernel : ∀ w ∈ u_ws RX3 TX3 7, goodWord w = true) w h)
theorem i_X4 : ∀ w ∈ u_ws RX4 TX4 4, w ∈ lw_g := fun w h => gm ((by decide +kernel : ∀ w ∈ u_ws RX4 TX4 4, w ∈ lw_tbl) w h) ((by decide +kernel : ∀ w ∈ u_ws RX4 TX4 4, goodWord w = true) w h)
theorem i_X5 : ∀ w ∈ u_ws RX5 TX5 23, w ∈ lw_g := fun w h => gm ((by decide +kernel : ∀ w ∈ u_ws RX5 TX5 23, w ∈ lw_tbl) w h) ((by decide +kernel : ∀ w ∈ u_ws RX5 TX5 23, goodWord w = true) w h)
theorem wd_0 : (Jvm.Cond.initialized "PipeMomentsLaw") ∈ lw_g := gm (List.mem_of_getElem? (i := 49) (by decide +kernel)) rfl
theorem wd_1 : (Jvm.Cond.initialized "PipeMoments") ∈ lw_g := gm (List.mem_of_getElem? (i := 50) (by decide +kernel)) rfl
theorem wd_2 : (Jvm.Cond.initialized "PipeMoments$Layout") ∈ lw_g := gm (List.mem_of_getElem? (i := 51) (by decide +kernel)) rfl
theorem wd_3 : (Jvm.Cond.initialized "PipeMoments$History") ∈ lw_g := gm (List.mem_of_getElem? (i := 52) (by decide +kernel)) rfl
theorem wd_4 : (Jvm.Cond.initialized "PipeMoments$Stream") ∈ lw_g := gm (List.mem_of_getElem? (i := 53) (by decide +kernel)) rfl
theorem wd_5 : (Jvm.Cond.initialized "PipeMoments$Settings") ∈ lw_g := gm (List.mem_of_getElem? (i := 54) (by decide +kernel)) rfl
theorem wd_6 : (Jvm.Cond.initialized "PipeMomentsModel") ∈ lw_g := gm (List.mem_of_getElem? (i := 55) (by decide +kernel)) rfl
theorem wd_7 : (Jvm.Cond.initialized "java/lang/System") ∈ lw_g := gm (List.mem_of_getElem? (i := 56) (by decide +kernel)) rfl
theorem wd_8 : (Jvm.Cond.initialized "java/lang/Math") ∈ lw_g := gm (List.mem_of_getElem? (i := 57) (by decide +kernel)) rfl
theorem wd_9 : (Jvm.Cond.initialized "java/util/Arrays") ∈ lw_g := gm (List.mem_of_getElem? (i := 58) (by decide +kernel)) rfl
theorem wd_10 : (Jvm.Cond.classLink "PipeMomentsLaw" (7 : Nat) "PipeMoments") ∈ lw_g := gm (List.mem_of_getElem? (i := 59) (by decide +kernel)) rfl
theorem wd_11 : (Jvm.Cond.instantiable "PipeMoments" (4 : Nat)) ∈ lw_g := gm (List.mem_of_getElem? (i := 60) (by decide +kernel)) rfl
theorem wd_12 : (Jvm.Cond.methodLink "PipeMomentsLaw" (9 : Nat) ({ cls := "PipeMoments", name := "<init>", desc := "()V" } : Jvm.MethodName)) ∈ lw_g := gm (List.mem_of_getElem? (i := 61) (by decide +kernel)) rfl
theorem wd_13 : (Jvm.Cond.instanceMethod ({ cls := "PipeMoments", name := "<init>", desc := "()V" } : Jvm.MethodName)) ∈ lw_g := gm (List.mem_of_getElem? (i := 62) (by decide +kernel)) rfl
theorem wd_14 : (Jvm.Cond.code ({ cls := "PipeMoments", name := "<init>", desc := "()V" } : Jvm.MethodName) prog_1_method_1_code (1 : Nat) (Option.none : Option Jvm.ClassFile.FieldType)) ∈ lw_g := gm (List.mem_of_getElem? (i := 63) (by decide +kernel)) rfl
theorem wd_15 : (Jvm.Cond.methodLink "PipeMoments" (1 : Nat) ({ cls := "java/lang/Object", name := "<init>", desc := "()V" } : Jvm.MethodName)) ∈ lw_g := gm (List.mem_of_getElem? (i := 64) (by decide +kernel)) rfl
theorem wd_16 : (Jvm.Cond.instanceMethod ({ cls := "java/lang/Object", name := "<init>", desc := "()V" } : Jvm.MethodName)) ∈ lw_g := gm (List.mem_of_getElem? (i := 65) (by decide +kernel)) rfl
theorem wd_17 : (Jvm.Cond.code ({ cls := "java/lang/Object", name := "<init>", desc := "()V" } : Jvm.MethodName) object_method_1_code (1 : Nat) (Option.none : Option Jvm.ClassFile.FieldType)) ∈ lw_g := gm (List.mem_of_getElem? (i := 66) (by decide +kernel)) rfl
theorem wd_18 : (Jvm.Cond.classLink "PipeMoments" (7 : Nat) "PipeMoments$Layout") ∈ lw_g := gm (List.mem_of_getElem? (i := 67) (by decide +kernel)) rfl
theorem wd_19 : (Jvm.Cond.instantiable "PipeMoments$Layout" (5 : Nat)) ∈ lw_g := gm (List.mem_of_getElem? (i := 68) (by decide +kernel)) rfl
theorem wd_20 : (Jvm.Cond.methodLink "PipeMoments" (9 : Nat) ({ cls := "PipeMoments$Layout", name := "<init>", desc := "()V" } : Jvm.MethodName)) ∈ lw_g := gm (List.mem_of_getElem? (i := 69) (by decide +kernel)) rfl
theorem wd_21 : (Jvm.Cond.instanceMethod ({ cls := "PipeMoments$Layout", name := "<init>", desc := "()V" } : Jvm.MethodName)) ∈ lw_g := gm (List.mem_of_getElem? (i := 70) (by decide +kernel)) rfl
theorem wd_22 : (Jvm.Cond.code ({ cls := "PipeMoments$Layout", name := "<init>", desc := "()V" } : Jvm.MethodName) prog_3_method_1_code (1 : Nat) (Option.none : Option Jvm.ClassFile.FieldType)) ∈ lw_g := gm (List.mem_of_getElem? (i := 71) (by decide +kernel)) rfl
theorem wd_23 : (Jvm.Cond.methodLink "PipeMoments$Layout" (3 : Nat) ({ cls := "java/lang/Object", name := "<init>", desc := "()V" } : Jvm.MethodName)) ∈ lw_g := gm (List.mem_of_getElem? (i := 72) (by decide +kernel)) rfl
theorem wd_24 : (Jvm.Cond.fieldLink "PipeMoments$Layout" (9 : Nat) "PipeMoments$Layout" "unitsAt" "[I") ∈ lw_g := gm (List.mem_of_getElem? (i := 73) (by decide +kernel)) rfl
theorem wd_25 : (Jvm.Cond.fieldLinkNest "PipeMoments$Stream" (54 : Nat) "PipeMoments$Layout" "unitsAt" "[I" "PipeMoments") ∈ lw_tbl := List.mem_of_getElem? (i := 74) (by decide +kernel)
theorem wd_26 : (Jvm.Cond.fieldLinkNest "PipeMoments" (102 : Nat) "PipeMoments$Layout" "unitsAt" "[I" "PipeMoments") ∈ lw_tbl := List.mem_of_getElem? (i := 75) (by decide +kernel)
theorem wd_27 : (Jvm.Cond.fieldLinkNest "PipeMoments$Settings" (117 : Nat) "PipeMoments$Layout" "unitsAt" "[I" "PipeMoments") ∈ lw_tbl := List.mem_of_getElem? (i := 76) (by decide +kernel)
theorem wd_28 : (Jvm.Cond.fieldLink "PipeMoments$Layout" (15 : Nat) "PipeMoments$Layout" "roomAt" "[I") ∈ lw_g := gm (List.mem_of_getElem? (i := 77) (by decide +kernel)) rfl
theorem wd_29 : (Jvm.Cond.fieldLinkNest "PipeMoments$Stream" (63 : Nat) "PipeMoments$Layout" "roomAt" "[I" "PipeMoments") ∈ lw_tbl := List.mem_of_getElem? (i := 78) (by decide +kernel)
theorem wd_30 : (Jvm.Cond.fieldLinkNest "PipeMoments" (109 : Nat) "PipeMoments$Layout" "roomAt" "[I" "PipeMoments") ∈ lw_tbl := List.mem_of_getElem? (i := 79) (by decide +kernel)
theorem wd_31 : (Jvm.Cond.fieldLink "PipeMoments$Layout" (18 : Nat) "PipeMoments$Layout" "parts" "[I") ∈ lw_g := gm (List.mem_of_getElem? (i := 80) (by decide +kernel)) rfl
theorem wd_32 : (Jvm.Cond.fieldLink "PipeMoments$Layout" (21 : Nat) "PipeMoments$Layout" "placeCount" "I") ∈ lw_g := gm (List.mem_of_getElem? (i := 81) (by decide +kernel)) rfl
theorem wd_33 : (Jvm.Cond.fieldLinkNest "PipeMoments" (160 : Nat) "PipeMoments$Layout" "placeCount" "I" "PipeMoments") ∈ lw_tbl := List.mem_of_getElem? (i := 82) (by decide +kernel)
theorem wd_34 : (Jvm.Cond.fieldLinkNest "PipeMoments$Stream" (103 : Nat) "PipeMoments$Layout" "placeCount" "I" "PipeMoments") ∈ lw_tbl := List.mem_of_getElem? (i := 83) (by decide +kernel)
theorem wd_35 : (Jvm.Cond.fieldLink "PipeMoments$Layout" (25 : Nat) "PipeMoments$Layout" "pipeCount" "I") ∈ lw_g := gm (List.mem_of_getElem? (i := 84) (by decide +kernel)) rfl
theorem wd_36 : (Jvm.Cond.fieldLinkNest "PipeMoments" (72 : Nat) "PipeMoments$Layout" "pipeCount" "I" "PipeMoments") ∈ lw_tbl := List.mem_of_getElem? (i := 85) (by decide +kernel)
theorem wd_37 : (Jvm.Cond.fieldLinkNest "PipeMoments$Stream" (67 : Nat) "PipeMoments$Layout" "pipeCount" "I" "PipeMoments") ∈ lw_tbl := List.mem_of_getElem? (i := 86) (by decide +kernel)
theorem wd_49 : (Jvm.Cond.arrayClass Jvm.ClassFile.FieldType.int) ∈ lw_g := gm (List.mem_of_getElem? (i := 98) (by decide +kernel)) rfl
theorem wd_50 : (Jvm.Cond.classLink "PipeMoments" (16 : Nat) "PipeMoments$History") ∈ lw_g := gm (List.mem_of_getElem? (i := 99) (by decide +kernel)) rfl
theorem wd_51 : (Jvm.Cond.instantiable "PipeMoments$History" (2 : Nat)) ∈ lw_g := gm (List.mem_of_getElem? (i := 100) (by decide +kernel)) rfl
theorem wd_52 : (Jvm.Cond.methodLink "PipeMoments" (18 : Nat) ({ cls := "PipeMoments$History", name := "<init>", desc := "()V" } : Jvm.MethodName)) ∈ lw_g := gm (List.mem_of_getElem? (i := 101) (by decide +kernel)) rfl
theorem wd_53 : (Jvm.Cond.instanceMethod ({ cls := "PipeMoments$History", name := "<init>", desc := "()V" } : Jvm.MethodName)) ∈ lw_g := gm (List.mem_of_getElem? (i := 102) (by decide +kernel)) rfl
theorem wd_54 : (Jvm.Cond.code ({ cls := "PipeMoments$History", name := "<init>", desc := "()V" } : Jvm.MethodName) prog_2_method_1_code (2 : Nat) (Option.none : Option Jvm.ClassFile.FieldType)) ∈ lw_g := gm (List.mem_of_getElem? (i := 103) (by decide +kernel)) rfl
theorem wd_55 : (Jvm.Cond.methodLink "PipeMoments$History" (3 : Nat) ({ cls := "java/lang/Object", name := "<init>", desc := "()V" } : Jvm.MethodName)) ∈ lw_g := gm (List.mem_of_getElem? (i := 104) (by decide +kernel)) rfl
theorem wd_56 : (Jvm.Cond.classLink "PipeMoments$History" (9 : Nat) "PipeMoments$Layout") ∈ lw_g := gm (List.mem_of_getElem? (i := 105) (by decide +kernel)) rfl
theorem wd_57 : (Jvm.Cond.arrayOver (Jvm.ClassFile.FieldType.object "PipeMoments$Layout")) ∈ lw_tbl := List.mem_of_getElem? (i := 106) (by decide +kernel)
theorem wd_58 : (Jvm.Cond.methodLink "PipeMoments$History" (21 : Nat) ({ cls := "PipeMoments$Layout", name := "<init>", desc := "()V" } : Jvm.MethodName)) ∈ lw_g := gm (List.mem_of_getElem? (i := 107) (by decide +kernel)) rfl
theorem wd_59 : (Jvm.Cond.fieldLink "PipeMoments$History" (11 : Nat) "PipeMoments$History" "states" "[LPipeMoments$Layout;") ∈ lw_g := gm (List.mem_of_getElem? (i := 108) (by decide +kernel)) rfl
theorem wd_60 : (Jvm.Cond.fieldLink "PipeMoments$History" (17 : Nat) "PipeMoments$History" "kept" "I") ∈ lw_g := gm (List.mem_of_getElem? (i := 109) (by decide +kernel)) rfl
theorem wd_61 : (Jvm.Cond.fieldLinkNest "PipeMoments" (166 : Nat) "PipeMoments$History" "kept" "I" "PipeMoments") ∈ lw_tbl := List.mem_of_getElem? (i := 110) (by decide +kernel)
theorem wd_67 : (Jvm.Cond.classLink "PipeMoments" (23 : Nat) "PipeMoments$Stream") ∈ lw_g := gm (List.mem_of_getElem? (i := 116) (by decide +kernel)) rfl
theorem wd_68 : (Jvm.Cond.instantiable "PipeMoments$Stream" (7 : Nat)) ∈ lw_g := gm (List.mem_of_getElem? (i := 117) (by decide +kernel)) rfl
theorem wd_69 : (Jvm.Cond.methodLinkNest "PipeMoments" (25 : Nat) ({ cls := "PipeMoments$Stream", name := "<init>", desc := "()V" } : Jvm.MethodName) "PipeMoments") ∈ lw_tbl := List.mem_of_getElem? (i := 118) (by decide +kernel)
theorem wd_70 : (Jvm.Cond.instanceMethod ({ cls := "PipeMoments$Stream", name := "<init>", desc := "()V" } : Jvm.MethodName)) ∈ lw_g := gm (List.mem_of_getElem? (i := 119) (by decide +kernel)) rfl
theorem wd_71 : (Jvm.Cond.code ({ cls := "PipeMoments$Stream", name := "<init>", desc := "()V" } : Jvm.MethodName) prog_5_method_1_code (1 : Nat) (Option.none : Option Jvm.ClassFile.FieldType)) ∈ lw_g := gm (List.mem_of_getElem? (i := 120) (by decide +kernel)) rfl
theorem wd_72 : (Jvm.Cond.methodLink "PipeMoments$Stream" (5 : Nat) ({ cls := "java/lang/Object", name := "<init>", desc := "()V" } : Jvm.MethodName)) ∈ lw_g := gm (List.mem_of_getElem? (i := 121) (by decide +kernel)) rfl
theorem wd_73 : (Jvm.Cond.classLink "PipeMoments$Stream" (11 : Nat) "PipeMoments$Layout") ∈ lw_g := gm (List.mem_of_getElem? (i := 122) (by decide +kernel)) rfl
theorem wd_74 : (Jvm.Cond.methodLink "PipeMoments$Stream" (13 : Nat) ({ cls := "PipeMoments$Layout", name := "<init>", desc := "()V" } : Jvm.MethodName)) ∈ lw_g := gm (List.mem_of_getElem? (i := 123) (by decide +kernel)) rfl
theorem wd_75 : (Jvm.Cond.fieldLink "PipeMoments$Stream" (14 : Nat) "PipeMoments$Stream" "net" "LPipeMoments$Layout;") ∈ lw_g := gm (List.mem_of_getElem? (i := 124) (by decide +kernel)) rfl
theorem wd_76 : (Jvm.Cond.fieldLink "PipeMoments$Stream" (18 : Nat) "PipeMoments$Stream" "left" "[I") ∈ lw_g := gm (List.mem_of_getElem? (i := 125) (by decide +kernel)) rfl
theorem wd_77 : (Jvm.Cond.fieldLink "PipeMoments$Stream" (22 : Nat) "PipeMoments$Stream" "reachedBy" "[I") ∈ lw_g := gm (List.mem_of_getElem? (i := 126) (by decide +kernel)) rfl
theorem wd_78 : (Jvm.Cond.fieldLink "PipeMoments$Stream" (25 : Nat) "PipeMoments$Stream" "reachedFrom" "[I") ∈ lw_g := gm (List.mem_of_getElem? (i := 127) (by decide +kernel)) rfl
theorem wd_79 : (Jvm.Cond.fieldLink "PipeMoments$Stream" (28 : Nat) "PipeMoments$Stream" "queue" "[I") ∈ lw_g := gm (List.mem_of_getElem? (i := 128) (by decide +kernel)) rfl
theorem wd_80 : (Jvm.Cond.fieldLink "PipeMoments$Stream" (31 : Nat) "PipeMoments$Stream" "queued" "I") ∈ lw_g := gm (List.mem_of_getElem? (i := 129) (by decide +kernel)) rfl
theorem wd_81 : (Jvm.Cond.fieldLink "PipeMoments$Stream" (35 : Nat) "PipeMoments$Stream" "arrival" "I") ∈ lw_g := gm (List.mem_of_getElem? (i := 130) (by decide +kernel)) rfl
theorem wd_97 : (Jvm.Cond.classLink "PipeMoments" (30 : Nat) "PipeMoments$Settings") ∈ lw_g := gm (List.mem_of_getElem? (i := 146) (by decide +kernel)) rfl
theorem wd_98 : (Jvm.Cond.instantiable "PipeMoments$Settings" (9 : Nat)) ∈ lw_g := gm (List.mem_of_getElem? (i := 147) (by decide +kernel)) rfl
theorem wd_99 : (Jvm.Cond.methodLinkNest "PipeMoments" (32 : Nat) ({ cls := "PipeMoments$Settings", name := "<init>", desc := "()V" } : Jvm.MethodName) "PipeMoments") ∈ lw_tbl := List.mem_of_getElem? (i := 148) (by decide +kernel)
theorem wd_100 : (Jvm.Cond.instanceMethod ({ cls := "PipeMoments$Settings", name := "<init>", desc := "()V" } : Jvm.MethodName)) ∈ lw_g := gm (List.mem_of_getElem? (i := 149) (by decide +kernel)) rfl
theorem wd_101 : (Jvm.Cond.code ({ cls := "PipeMoments$Settings", name := "<init>", desc := "()V" } : Jvm.MethodName) prog_4_method_1_code (1 : Nat) (Option.none : Option Jvm.ClassFile.FieldType)) ∈ lw_g := gm (List.mem_of_getElem? (i := 150) (by decide +kernel)) rfl
theorem wd_102 : (Jvm.Cond.methodLink "PipeMoments$Settings" (3 : Nat) ({ cls := "java/lang/Object", name := "<init>", desc := "()V" } : Jvm.MethodName)) ∈ lw_g := gm (List.mem_of_getElem? (i := 151) (by decide +kernel)) rfl
theorem wd_103 : (Jvm.Cond.classLink "PipeMoments$Settings" (19 : Nat) "PipeMoments$Layout") ∈ lw_g := gm (List.mem_of_getElem? (i := 152) (by decide +kernel)) rfl
theorem wd_104 : (Jvm.Cond.methodLink "PipeMoments$Settings" (21 : Nat) ({ cls := "PipeMoments$Layout", name := "<init>", desc := "()V" } : Jvm.MethodName)) ∈ lw_g := gm (List.mem_of_getElem? (i := 153) (by decide +kernel)) rfl
theorem wd_105 : (Jvm.Cond.fieldLink "PipeMoments$Settings" (9 : Nat) "PipeMoments$Settings" "signs" "[C") ∈ lw_g := gm (List.mem_of_getElem? (i := 154) (by decide +kernel)) rfl
theorem wd_106 : (Jvm.Cond.fieldLink "PipeMoments$Settings" (15 : Nat) "PipeMoments$Settings" "numbers" "[I") ∈ lw_g := gm (List.mem_of_getElem? (i := 155) (by decide +kernel)) rfl
theorem wd_107 : (Jvm.Cond.fieldLink "PipeMoments$Settings" (22 : Nat) "PipeMoments$Settings" "trial" "LPipeMoments$Layout;") ∈ lw_g := gm (List.mem_of_getElem? (i := 156) (by decide +kernel)) rfl
theorem wd_108 : (Jvm.Cond.fieldLinkNest "PipeMoments" (192 : Nat) "PipeMoments$Settings" "trial" "LPipeMoments$Layout;" "PipeMoments") ∈ lw_tbl := List.mem_of_getElem? (i := 157) (by decide +kernel)
theorem wd_109 : (Jvm.Cond.fieldLink "PipeMoments$Settings" (26 : Nat) "PipeMoments$Settings" "length" "I") ∈ lw_g := gm (List.mem_of_getElem? (i := 158) (by decide +kernel)) rfl
theorem wd_110 : (Jvm.Cond.fieldLinkNest "PipeMoments" (169 : Nat) "PipeMoments$Settings" "length" "I" "PipeMoments") ∈ lw_tbl := List.mem_of_getElem? (i := 159) (by decide +kernel)
theorem wd_111 : (Jvm.Cond.fieldLink "PipeMoments$Settings" (30 : Nat) "PipeMoments$Settings" "next" "I") ∈ lw_g := gm (List.mem_of_getElem? (i := 160) (by decide +kernel)) rfl
theorem wd_112 : (Jvm.Cond.fieldLink "PipeMoments$Settings" (33 : Nat) "PipeMoments$Settings" "start" "I") ∈ lw_g := gm (List.mem_of_getElem? (i := 161) (by decide +kernel)) rfl
theorem wd_113 : (Jvm.Cond.fieldLink "PipeMoments$Settings" (36 : Nat) "PipeMoments$Settings" "reason" "I") ∈ lw_g := gm (List.mem_of_getElem? (i := 162) (by decide +kernel)) rfl
theorem wd_114 : (Jvm.Cond.fieldLinkNest "PipeMoments" (186 : Nat) "PipeMoments$Settings" "reason" "I" "PipeMoments") ∈ lw_tbl := List.mem_of_getElem? (i := 163) (by decide +kernel)
theorem wd_115 : (Jvm.Cond.fieldLink "PipeMoments$Settings" (39 : Nat) "PipeMoments$Settings" "cause" "I") ∈ lw_g := gm (List.mem_of_getElem? (i := 164) (by decide +kernel)) rfl
theorem wd_116 : (Jvm.Cond.fieldLink "PipeMoments$Settings" (42 : Nat) "PipeMoments$Settings" "settled" "I") ∈ lw_g := gm (List.mem_of_getElem? (i := 165) (by decide +kernel)) rfl
theorem wd_117 : (Jvm.Cond.fieldLinkNest "PipeMoments" (198 : Nat) "PipeMoments$Settings" "settled" "I" "PipeMoments") ∈ lw_tbl := List.mem_of_getElem? (i := 166) (by decide +kernel)
theorem wd_137 : (Jvm.Cond.arrayClass Jvm.ClassFile.FieldType.char) ∈ lw_g := gm (List.mem_of_getElem? (i := 186) (by decide +kernel)) rfl
theorem wd_138 : (Jvm.Cond.fieldLink "PipeMoments" (10 : Nat) "PipeMoments" "laid" "LPipeMoments$Layout;") ∈ lw_g := gm (List.mem_of_getElem? (i := 187) (by decide +kernel)) rfl
theorem wd_139 : (Jvm.Cond.fieldLink "PipeMoments" (19 : Nat) "PipeMoments" "history" "LPipeMoments$History;") ∈ lw_g := gm (List.mem_of_getElem? (i := 188) (by decide +kernel)) rfl
theorem wd_140 : (Jvm.Cond.fieldLink "PipeMoments" (26 : Nat) "PipeMoments" "stream" "LPipeMoments$Stream;") ∈ lw_g := gm (List.mem_of_getElem? (i := 189) (by decide +kernel)) rfl
theorem wd_141 : (Jvm.Cond.fieldLink "PipeMoments" (33 : Nat) "PipeMoments" "settings" "LPipeMoments$Settings;") ∈ lw_g := gm (List.mem_of_getElem? (i := 190) (by decide +kernel)) rfl
theorem wd_151 : (Jvm.Cond.methodLink "PipeMomentsLaw" (13 : Nat) ({ cls := "PipeMoments", name := "place", desc := "(II)I" } : Jvm.MethodName)) ∈ lw_g := gm (List.mem_of_getElem? (i := 200) (by decide +kernel)) rfl
theorem wd_152 : (Jvm.Cond.instanceMethod ({ cls := "PipeMoments", name := "place", desc := "(II)I" } : Jvm.MethodName)) ∈ lw_g := gm (List.mem_of_getElem? (i := 201) (by decide +kernel)) rfl
theorem wd_153 : (Jvm.Cond.selects "PipeMoments" ({ cls := "PipeMoments", name := "place", desc := "(II)I" } : Jvm.MethodName) ({ cls := "PipeMoments", name := "place", desc := "(II)I" } : Jvm.MethodName)) ∈ lw_g := gm (List.mem_of_getElem? (i := 202) (by decide +kernel)) rfl
theorem wd_154 : (Jvm.Cond.code ({ cls := "PipeMoments", name := "place", desc := "(II)I" } : Jvm.MethodName) prog_1_method_2_code (3 : Nat) (Option.some Jvm.ClassFile.FieldType.int)) ∈ lw_g := gm (List.mem_of_getElem? (i := 203) (by decide +kernel)) rfl
theorem wd_155 : (Jvm.Cond.methodLink "PipeMoments" (37 : Nat) ({ cls := "PipeMoments$Layout", name := "badOfPlace", desc := "(II)I" } : Jvm.MethodName)) ∈ lw_g := gm (List.mem_of_getElem? (i := 204) (by decide +kernel)) rfl
theorem wd_156 : (Jvm.Cond.instanceMethod ({ cls := "PipeMoments$Layout", name := "badOfPlace", desc := "(II)I" } : Jvm.MethodName)) ∈ lw_g := gm (List.mem_of_getElem? (i := 205) (by decide +kernel)) rfl
theorem wd_157 : (Jvm.Cond.selects "PipeMoments$Layout" ({ cls := "PipeMoments$Layout", name := "badOfPlace", desc := "(II)I" } : Jvm.MethodName) ({ cls := "PipeMoments$Layout", name := "badOfPlace", desc := "(II)I" } : Jvm.MethodName)) ∈ lw_g := gm (List.mem_of_getElem? (i := 206) (by decide +kernel)) rfl
theorem wd_158 : (Jvm.Cond.code ({ cls := "PipeMoments$Layout", name := "badOfPlace", desc := "(II)I" } : Jvm.MethodName) prog_3_method_7_code (3 : Nat) (Option.some Jvm.ClassFile.FieldType.int)) ∈ lw_g := gm (List.mem_of_getElem? (i := 207) (by decide +kernel)) rfl
theorem wd_159 : (Jvm.Cond.methodLinkNest "PipeMoments$Layout" (34 : Nat) ({ cls := "PipeMoments", name := "within", desc := "(III)Z" } : Jvm.MethodName) "PipeMoments") ∈ lw_tbl := List.mem_of_getElem? (i := 208) (by decide +kernel)
theorem wd_160 : (Jvm.Cond.static ({ cls := "PipeMoments", name := "within", desc := "(III)Z" } : Jvm.MethodName)) ∈ lw_g := gm (List.mem_of_getElem? (i := 209) (by decide +kernel)) rfl
theorem wd_161 : (Jvm.Cond.code ({ cls := "PipeMoments", name := "within", desc := "(III)Z" } : Jvm.MethodName) prog_1_method_25_code (3 : Nat) (Option.some Jvm.ClassFile.FieldType.boolean)) ∈ lw_g := gm (List.mem_of_getElem? (i := 210) (by decide +kernel)) rfl
theorem wd_162 : (Jvm.Cond.constant "PipeMoments" (41 : Nat) (-1000001 : Int32)) ∈ lw_g := gm (List.mem_of_getElem? (i := 211) (by decide +kernel)) rfl
theorem wd_163 : (Jvm.Cond.methodLink "PipeMoments" (42 : Nat) ({ cls := "PipeMoments$Layout", name := "placesAreFull", desc := "()Z" } : Jvm.MethodName)) ∈ lw_g := gm (List.mem_of_getElem? (i := 212) (by decide +kernel)) rfl
theorem wd_164 : (Jvm.Cond.instanceMethod ({ cls := "PipeMoments$Layout", name := "placesAreFull", desc := "()Z" } : Jvm.MethodName)) ∈ lw_g := gm (List.mem_of_getElem? (i := 213) (by decide +kernel)) rfl
theorem wd_165 : (Jvm.Cond.selects "PipeMoments$Layout" ({ cls := "PipeMoments$Layout", name := "placesAreFull", desc := "()Z" } : Jvm.MethodName) ({ cls := "PipeMoments$Layout", name := "placesAreFull", desc := "()Z" } : Jvm.MethodName)) ∈ lw_g := gm (List.mem_of_getElem? (i := 214) (by decide +kernel)) rfl
theorem wd_166 : (Jvm.Cond.code ({ cls := "PipeMoments$Layout", name := "placesAreFull", desc := "()Z" } : Jvm.MethodName) prog_3_method_5_code (1 : Nat) (Option.some Jvm.ClassFile.FieldType.boolean)) ∈ lw_g := gm (List.mem_of_getElem? (i := 215) (by decide +kernel)) rfl
theorem wd_167 : (Jvm.Cond.constant "PipeMoments" (46 : Nat) (-1000003 : Int32)) ∈ lw_g := gm (List.mem_of_getElem? (i := 216) (by decide +kernel)) rfl
theorem wd_168 : (Jvm.Cond.methodLink "PipeMoments" (47 : Nat) ({ cls := "PipeMoments$History", name := "keep", desc := "(LPipeMoments$Layout;)V" } : Jvm.MethodName)) ∈ lw_g := gm (List.mem_of_getElem? (i := 217) (by decide +kernel)) rfl
theorem wd_169 : (Jvm.Cond.instanceMethod ({ cls := "PipeMoments$History", name := "keep", desc := "(LPipeMoments$Layout;)V" } : Jvm.MethodName)) ∈ lw_g := gm (List.mem_of_getElem? (i := 218) (by decide +kernel)) rfl
theorem wd_170 : (Jvm.Cond.selects "PipeMoments$History" ({ cls := "PipeMoments$History", name := "keep", desc := "(LPipeMoments$Layout;)V" } : Jvm.MethodName) ({ cls := "PipeMoments$History", name := "keep", desc := "(LPipeMoments$Layout;)V" } : Jvm.MethodName)) ∈ lw_g := gm (List.mem_of_getElem? (i := 219) (by decide +kernel)) rfl
theorem wd_171 : (Jvm.Cond.code ({ cls := "PipeMoments$History", name := "keep", desc := "(LPipeMoments$Layout;)V" } : Jvm.MethodName) prog_2_method_2_code (2 : Nat) (Option.none : Option Jvm.ClassFile.FieldType)) ∈ lw_g := gm (List.mem_of_getElem? (i := 220) (by decide +kernel)) rfl
theorem wd_172 : (Jvm.Cond.methodLink "PipeMoments$History" (22 : Nat) ({ cls := "PipeMoments$History", name := "dropOldest", desc := "()V" } : Jvm.MethodName)) ∈ lw_g := gm (List.mem_of_getElem? (i := 221) (by decide +kernel)) rfl
theorem wd_174 : (Jvm.Cond.instanceMethod ({ cls := "PipeMoments$History", name := "dropOldest", desc := "()V" } : Jvm.MethodName)) ∈ lw_g := gm (List.mem_of_getElem? (i := 223) (by decide +kernel)) rfl
theorem wd_175 : (Jvm.Cond.code ({ cls := "PipeMoments$History", name := "dropOldest", desc := "()V" } : Jvm.MethodName) prog_2_method_4_code (3 : Nat) (Option.none : Option Jvm.ClassFile.FieldType)) ∈ lw_g := gm (List.mem_of_getElem? (i := 224) (by decide +kernel)) rfl
theorem wd_176 : (Jvm.Cond.methodLink "PipeMoments$History" (25 : Nat) ({ cls := "PipeMoments$Layout", name := "copyFrom", desc := "(LPipeMoments$Layout;)V" } : Jvm.MethodName)) ∈ lw_g := gm (List.mem_of_getElem? (i := 225) (by decide +kernel)) rfl
theorem wd_177 : (Jvm.Cond.instanceMethod ({ cls := "PipeMoments$Layout", name := "copyFrom", desc := "(LPipeMoments$Layout;)V" } : Jvm.MethodName)) ∈ lw_g := gm (List.mem_of_getElem? (i := 226) (by decide +kernel)) rfl
theorem wd_178 : (Jvm.Cond.selects "PipeMoments$Layout" ({ cls := "PipeMoments$Layout", name := "copyFrom", desc := "(LPipeMoments$Layout;)V" } : Jvm.MethodName) ({ cls := "PipeMoments$Layout", name := "copyFrom", desc := "(LPipeMoments$Layout;)V" } : Jvm.MethodName)) ∈ lw_g := gm (List.mem_of_getElem? (i := 227) (by decide +kernel)) rfl
theorem wd_179 : (Jvm.Cond.code ({ cls := "PipeMoments$Layout", name := "copyFrom", desc := "(LPipeMoments$Layout;)V" } : Jvm.MethodName) prog_3_method_2_code (2 : Nat) (Option.none : Option Jvm.ClassFile.FieldType)) ∈ lw_g := gm (List.mem_of_getElem? (i := 228) (by decide +kernel)) rfl
theorem wd_180 : (Jvm.Cond.methodLink "PipeMoments$Layout" (28 : Nat) ({ cls := "java/lang/System", name := "arraycopy", desc := "(Ljava/lang/Object;ILjava/lang/Object;II)V" } : Jvm.MethodName)) ∈ lw_g := gm (List.mem_of_getElem? (i := 229) (by decide +kernel)) rfl
theorem wd_181 : (Jvm.Cond.static ({ cls := "java/lang/System", name := "arraycopy", desc := "(Ljava/lang/Object;ILjava/lang/Object;II)V" } : Jvm.MethodName)) ∈ lw_g := gm (List.mem_of_getElem? (i := 230) (by decide +kernel)) rfl
theorem wd_182 : (Jvm.Cond.native ({ cls := "java/lang/System", name := "arraycopy", desc := "(Ljava/lang/Object;ILjava/lang/Object;II)V" } : Jvm.MethodName)) ∈ lw_g := gm (List.mem_of_getElem? (i := 231) (by decide +kernel)) rfl
theorem wd_183 : (Jvm.Cond.methodLink "PipeMoments" (51 : Nat) ({ cls := "PipeMoments$Layout", name := "addPlace", desc := "(II)I" } : Jvm.MethodName)) ∈ lw_g := gm (List.mem_of_getElem? (i := 232) (by decide +kernel)) rfl
theorem wd_184 : (Jvm.Cond.instanceMethod ({ cls := "PipeMoments$Layout", name := "addPlace", desc := "(II)I" } : Jvm.MethodName)) ∈ lw_g := gm (List.mem_of_getElem? (i := 233) (by decide +kernel)) rfl
theorem wd_185 : (Jvm.Cond.selects "PipeMoments$Layout" ({ cls := "PipeMoments$Layout", name := "addPlace", desc := "(II)I" } : Jvm.MethodName) ({ cls := "PipeMoments$Layout", name := "addPlace", desc := "(II)I" } : Jvm.MethodName)) ∈ lw_g := gm (List.mem_of_getElem? (i := 234) (by decide +kernel)) rfl
theorem wd_186 : (Jvm.Cond.code ({ cls := "PipeMoments$Layout", name := "addPlace", desc := "(II)I" } : Jvm.MethodName) prog_3_method_11_code (3 : Nat) (Option.some Jvm.ClassFile.FieldType.int)) ∈ lw_g := gm (List.mem_of_getElem? (i := 235) (by decide +kernel)) rfl
theorem wd_187 : (Jvm.Cond.methodLink "PipeMomentsLaw" (18 : Nat) ({ cls := "PipeMoments", name := "pipe", desc := "(IIII)I" } : Jvm.MethodName)) ∈ lw_g := gm (List.mem_of_getElem? (i := 236) (by decide +kernel)) rfl
theorem wd_188 : (Jvm.Cond.instanceMethod ({ cls := "PipeMoments", name := "pipe", desc := "(IIII)I" } : Jvm.MethodName)) ∈ lw_g := gm (List.mem_of_getElem? (i := 237) (by decide +kernel)) rfl
theorem wd_189 : (Jvm.Cond.selects "PipeMoments" ({ cls := "PipeMoments", name := "pipe", desc := "(IIII)I" } : Jvm.MethodName) ({ cls := "PipeMoments", name := "pipe", desc := "(IIII)I" } : Jvm.MethodName)) ∈ lw_g := gm (List.mem_of_getElem? (i := 238) (by decide +kernel)) rfl
theorem wd_190 : (Jvm.Cond.code ({ cls := "PipeMoments", name := "pipe", desc := "(IIII)I" } : Jvm.MethodName) prog_1_method_3_code (5 : Nat) (Option.some Jvm.ClassFile.FieldType.int)) ∈ lw_g := gm (List.mem_of_getElem? (i := 239) (by decide +kernel)) rfl
theorem wd_191 : (Jvm.Cond.methodLink "PipeMoments" (54 : Nat) ({ cls := "PipeMoments$Layout", name := "badOfPipe", desc := "(IIII)I" } : Jvm.MethodName)) ∈ lw_g := gm (List.mem_of_getElem? (i := 240) (by decide +kernel)) rfl
theorem wd_192 : (Jvm.Cond.instanceMethod ({ cls := "PipeMoments$Layout", name := "badOfPipe", desc := "(IIII)I" } : Jvm.MethodName)) ∈ lw_g := gm (List.mem_of_getElem? (i := 241) (by decide +kernel)) rfl
theorem wd_193 : (Jvm.Cond.selects "PipeMoments$Layout" ({ cls := "PipeMoments$Layout", name := "badOfPipe", desc := "(IIII)I" } : Jvm.MethodName) ({ cls := "PipeMoments$Layout", name := "badOfPipe", desc := "(IIII)I" } : Jvm.MethodName)) ∈ lw_g := gm (List.mem_of_getElem? (i := 242) (by decide +kernel)) rfl
theorem wd_194 : (Jvm.Cond.code ({ cls := "PipeMoments$Layout", name := "badOfPipe", desc := "(IIII)I" } : Jvm.MethodName) prog_3_method_8_code (5 : Nat) (Option.some Jvm.ClassFile.FieldType.int)) ∈ lw_g := gm (List.mem_of_getElem? (i := 243) (by decide +kernel)) rfl
theorem wd_195 : (Jvm.Cond.methodLink "PipeMoments$Layout" (38 : Nat) ({ cls := "PipeMoments$Layout", name := "isPlace", desc := "(I)Z" } : Jvm.MethodName)) ∈ lw_g := gm (List.mem_of_getElem? (i := 244) (by decide +kernel)) rfl
theorem wd_196 : (Jvm.Cond.instanceMethod ({ cls := "PipeMoments$Layout", name := "isPlace", desc := "(I)Z" } : Jvm.MethodName)) ∈ lw_g := gm (List.mem_of_getElem? (i := 245) (by decide +kernel)) rfl
theorem wd_197 : (Jvm.Cond.selects "PipeMoments$Layout" ({ cls := "PipeMoments$Layout", name := "isPlace", desc := "(I)Z" } : Jvm.MethodName) ({ cls := "PipeMoments$Layout", name := "isPlace", desc := "(I)Z" } : Jvm.MethodName)) ∈ lw_g := gm (List.mem_of_getElem? (i := 246) (by decide +kernel)) rfl
theorem wd_198 : (Jvm.Cond.code ({ cls := "PipeMoments$Layout", name := "isPlace", desc := "(I)Z" } : Jvm.MethodName) prog_3_method_3_code (2 : Nat) (Option.some Jvm.ClassFile.FieldType.boolean)) ∈ lw_g := gm (List.mem_of_getElem? (i := 247) (by decide +kernel)) rfl
theorem wd_199 : (Jvm.Cond.methodLink "PipeMoments" (58 : Nat) ({ cls := "PipeMoments$Layout", name := "pipesAreFull", desc := "()Z" } : Jvm.MethodName)) ∈ lw_g := gm (List.mem_of_getElem? (i := 248) (by decide +kernel)) rfl
theorem wd_200 : (Jvm.Cond.instanceMethod ({ cls := "PipeMoments$Layout", name := "pipesAreFull", desc := "()Z" } : Jvm.MethodName)) ∈ lw_g := gm (List.mem_of_getElem? (i := 249) (by decide +kernel)) rfl
theorem wd_201 : (Jvm.Cond.selects "PipeMoments$Layout" ({ cls := "PipeMoments$Layout", name := "pipesAreFull", desc := "()Z" } : Jvm.MethodName) ({ cls := "PipeMoments$Layout", name := "pipesAreFull", desc := "()Z" } : Jvm.MethodName)) ∈ lw_g := gm (List.mem_of_getElem? (i := 250) (by decide +kernel)) rfl
theorem wd_202 : (Jvm.Cond.code ({ cls := "PipeMoments$Layout", name := "pipesAreFull", desc := "()Z" } : Jvm.MethodName) prog_3_method_6_code (1 : Nat) (Option.some Jvm.ClassFile.FieldType.boolean)) ∈ lw_g := gm (List.mem_of_getElem? (i := 251) (by decide +kernel)) rfl
theorem wd_203 : (Jvm.Cond.methodLink "PipeMoments" (61 : Nat) ({ cls := "PipeMoments$Layout", name := "addPipe", desc := "(IIII)I" } : Jvm.MethodName)) ∈ lw_g := gm (List.mem_of_getElem? (i := 252) (by decide +kernel)) rfl
theorem wd_204 : (Jvm.Cond.instanceMethod ({ cls := "PipeMoments$Layout", name := "addPipe", desc := "(IIII)I" } : Jvm.MethodName)) ∈ lw_g := gm (List.mem_of_getElem? (i := 253) (by decide +kernel)) rfl
theorem wd_205 : (Jvm.Cond.selects "PipeMoments$Layout" ({ cls := "PipeMoments$Layout", name := "addPipe", desc := "(IIII)I" } : Jvm.MethodName) ({ cls := "PipeMoments$Layout", name := "addPipe", desc := "(IIII)I" } : Jvm.MethodName)) ∈ lw_g := gm (List.mem_of_getElem? (i := 254) (by decide +kernel)) rfl
theorem wd_206 : (Jvm.Cond.code ({ cls := "PipeMoments$Layout", name := "addPipe", desc := "(IIII)I" } : Jvm.MethodName) prog_3_method_12_code (6 : Nat) (Option.some Jvm.ClassFile.FieldType.int)) ∈ lw_g := gm (List.mem_of_getElem? (i := 255) (by decide +kernel)) rfl
theorem wd_207 : (Jvm.Cond.methodLink "PipeMoments$Layout" (48 : Nat) ({ cls := "PipeMoments$Layout", name := "setPart", desc := "(III)V" } : Jvm.MethodName)) ∈ lw_g := gm (List.mem_of_getElem? (i := 256) (by decide +kernel)) rfl
theorem wd_208 : (Jvm.Cond.instanceMethod ({ cls := "PipeMoments$Layout", name := "setPart", desc := "(III)V" } : Jvm.MethodName)) ∈ lw_g := gm (List.mem_of_getElem? (i := 257) (by decide +kernel)) rfl
theorem wd_209 : (Jvm.Cond.selects "PipeMoments$Layout" ({ cls := "PipeMoments$Layout", name := "setPart", desc := "(III)V" } : Jvm.MethodName) ({ cls := "PipeMoments$Layout", name := "setPart", desc := "(III)V" } : Jvm.MethodName)) ∈ lw_g := gm (List.mem_of_getElem? (i := 258) (by decide +kernel)) rfl
theorem wd_210 : (Jvm.Cond.code ({ cls := "PipeMoments$Layout", name := "setPart", desc := "(III)V" } : Jvm.MethodName) prog_3_method_16_code (4 : Nat) (Option.none : Option Jvm.ClassFile.FieldType)) ∈ lw_g := gm (List.mem_of_getElem? (i := 259) (by decide +kernel)) rfl
theorem wd_211 : (Jvm.Cond.methodLink "PipeMoments$Layout" (52 : Nat) ({ cls := "PipeMoments$Layout", name := "setOpening", desc := "(III)V" } : Jvm.MethodName)) ∈ lw_g := gm (List.mem_of_getElem? (i := 260) (by decide +kernel)) rfl
theorem wd_212 : (Jvm.Cond.instanceMethod ({ cls := "PipeMoments$Layout", name := "setOpening", desc := "(III)V" } : Jvm.MethodName)) ∈ lw_g := gm (List.mem_of_getElem? (i := 261) (by decide +kernel)) rfl
theorem wd_213 : (Jvm.Cond.selects "PipeMoments$Layout" ({ cls := "PipeMoments$Layout", name := "setOpening", desc := "(III)V" } : Jvm.MethodName) ({ cls := "PipeMoments$Layout", name := "setOpening", desc := "(III)V" } : Jvm.MethodName)) ∈ lw_g := gm (List.mem_of_getElem? (i := 262) (by decide +kernel)) rfl
theorem wd_214 : (Jvm.Cond.code ({ cls := "PipeMoments$Layout", name := "setOpening", desc := "(III)V" } : Jvm.MethodName) prog_3_method_14_code (4 : Nat) (Option.none : Option Jvm.ClassFile.FieldType)) ∈ lw_g := gm (List.mem_of_getElem? (i := 263) (by decide +kernel)) rfl
theorem wd_215 : (Jvm.Cond.methodLink "PipeMomentsLaw" (23 : Nat) ({ cls := "PipeMoments", name := "dropPipe", desc := "(I)I" } : Jvm.MethodName)) ∈ lw_g := gm (List.mem_of_getElem? (i := 264) (by decide +kernel)) rfl
theorem wd_216 : (Jvm.Cond.instanceMethod ({ cls := "PipeMoments", name := "dropPipe", desc := "(I)I" } : Jvm.MethodName)) ∈ lw_g := gm (List.mem_of_getElem? (i := 265) (by decide +kernel)) rfl
theorem wd_217 : (Jvm.Cond.selects "PipeMoments" ({ cls := "PipeMoments", name := "dropPipe", desc := "(I)I" } : Jvm.MethodName) ({ cls := "PipeMoments", name := "dropPipe", desc := "(I)I" } : Jvm.MethodName)) ∈ lw_g := gm (List.mem_of_getElem? (i := 266) (by decide +kernel)) rfl
theorem wd_218 : (Jvm.Cond.code ({ cls := "PipeMoments", name := "dropPipe", desc := "(I)I" } : Jvm.MethodName) prog_1_method_4_code (2 : Nat) (Option.some Jvm.ClassFile.FieldType.int)) ∈ lw_g := gm (List.mem_of_getElem? (i := 267) (by decide +kernel)) rfl
theorem wd_219 : (Jvm.Cond.methodLink "PipeMoments" (64 : Nat) ({ cls := "PipeMoments$Layout", name := "isPipe", desc := "(I)Z" } : Jvm.MethodName)) ∈ lw_g := gm (List.mem_of_getElem? (i := 268) (by decide +kernel)) rfl
theorem wd_220 : (Jvm.Cond.instanceMethod ({ cls := "PipeMoments$Layout", name := "isPipe", desc := "(I)Z" } : Jvm.MethodName)) ∈ lw_g := gm (List.mem_of_getElem? (i := 269) (by decide +kernel)) rfl
theorem wd_221 : (Jvm.Cond.selects "PipeMoments$Layout" ({ cls := "PipeMoments$Layout", name := "isPipe", desc := "(I)Z" } : Jvm.MethodName) ({ cls := "PipeMoments$Layout", name := "isPipe", desc := "(I)Z" } : Jvm.MethodName)) ∈ lw_g := gm (List.mem_of_getElem? (i := 270) (by decide +kernel)) rfl
theorem wd_222 : (Jvm.Cond.code ({ cls := "PipeMoments$Layout", name := "isPipe", desc := "(I)Z" } : Jvm.MethodName) prog_3_method_4_code (2 : Nat) (Option.some Jvm.ClassFile.FieldType.boolean)) ∈ lw_g := gm (List.mem_of_getElem? (i := 271) (by decide +kernel)) rfl
theorem wd_223 : (Jvm.Cond.methodLink "PipeMoments" (68 : Nat) ({ cls := "PipeMoments$Layout", name := "removePipe", desc := "(I)V" } : Jvm.MethodName)) ∈ lw_g := gm (List.mem_of_getElem? (i := 272) (by decide +kernel)) rfl
theorem wd_224 : (Jvm.Cond.instanceMethod ({ cls := "PipeMoments$Layout", name := "removePipe", desc := "(I)V" } : Jvm.MethodName)) ∈ lw_g := gm (List.mem_of_getElem? (i := 273) (by decide +kernel)) rfl
theorem wd_225 : (Jvm.Cond.selects "PipeMoments$Layout" ({ cls := "PipeMoments$Layout", name := "removePipe", desc := "(I)V" } : Jvm.MethodName) ({ cls := "PipeMoments$Layout", name := "removePipe", desc := "(I)V" } : Jvm.MethodName)) ∈ lw_g := gm (List.mem_of_getElem? (i := 274) (by decide +kernel)) rfl
theorem wd_226 : (Jvm.Cond.code ({ cls := "PipeMoments$Layout", name := "removePipe", desc := "(I)V" } : Jvm.MethodName) prog_3_method_13_code (3 : Nat) (Option.none : Option Jvm.ClassFile.FieldType)) ∈ lw_g := gm (List.mem_of_getElem? (i := 275) (by decide +kernel)) rfl
theorem wd_227 : (Jvm.Cond.methodLink "PipeMomentsLaw" (28 : Nat) ({ cls := "PipeMoments", name := "open", desc := "(III)I" } : Jvm.MethodName)) ∈ lw_g := gm (List.mem_of_getElem? (i := 276) (by decide +kernel)) rfl
theorem wd_228 : (Jvm.Cond.instanceMethod ({ cls := "PipeMoments", name := "open", desc := "(III)I" } : Jvm.MethodName)) ∈ lw_g := gm (List.mem_of_getElem? (i := 277) (by decide +kernel)) rfl
theorem wd_229 : (Jvm.Cond.selects "PipeMoments" ({ cls := "PipeMoments", name := "open", desc := "(III)I" } : Jvm.MethodName) ({ cls := "PipeMoments", name := "open", desc := "(III)I" } : Jvm.MethodName)) ∈ lw_g := gm (List.mem_of_getElem? (i := 278) (by decide +kernel)) rfl
theorem wd_230 : (Jvm.Cond.code ({ cls := "PipeMoments", name := "open", desc := "(III)I" } : Jvm.MethodName) prog_1_method_5_code (4 : Nat) (Option.some Jvm.ClassFile.FieldType.int)) ∈ lw_g := gm (List.mem_of_getElem? (i := 279) (by decide +kernel)) rfl
theorem wd_231 : (Jvm.Cond.methodLink "PipeMoments" (76 : Nat) ({ cls := "PipeMoments$Layout", name := "badOfOpening", desc := "(III)I" } : Jvm.MethodName)) ∈ lw_g := gm (List.mem_of_getElem? (i := 280) (by decide +kernel)) rfl
theorem wd_232 : (Jvm.Cond.instanceMethod ({ cls := "PipeMoments$Layout", name := "badOfOpening", desc := "(III)I" } : Jvm.MethodName)) ∈ lw_g := gm (List.mem_of_getElem? (i := 281) (by decide +kernel)) rfl
theorem wd_233 : (Jvm.Cond.selects "PipeMoments$Layout" ({ cls := "PipeMoments$Layout", name := "badOfOpening", desc := "(III)I" } : Jvm.MethodName) ({ cls := "PipeMoments$Layout", name := "badOfOpening", desc := "(III)I" } : Jvm.MethodName)) ∈ lw_g := gm (List.mem_of_getElem? (i := 282) (by decide +kernel)) rfl
theorem wd_234 : (Jvm.Cond.code ({ cls := "PipeMoments$Layout", name := "badOfOpening", desc := "(III)I" } : Jvm.MethodName) prog_3_method_9_code (4 : Nat) (Option.some Jvm.ClassFile.FieldType.int)) ∈ lw_g := gm (List.mem_of_getElem? (i := 283) (by decide +kernel)) rfl
theorem wd_235 : (Jvm.Cond.methodLink "PipeMoments$Layout" (42 : Nat) ({ cls := "PipeMoments$Layout", name := "isPipe", desc := "(I)Z" } : Jvm.MethodName)) ∈ lw_g := gm (List.mem_of_getElem? (i := 284) (by decide +kernel)) rfl
theorem wd_236 : (Jvm.Cond.methodLinkNest "PipeMoments$Layout" (45 : Nat) ({ cls := "PipeMoments", name := "isTick", desc := "(I)Z" } : Jvm.MethodName) "PipeMoments") ∈ lw_tbl := List.mem_of_getElem? (i := 285) (by decide +kernel)
theorem wd_237 : (Jvm.Cond.static ({ cls := "PipeMoments", name := "isTick", desc := "(I)Z" } : Jvm.MethodName)) ∈ lw_g := gm (List.mem_of_getElem? (i := 286) (by decide +kernel)) rfl
theorem wd_238 : (Jvm.Cond.code ({ cls := "PipeMoments", name := "isTick", desc := "(I)Z" } : Jvm.MethodName) prog_1_method_26_code (1 : Nat) (Option.some Jvm.ClassFile.FieldType.boolean)) ∈ lw_g := gm (List.mem_of_getElem? (i := 287) (by decide +kernel)) rfl
theorem wd_239 : (Jvm.Cond.methodLink "PipeMoments" (89 : Nat) ({ cls := "PipeMoments", name := "within", desc := "(III)Z" } : Jvm.MethodName)) ∈ lw_g := gm (List.mem_of_getElem? (i := 288) (by decide +kernel)) rfl
theorem wd_240 : (Jvm.Cond.methodLink "PipeMoments" (80 : Nat) ({ cls := "PipeMoments$Layout", name := "setOpening", desc := "(III)V" } : Jvm.MethodName)) ∈ lw_g := gm (List.mem_of_getElem? (i := 289) (by decide +kernel)) rfl
theorem wd_241 : (Jvm.Cond.methodLink "PipeMoments" (84 : Nat) ({ cls := "java/lang/Math", name := "max", desc := "(II)I" } : Jvm.MethodName)) ∈ lw_g := gm (List.mem_of_getElem? (i := 290) (by decide +kernel)) rfl
theorem wd_242 : (Jvm.Cond.static ({ cls := "java/lang/Math", name := "max", desc := "(II)I" } : Jvm.MethodName)) ∈ lw_g := gm (List.mem_of_getElem? (i := 291) (by decide +kernel)) rfl
theorem wd_243 : (Jvm.Cond.code ({ cls := "java/lang/Math", name := "max", desc := "(II)I" } : Jvm.MethodName) prog_8_method_65_code (2 : Nat) (Option.some Jvm.ClassFile.FieldType.int)) ∈ lw_g := gm (List.mem_of_getElem? (i := 292) (by decide +kernel)) rfl
theorem wd_244 : (Jvm.Cond.methodLink "PipeMomentsLaw" (33 : Nat) ({ cls := "PipeMoments", name := "widen", desc := "(II)I" } : Jvm.MethodName)) ∈ lw_g := gm (List.mem_of_getElem? (i := 293) (by decide +kernel)) rfl
theorem wd_245 : (Jvm.Cond.instanceMethod ({ cls := "PipeMoments", name := "widen", desc := "(II)I" } : Jvm.MethodName)) ∈ lw_g := gm (List.mem_of_getElem? (i := 294) (by decide +kernel)) rfl
theorem wd_246 : (Jvm.Cond.selects "PipeMoments" ({ cls := "PipeMoments", name := "widen", desc := "(II)I" } : Jvm.MethodName) ({ cls := "PipeMoments", name := "widen", desc := "(II)I" } : Jvm.MethodName)) ∈ lw_g := gm (List.mem_of_getElem? (i := 295) (by decide +kernel)) rfl
theorem wd_247 : (Jvm.Cond.code ({ cls := "PipeMoments", name := "widen", desc := "(II)I" } : Jvm.MethodName) prog_1_method_6_code (4 : Nat) (Option.some Jvm.ClassFile.FieldType.int)) ∈ lw_g := gm (List.mem_of_getElem? (i := 296) (by decide +kernel)) rfl
theorem wd_248 : (Jvm.Cond.methodLink "PipeMoments" (93 : Nat) ({ cls := "PipeMoments$Layout", name := "partOf", desc := "(II)I" } : Jvm.MethodName)) ∈ lw_g := gm (List.mem_of_getElem? (i := 297) (by decide +kernel)) rfl
theorem wd_249 : (Jvm.Cond.instanceMethod ({ cls := "PipeMoments$Layout", name := "partOf", desc := "(II)I" } : Jvm.MethodName)) ∈ lw_g := gm (List.mem_of_getElem? (i := 298) (by decide +kernel)) rfl
theorem wd_250 : (Jvm.Cond.selects "PipeMoments$Layout" ({ cls := "PipeMoments$Layout", name := "partOf", desc := "(II)I" } : Jvm.MethodName) ({ cls := "PipeMoments$Layout", name := "partOf", desc := "(II)I" } : Jvm.MethodName)) ∈ lw_g := gm (List.mem_of_getElem? (i := 299) (by decide +kernel)) rfl
theorem wd_251 : (Jvm.Cond.code ({ cls := "PipeMoments$Layout", name := "partOf", desc := "(II)I" } : Jvm.MethodName) prog_3_method_15_code (3 : Nat) (Option.some Jvm.ClassFile.FieldType.int)) ∈ lw_g := gm (List.mem_of_getElem? (i := 300) (by decide +kernel)) rfl
theorem wd_252 : (Jvm.Cond.methodLink "PipeMoments" (96 : Nat) ({ cls := "PipeMoments$Layout", name := "setPart", desc := "(III)V" } : Jvm.MethodName)) ∈ lw_g := gm (List.mem_of_getElem? (i := 301) (by decide +kernel)) rfl
theorem wd_253 : (Jvm.Cond.methodLink "PipeMomentsLaw" (37 : Nat) ({ cls := "PipeMoments", name := "units", desc := "(II)I" } : Jvm.MethodName)) ∈ lw_g := gm (List.mem_of_getElem? (i := 302) (by decide +kernel)) rfl
theorem wd_254 : (Jvm.Cond.instanceMethod ({ cls := "PipeMoments", name := "units", desc := "(II)I" } : Jvm.MethodName)) ∈ lw_g := gm (List.mem_of_getElem? (i := 303) (by decide +kernel)) rfl
theorem wd_255 : (Jvm.Cond.selects "PipeMoments" ({ cls := "PipeMoments", name := "units", desc := "(II)I" } : Jvm.MethodName) ({ cls := "PipeMoments", name := "units", desc := "(II)I" } : Jvm.MethodName)) ∈ lw_g := gm (List.mem_of_getElem? (i := 304) (by decide +kernel)) rfl
theorem wd_256 : (Jvm.Cond.code ({ cls := "PipeMoments", name := "units", desc := "(II)I" } : Jvm.MethodName) prog_1_method_7_code (4 : Nat) (Option.some Jvm.ClassFile.FieldType.int)) ∈ lw_g := gm (List.mem_of_getElem? (i := 305) (by decide +kernel)) rfl
theorem wd_257 : (Jvm.Cond.methodLink "PipeMoments" (99 : Nat) ({ cls := "PipeMoments$Layout", name := "badOfUnits", desc := "(II)I" } : Jvm.MethodName)) ∈ lw_g := gm (List.mem_of_getElem? (i := 306) (by decide +kernel)) rfl
theorem wd_258 : (Jvm.Cond.instanceMethod ({ cls := "PipeMoments$Layout", name := "badOfUnits", desc := "(II)I" } : Jvm.MethodName)) ∈ lw_g := gm (List.mem_of_getElem? (i := 307) (by decide +kernel)) rfl
theorem wd_259 : (Jvm.Cond.selects "PipeMoments$Layout" ({ cls := "PipeMoments$Layout", name := "badOfUnits", desc := "(II)I" } : Jvm.MethodName) ({ cls := "PipeMoments$Layout", name := "badOfUnits", desc := "(II)I" } : Jvm.MethodName)) ∈ lw_g := gm (List.mem_of_getElem? (i := 308) (by decide +kernel)) rfl
theorem wd_260 : (Jvm.Cond.code ({ cls := "PipeMoments$Layout", name := "badOfUnits", desc := "(II)I" } : Jvm.MethodName) prog_3_method_10_code (3 : Nat) (Option.some Jvm.ClassFile.FieldType.int)) ∈ lw_g := gm (List.mem_of_getElem? (i := 309) (by decide +kernel)) rfl
theorem wd_261 : (Jvm.Cond.methodLink "PipeMomentsLaw" (41 : Nat) ({ cls := "PipeMoments", name := "room", desc := "(II)I" } : Jvm.MethodName)) ∈ lw_g := gm (List.mem_of_getElem? (i := 310) (by decide +kernel)) rfl
theorem wd_262 : (Jvm.Cond.instanceMethod ({ cls := "PipeMoments", name := "room", desc := "(II)I" } : Jvm.MethodName)) ∈ lw_g := gm (List.mem_of_getElem? (i := 311) (by decide +kernel)) rfl
theorem wd_263 : (Jvm.Cond.selects "PipeMoments" ({ cls := "PipeMoments", name := "room", desc := "(II)I" } : Jvm.MethodName) ({ cls := "PipeMoments", name := "room", desc := "(II)I" } : Jvm.MethodName)) ∈ lw_g := gm (List.mem_of_getElem? (i := 312) (by decide +kernel)) rfl
theorem wd_264 : (Jvm.Cond.code ({ cls := "PipeMoments", name := "room", desc := "(II)I" } : Jvm.MethodName) prog_1_method_8_code (4 : Nat) (Option.some Jvm.ClassFile.FieldType.int)) ∈ lw_g := gm (List.mem_of_getElem? (i := 313) (by decide +kernel)) rfl
theorem wd_265 : (Jvm.Cond.methodLink "PipeMoments" (106 : Nat) ({ cls := "PipeMoments$Layout", name := "isPlace", desc := "(I)Z" } : Jvm.MethodName)) ∈ lw_g := gm (List.mem_of_getElem? (i := 314) (by decide +kernel)) rfl
theorem wd_266 : (Jvm.Cond.methodLink "PipeMomentsLaw" (45 : Nat) ({ cls := "PipeMoments", name := "pipeOf", desc := "(II)I" } : Jvm.MethodName)) ∈ lw_g := gm (List.mem_of_getElem? (i := 315) (by decide +kernel)) rfl
theorem wd_267 : (Jvm.Cond.instanceMethod ({ cls := "PipeMoments", name := "pipeOf", desc := "(II)I" } : Jvm.MethodName)) ∈ lw_g := gm (List.mem_of_getElem? (i := 316) (by decide +kernel)) rfl
theorem wd_268 : (Jvm.Cond.selects "PipeMoments" ({ cls := "PipeMoments", name := "pipeOf", desc := "(II)I" } : Jvm.MethodName) ({ cls := "PipeMoments", name := "pipeOf", desc := "(II)I" } : Jvm.MethodName)) ∈ lw_g := gm (List.mem_of_getElem? (i := 317) (by decide +kernel)) rfl
theorem wd_269 : (Jvm.Cond.code ({ cls := "PipeMoments", name := "pipeOf", desc := "(II)I" } : Jvm.MethodName) prog_1_method_9_code (3 : Nat) (Option.some Jvm.ClassFile.FieldType.int)) ∈ lw_g := gm (List.mem_of_getElem? (i := 318) (by decide +kernel)) rfl
theorem wd_270 : (Jvm.Cond.methodLink "PipeMomentsLaw" (49 : Nat) ({ cls := "PipeMoments", name := "placeOf", desc := "(II)I" } : Jvm.MethodName)) ∈ lw_g := gm (List.mem_of_getElem? (i := 319) (by decide +kernel)) rfl
theorem wd_271 : (Jvm.Cond.instanceMethod ({ cls := "PipeMoments", name := "placeOf", desc := "(II)I" } : Jvm.MethodName)) ∈ lw_g := gm (List.mem_of_getElem? (i := 320) (by decide +kernel)) rfl
theorem wd_272 : (Jvm.Cond.selects "PipeMoments" ({ cls := "PipeMoments", name := "placeOf", desc := "(II)I" } : Jvm.MethodName) ({ cls := "PipeMoments", name := "placeOf", desc := "(II)I" } : Jvm.MethodName)) ∈ lw_g := gm (List.mem_of_getElem? (i := 321) (by decide +kernel)) rfl
theorem wd_273 : (Jvm.Cond.code ({ cls := "PipeMoments", name := "placeOf", desc := "(II)I" } : Jvm.MethodName) prog_1_method_10_code (3 : Nat) (Option.some Jvm.ClassFile.FieldType.int)) ∈ lw_g := gm (List.mem_of_getElem? (i := 322) (by decide +kernel)) rfl
theorem wd_274 : (Jvm.Cond.methodLink "PipeMoments" (112 : Nat) ({ cls := "PipeMoments$Layout", name := "pipesWith", desc := "(II)I" } : Jvm.MethodName)) ∈ lw_g := gm (List.mem_of_getElem? (i := 323) (by decide +kernel)) rfl
theorem wd_275 : (Jvm.Cond.instanceMethod ({ cls := "PipeMoments$Layout", name := "pipesWith", desc := "(II)I" } : Jvm.MethodName)) ∈ lw_g := gm (List.mem_of_getElem? (i := 324) (by decide +kernel)) rfl
theorem wd_276 : (Jvm.Cond.selects "PipeMoments$Layout" ({ cls := "PipeMoments$Layout", name := "pipesWith", desc := "(II)I" } : Jvm.MethodName) ({ cls := "PipeMoments$Layout", name := "pipesWith", desc := "(II)I" } : Jvm.MethodName)) ∈ lw_g := gm (List.mem_of_getElem? (i := 325) (by decide +kernel)) rfl
theorem wd_277 : (Jvm.Cond.code ({ cls := "PipeMoments$Layout", name := "pipesWith", desc := "(II)I" } : Jvm.MethodName) prog_3_method_18_code (5 : Nat) (Option.some Jvm.ClassFile.FieldType.int)) ∈ lw_g := gm (List.mem_of_getElem? (i := 326) (by decide +kernel)) rfl
theorem wd_278 : (Jvm.Cond.methodLink "PipeMoments$Layout" (55 : Nat) ({ cls := "PipeMoments$Layout", name := "partOf", desc := "(II)I" } : Jvm.MethodName)) ∈ lw_g := gm (List.mem_of_getElem? (i := 327) (by decide +kernel)) rfl
theorem wd_279 : (Jvm.Cond.methodLink "PipeMoments" (115 : Nat) ({ cls := "PipeMoments$Stream", name := "leastTickAlone", desc := "(LPipeMoments$Layout;I)I" } : Jvm.MethodName)) ∈ lw_g := gm (List.mem_of_getElem? (i := 328) (by decide +kernel)) rfl
theorem wd_280 : (Jvm.Cond.instanceMethod ({ cls := "PipeMoments$Stream", name := "leastTickAlone", desc := "(LPipeMoments$Layout;I)I" } : Jvm.MethodName)) ∈ lw_g := gm (List.mem_of_getElem? (i := 329) (by decide +kernel)) rfl
theorem wd_281 : (Jvm.Cond.selects "PipeMoments$Stream" ({ cls := "PipeMoments$Stream", name := "leastTickAlone", desc := "(LPipeMoments$Layout;I)I" } : Jvm.MethodName) ({ cls := "PipeMoments$Stream", name := "leastTickAlone", desc := "(LPipeMoments$Layout;I)I" } : Jvm.MethodName)) ∈ lw_g := gm (List.mem_of_getElem? (i := 330) (by decide +kernel)) rfl
theorem wd_282 : (Jvm.Cond.code ({ cls := "PipeMoments$Stream", name := "leastTickAlone", desc := "(LPipeMoments$Layout;I)I" } : Jvm.MethodName) prog_5_method_8_code (3 : Nat) (Option.some Jvm.ClassFile.FieldType.int)) ∈ lw_g := gm (List.mem_of_getElem? (i := 331) (by decide +kernel)) rfl
theorem wd_283 : (Jvm.Cond.methodLink "PipeMoments$Stream" (38 : Nat) ({ cls := "PipeMoments$Layout", name := "copyFrom", desc := "(LPipeMoments$Layout;)V" } : Jvm.MethodName)) ∈ lw_g := gm (List.mem_of_getElem? (i := 332) (by decide +kernel)) rfl
theorem wd_284 : (Jvm.Cond.methodLink "PipeMoments$Stream" (57 : Nat) ({ cls := "java/util/Arrays", name := "fill", desc := "([II)V" } : Jvm.MethodName)) ∈ lw_g := gm (List.mem_of_getElem? (i := 333) (by decide +kernel)) rfl
theorem wd_285 : (Jvm.Cond.static ({ cls := "java/util/Arrays", name := "fill", desc := "([II)V" } : Jvm.MethodName)) ∈ lw_g := gm (List.mem_of_getElem? (i := 334) (by decide +kernel)) rfl
theorem wd_286 : (Jvm.Cond.code ({ cls := "java/util/Arrays", name := "fill", desc := "([II)V" } : Jvm.MethodName) prog_10_method_103_code (4 : Nat) (Option.none : Option Jvm.ClassFile.FieldType)) ∈ lw_g := gm (List.mem_of_getElem? (i := 335) (by decide +kernel)) rfl
theorem wd_287 : (Jvm.Cond.methodLink "PipeMoments$Stream" (73 : Nat) ({ cls := "PipeMoments$Stream", name := "leastTickFor", desc := "(I)I" } : Jvm.MethodName)) ∈ lw_g := gm (List.mem_of_getElem? (i := 336) (by decide +kernel)) rfl
theorem wd_289 : (Jvm.Cond.instanceMethod ({ cls := "PipeMoments$Stream", name := "leastTickFor", desc := "(I)I" } : Jvm.MethodName)) ∈ lw_g := gm (List.mem_of_getElem? (i := 338) (by decide +kernel)) rfl
theorem wd_290 : (Jvm.Cond.code ({ cls := "PipeMoments$Stream", name := "leastTickFor", desc := "(I)I" } : Jvm.MethodName) prog_5_method_14_code (4 : Nat) (Option.some Jvm.ClassFile.FieldType.int)) ∈ lw_g := gm (List.mem_of_getElem? (i := 339) (by decide +kernel)) rfl
theorem wd_291 : (Jvm.Cond.methodLink "PipeMoments$Stream" (92 : Nat) ({ cls := "PipeMoments$Stream", name := "begin", desc := "()V" } : Jvm.MethodName)) ∈ lw_g := gm (List.mem_of_getElem? (i := 340) (by decide +kernel)) rfl
theorem wd_293 : (Jvm.Cond.instanceMethod ({ cls := "PipeMoments$Stream", name := "begin", desc := "()V" } : Jvm.MethodName)) ∈ lw_g := gm (List.mem_of_getElem? (i := 342) (by decide +kernel)) rfl
theorem wd_294 : (Jvm.Cond.code ({ cls := "PipeMoments$Stream", name := "begin", desc := "()V" } : Jvm.MethodName) prog_5_method_19_code (3 : Nat) (Option.none : Option Jvm.ClassFile.FieldType)) ∈ lw_g := gm (List.mem_of_getElem? (i := 343) (by decide +kernel)) rfl
theorem wd_295 : (Jvm.Cond.methodLink "PipeMoments$Stream" (76 : Nat) ({ cls := "PipeMoments$Stream", name := "through", desc := "(II)I" } : Jvm.MethodName)) ∈ lw_g := gm (List.mem_of_getElem? (i := 344) (by decide +kernel)) rfl
theorem wd_296 : (Jvm.Cond.static ({ cls := "PipeMoments$Stream", name := "through", desc := "(II)I" } : Jvm.MethodName)) ∈ lw_g := gm (List.mem_of_getElem? (i := 345) (by decide +kernel)) rfl
theorem wd_297 : (Jvm.Cond.code ({ cls := "PipeMoments$Stream", name := "through", desc := "(II)I" } : Jvm.MethodName) prog_5_method_15_code (2 : Nat) (Option.some Jvm.ClassFile.FieldType.int)) ∈ lw_g := gm (List.mem_of_getElem? (i := 346) (by decide +kernel)) rfl
theorem wd_298 : (Jvm.Cond.methodLink "PipeMoments$Stream" (86 : Nat) ({ cls := "PipeMoments$Layout", name := "boundIn", desc := "(II)I" } : Jvm.MethodName)) ∈ lw_g := gm (List.mem_of_getElem? (i := 347) (by decide +kernel)) rfl
theorem wd_299 : (Jvm.Cond.instanceMethod ({ cls := "PipeMoments$Layout", name := "boundIn", desc := "(II)I" } : Jvm.MethodName)) ∈ lw_g := gm (List.mem_of_getElem? (i := 348) (by decide +kernel)) rfl
theorem wd_300 : (Jvm.Cond.selects "PipeMoments$Layout" ({ cls := "PipeMoments$Layout", name := "boundIn", desc := "(II)I" } : Jvm.MethodName) ({ cls := "PipeMoments$Layout", name := "boundIn", desc := "(II)I" } : Jvm.MethodName)) ∈ lw_g := gm (List.mem_of_getElem? (i := 349) (by decide +kernel)) rfl
theorem wd_301 : (Jvm.Cond.code ({ cls := "PipeMoments$Layout", name := "boundIn", desc := "(II)I" } : Jvm.MethodName) prog_3_method_17_code (3 : Nat) (Option.some Jvm.ClassFile.FieldType.int)) ∈ lw_g := gm (List.mem_of_getElem? (i := 350) (by decide +kernel)) rfl
theorem wd_302 : (Jvm.Cond.methodLink "PipeMoments$Stream" (99 : Nat) ({ cls := "PipeMoments$Stream", name := "bind", desc := "(II)V" } : Jvm.MethodName)) ∈ lw_g := gm (List.mem_of_getElem? (i := 351) (by decide +kernel)) rfl
theorem wd_304 : (Jvm.Cond.instanceMethod ({ cls := "PipeMoments$Stream", name := "bind", desc := "(II)V" } : Jvm.MethodName)) ∈ lw_g := gm (List.mem_of_getElem? (i := 353) (by decide +kernel)) rfl
theorem wd_305 : (Jvm.Cond.code ({ cls := "PipeMoments$Stream", name := "bind", desc := "(II)V" } : Jvm.MethodName) prog_5_method_20_code (3 : Nat) (Option.none : Option Jvm.ClassFile.FieldType)) ∈ lw_g := gm (List.mem_of_getElem? (i := 354) (by decide +kernel)) rfl
theorem wd_306 : (Jvm.Cond.methodLink "PipeMoments$Stream" (79 : Nat) ({ cls := "PipeMoments$Stream", name := "back", desc := "(I)I" } : Jvm.MethodName)) ∈ lw_g := gm (List.mem_of_getElem? (i := 355) (by decide +kernel)) rfl
theorem wd_307 : (Jvm.Cond.static ({ cls := "PipeMoments$Stream", name := "back", desc := "(I)I" } : Jvm.MethodName)) ∈ lw_g := gm (List.mem_of_getElem? (i := 356) (by decide +kernel)) rfl
theorem wd_308 : (Jvm.Cond.code ({ cls := "PipeMoments$Stream", name := "back", desc := "(I)I" } : Jvm.MethodName) prog_5_method_18_code (1 : Nat) (Option.some Jvm.ClassFile.FieldType.int)) ∈ lw_g := gm (List.mem_of_getElem? (i := 357) (by decide +kernel)) rfl
theorem wd_309 : (Jvm.Cond.methodLink "PipeMoments$Stream" (106 : Nat) ({ cls := "PipeMoments$Stream", name := "settingOut", desc := "(I)I" } : Jvm.MethodName)) ∈ lw_g := gm (List.mem_of_getElem? (i := 358) (by decide +kernel)) rfl
theorem wd_310 : (Jvm.Cond.static ({ cls := "PipeMoments$Stream", name := "settingOut", desc := "(I)I" } : Jvm.MethodName)) ∈ lw_g := gm (List.mem_of_getElem? (i := 359) (by decide +kernel)) rfl
theorem wd_311 : (Jvm.Cond.code ({ cls := "PipeMoments$Stream", name := "settingOut", desc := "(I)I" } : Jvm.MethodName) prog_5_method_17_code (1 : Nat) (Option.some Jvm.ClassFile.FieldType.int)) ∈ lw_g := gm (List.mem_of_getElem? (i := 360) (by decide +kernel)) rfl
theorem wd_312 : (Jvm.Cond.methodLink "PipeMoments$Stream" (109 : Nat) ({ cls := "PipeMoments$Stream", name := "waiting", desc := "(I)I" } : Jvm.MethodName)) ∈ lw_g := gm (List.mem_of_getElem? (i := 361) (by decide +kernel)) rfl
theorem wd_313 : (Jvm.Cond.static ({ cls := "PipeMoments$Stream", name := "waiting", desc := "(I)I" } : Jvm.MethodName)) ∈ lw_g := gm (List.mem_of_getElem? (i := 362) (by decide +kernel)) rfl
theorem wd_314 : (Jvm.Cond.code ({ cls := "PipeMoments$Stream", name := "waiting", desc := "(I)I" } : Jvm.MethodName) prog_5_method_16_code (1 : Nat) (Option.some Jvm.ClassFile.FieldType.int)) ∈ lw_g := gm (List.mem_of_getElem? (i := 363) (by decide +kernel)) rfl
theorem wd_315 : (Jvm.Cond.methodLink "PipeMoments$Stream" (95 : Nat) ({ cls := "PipeMoments$Stream", name := "moreBy", desc := "(I)I" } : Jvm.MethodName)) ∈ lw_g := gm (List.mem_of_getElem? (i := 364) (by decide +kernel)) rfl
theorem wd_317 : (Jvm.Cond.instanceMethod ({ cls := "PipeMoments$Stream", name := "moreBy", desc := "(I)I" } : Jvm.MethodName)) ∈ lw_g := gm (List.mem_of_getElem? (i := 366) (by decide +kernel)) rfl
theorem wd_318 : (Jvm.Cond.code ({ cls := "PipeMoments$Stream", name := "moreBy", desc := "(I)I" } : Jvm.MethodName) prog_5_method_21_code (4 : Nat) (Option.some Jvm.ClassFile.FieldType.int)) ∈ lw_g := gm (List.mem_of_getElem? (i := 367) (by decide +kernel)) rfl
theorem wd_319 : (Jvm.Cond.constant "PipeMoments$Stream" (66 : Nat) (1000000 : Int32)) ∈ lw_g := gm (List.mem_of_getElem? (i := 368) (by decide +kernel)) rfl
theorem wd_320 : (Jvm.Cond.methodLink "PipeMoments$Stream" (112 : Nat) ({ cls := "PipeMoments$Stream", name := "search", desc := "(I)V" } : Jvm.MethodName)) ∈ lw_g := gm (List.mem_of_getElem? (i := 369) (by decide +kernel)) rfl
theorem wd_322 : (Jvm.Cond.instanceMethod ({ cls := "PipeMoments$Stream", name := "search", desc := "(I)V" } : Jvm.MethodName)) ∈ lw_g := gm (List.mem_of_getElem? (i := 371) (by decide +kernel)) rfl
theorem wd_323 : (Jvm.Cond.code ({ cls := "PipeMoments$Stream", name := "search", desc := "(I)V" } : Jvm.MethodName) prog_5_method_22_code (3 : Nat) (Option.none : Option Jvm.ClassFile.FieldType)) ∈ lw_g := gm (List.mem_of_getElem? (i := 372) (by decide +kernel)) rfl
theorem wd_324 : (Jvm.Cond.methodLink "PipeMoments$Stream" (120 : Nat) ({ cls := "PipeMoments$Stream", name := "tryWay", desc := "(III)V" } : Jvm.MethodName)) ∈ lw_g := gm (List.mem_of_getElem? (i := 373) (by decide +kernel)) rfl
theorem wd_326 : (Jvm.Cond.instanceMethod ({ cls := "PipeMoments$Stream", name := "tryWay", desc := "(III)V" } : Jvm.MethodName)) ∈ lw_g := gm (List.mem_of_getElem? (i := 375) (by decide +kernel)) rfl
theorem wd_327 : (Jvm.Cond.code ({ cls := "PipeMoments$Stream", name := "tryWay", desc := "(III)V" } : Jvm.MethodName) prog_5_method_24_code (4 : Nat) (Option.none : Option Jvm.ClassFile.FieldType)) ∈ lw_g := gm (List.mem_of_getElem? (i := 376) (by decide +kernel)) rfl
theorem wd_328 : (Jvm.Cond.methodLink "PipeMoments$Stream" (123 : Nat) ({ cls := "PipeMoments$Stream", name := "spread", desc := "(II)V" } : Jvm.MethodName)) ∈ lw_g := gm (List.mem_of_getElem? (i := 377) (by decide +kernel)) rfl
theorem wd_330 : (Jvm.Cond.instanceMethod ({ cls := "PipeMoments$Stream", name := "spread", desc := "(II)V" } : Jvm.MethodName)) ∈ lw_g := gm (List.mem_of_getElem? (i := 379) (by decide +kernel)) rfl
theorem wd_331 : (Jvm.Cond.code ({ cls := "PipeMoments$Stream", name := "spread", desc := "(II)V" } : Jvm.MethodName) prog_5_method_23_code (9 : Nat) (Option.none : Option Jvm.ClassFile.FieldType)) ∈ lw_g := gm (List.mem_of_getElem? (i := 380) (by decide +kernel)) rfl
theorem wd_332 : (Jvm.Cond.methodLink "PipeMoments$Stream" (50 : Nat) ({ cls := "PipeMoments$Layout", name := "partOf", desc := "(II)I" } : Jvm.MethodName)) ∈ lw_g := gm (List.mem_of_getElem? (i := 381) (by decide +kernel)) rfl
theorem wd_333 : (Jvm.Cond.methodLink "PipeMoments$Stream" (116 : Nat) ({ cls := "PipeMoments$Stream", name := "carryToArrival", desc := "()I" } : Jvm.MethodName)) ∈ lw_g := gm (List.mem_of_getElem? (i := 382) (by decide +kernel)) rfl
theorem wd_335 : (Jvm.Cond.instanceMethod ({ cls := "PipeMoments$Stream", name := "carryToArrival", desc := "()I" } : Jvm.MethodName)) ∈ lw_g := gm (List.mem_of_getElem? (i := 384) (by decide +kernel)) rfl
theorem wd_336 : (Jvm.Cond.code ({ cls := "PipeMoments$Stream", name := "carryToArrival", desc := "()I" } : Jvm.MethodName) prog_5_method_25_code (5 : Nat) (Option.some Jvm.ClassFile.FieldType.int)) ∈ lw_g := gm (List.mem_of_getElem? (i := 385) (by decide +kernel)) rfl
theorem wd_337 : (Jvm.Cond.methodLink "PipeMoments$Stream" (126 : Nat) ({ cls := "java/lang/Math", name := "min", desc := "(II)I" } : Jvm.MethodName)) ∈ lw_g := gm (List.mem_of_getElem? (i := 386) (by decide +kernel)) rfl
theorem wd_338 : (Jvm.Cond.static ({ cls := "java/lang/Math", name := "min", desc := "(II)I" } : Jvm.MethodName)) ∈ lw_g := gm (List.mem_of_getElem? (i := 387) (by decide +kernel)) rfl
theorem wd_339 : (Jvm.Cond.code ({ cls := "java/lang/Math", name := "min", desc := "(II)I" } : Jvm.MethodName) prog_8_method_69_code (2 : Nat) (Option.some Jvm.ClassFile.FieldType.int)) ∈ lw_g := gm (List.mem_of_getElem? (i := 388) (by decide +kernel)) rfl
theorem wd_340 : (Jvm.Cond.constant "PipeMoments$Stream" (98 : Nat) (-1000004 : Int32)) ∈ lw_g := gm (List.mem_of_getElem? (i := 389) (by decide +kernel)) rfl
theorem wd_341 : (Jvm.Cond.methodLink "PipeMomentsLaw" (53 : Nat) ({ cls := "PipeMoments", name := "come", desc := "(I)I" } : Jvm.MethodName)) ∈ lw_g := gm (List.mem_of_getElem? (i := 390) (by decide +kernel)) rfl
theorem wd_342 : (Jvm.Cond.instanceMethod ({ cls := "PipeMoments", name := "come", desc := "(I)I" } : Jvm.MethodName)) ∈ lw_g := gm (List.mem_of_getElem? (i := 391) (by decide +kernel)) rfl
theorem wd_343 : (Jvm.Cond.selects "PipeMoments" ({ cls := "PipeMoments", name := "come", desc := "(I)I" } : Jvm.MethodName) ({ cls := "PipeMoments", name := "come", desc := "(I)I" } : Jvm.MethodName)) ∈ lw_g := gm (List.mem_of_getElem? (i := 392) (by decide +kernel)) rfl
theorem wd_344 : (Jvm.Cond.code ({ cls := "PipeMoments", name := "come", desc := "(I)I" } : Jvm.MethodName) prog_1_method_11_code (2 : Nat) (Option.some Jvm.ClassFile.FieldType.int)) ∈ lw_g := gm (List.mem_of_getElem? (i := 393) (by decide +kernel)) rfl
theorem wd_345 : (Jvm.Cond.methodLink "PipeMoments" (119 : Nat) ({ cls := "PipeMoments", name := "isTick", desc := "(I)Z" } : Jvm.MethodName)) ∈ lw_g := gm (List.mem_of_getElem? (i := 394) (by decide +kernel)) rfl
theorem wd_346 : (Jvm.Cond.methodLink "PipeMoments" (122 : Nat) ({ cls := "PipeMoments$Stream", name := "most", desc := "(LPipeMoments$Layout;I)I" } : Jvm.MethodName)) ∈ lw_g := gm (List.mem_of_getElem? (i := 395) (by decide +kernel)) rfl
theorem wd_347 : (Jvm.Cond.instanceMethod ({ cls := "PipeMoments$Stream", name := "most", desc := "(LPipeMoments$Layout;I)I" } : Jvm.MethodName)) ∈ lw_g := gm (List.mem_of_getElem? (i := 396) (by decide +kernel)) rfl
theorem wd_348 : (Jvm.Cond.selects "PipeMoments$Stream" ({ cls := "PipeMoments$Stream", name := "most", desc := "(LPipeMoments$Layout;I)I" } : Jvm.MethodName) ({ cls := "PipeMoments$Stream", name := "most", desc := "(LPipeMoments$Layout;I)I" } : Jvm.MethodName)) ∈ lw_g := gm (List.mem_of_getElem? (i := 397) (by decide +kernel)) rfl
theorem wd_349 : (Jvm.Cond.code ({ cls := "PipeMoments$Stream", name := "most", desc := "(LPipeMoments$Layout;I)I" } : Jvm.MethodName) prog_5_method_2_code (3 : Nat) (Option.some Jvm.ClassFile.FieldType.int)) ∈ lw_g := gm (List.mem_of_getElem? (i := 398) (by decide +kernel)) rfl
theorem wd_350 : (Jvm.Cond.methodLink "PipeMoments$Stream" (42 : Nat) ({ cls := "PipeMoments$Stream", name := "mostBy", desc := "(I)I" } : Jvm.MethodName)) ∈ lw_g := gm (List.mem_of_getElem? (i := 399) (by decide +kernel)) rfl
theorem wd_352 : (Jvm.Cond.instanceMethod ({ cls := "PipeMoments$Stream", name := "mostBy", desc := "(I)I" } : Jvm.MethodName)) ∈ lw_g := gm (List.mem_of_getElem? (i := 401) (by decide +kernel)) rfl
theorem wd_353 : (Jvm.Cond.code ({ cls := "PipeMoments$Stream", name := "mostBy", desc := "(I)I" } : Jvm.MethodName) prog_5_method_13_code (2 : Nat) (Option.some Jvm.ClassFile.FieldType.int)) ∈ lw_g := gm (List.mem_of_getElem? (i := 402) (by decide +kernel)) rfl
theorem wd_354 : (Jvm.Cond.methodLink "PipeMomentsLaw" (57 : Nat) ({ cls := "PipeMoments", name := "earliest", desc := "(I)I" } : Jvm.MethodName)) ∈ lw_g := gm (List.mem_of_getElem? (i := 403) (by decide +kernel)) rfl
theorem wd_355 : (Jvm.Cond.instanceMethod ({ cls := "PipeMoments", name := "earliest", desc := "(I)I" } : Jvm.MethodName)) ∈ lw_g := gm (List.mem_of_getElem? (i := 404) (by decide +kernel)) rfl
theorem wd_356 : (Jvm.Cond.selects "PipeMoments" ({ cls := "PipeMoments", name := "earliest", desc := "(I)I" } : Jvm.MethodName) ({ cls := "PipeMoments", name := "earliest", desc := "(I)I" } : Jvm.MethodName)) ∈ lw_g := gm (List.mem_of_getElem? (i := 405) (by decide +kernel)) rfl
theorem wd_357 : (Jvm.Cond.code ({ cls := "PipeMoments", name := "earliest", desc := "(I)I" } : Jvm.MethodName) prog_1_method_12_code (2 : Nat) (Option.some Jvm.ClassFile.FieldType.int)) ∈ lw_g := gm (List.mem_of_getElem? (i := 406) (by decide +kernel)) rfl
theorem wd_358 : (Jvm.Cond.methodLink "PipeMoments" (125 : Nat) ({ cls := "PipeMoments$Layout", name := "allUnits", desc := "()I" } : Jvm.MethodName)) ∈ lw_g := gm (List.mem_of_getElem? (i := 407) (by decide +kernel)) rfl
theorem wd_359 : (Jvm.Cond.instanceMethod ({ cls := "PipeMoments$Layout", name := "allUnits", desc := "()I" } : Jvm.MethodName)) ∈ lw_g := gm (List.mem_of_getElem? (i := 408) (by decide +kernel)) rfl
theorem wd_360 : (Jvm.Cond.selects "PipeMoments$Layout" ({ cls := "PipeMoments$Layout", name := "allUnits", desc := "()I" } : Jvm.MethodName) ({ cls := "PipeMoments$Layout", name := "allUnits", desc := "()I" } : Jvm.MethodName)) ∈ lw_g := gm (List.mem_of_getElem? (i := 409) (by decide +kernel)) rfl
theorem wd_361 : (Jvm.Cond.code ({ cls := "PipeMoments$Layout", name := "allUnits", desc := "()I" } : Jvm.MethodName) prog_3_method_19_code (3 : Nat) (Option.some Jvm.ClassFile.FieldType.int)) ∈ lw_g := gm (List.mem_of_getElem? (i := 410) (by decide +kernel)) rfl
theorem wd_362 : (Jvm.Cond.methodLink "PipeMoments" (129 : Nat) ({ cls := "PipeMoments$Stream", name := "leastTick", desc := "(LPipeMoments$Layout;I)I" } : Jvm.MethodName)) ∈ lw_g := gm (List.mem_of_getElem? (i := 411) (by decide +kernel)) rfl
theorem wd_363 : (Jvm.Cond.instanceMethod ({ cls := "PipeMoments$Stream", name := "leastTick", desc := "(LPipeMoments$Layout;I)I" } : Jvm.MethodName)) ∈ lw_g := gm (List.mem_of_getElem? (i := 412) (by decide +kernel)) rfl
theorem wd_364 : (Jvm.Cond.selects "PipeMoments$Stream" ({ cls := "PipeMoments$Stream", name := "leastTick", desc := "(LPipeMoments$Layout;I)I" } : Jvm.MethodName) ({ cls := "PipeMoments$Stream", name := "leastTick", desc := "(LPipeMoments$Layout;I)I" } : Jvm.MethodName)) ∈ lw_g := gm (List.mem_of_getElem? (i := 413) (by decide +kernel)) rfl
theorem wd_365 : (Jvm.Cond.code ({ cls := "PipeMoments$Stream", name := "leastTick", desc := "(LPipeMoments$Layout;I)I" } : Jvm.MethodName) prog_5_method_7_code (3 : Nat) (Option.some Jvm.ClassFile.FieldType.int)) ∈ lw_g := gm (List.mem_of_getElem? (i := 414) (by decide +kernel)) rfl
theorem wd_366 : (Jvm.Cond.methodLink "PipeMomentsLaw" (61 : Nat) ({ cls := "PipeMoments", name := "repeated", desc := "(II)I" } : Jvm.MethodName)) ∈ lw_g := gm (List.mem_of_getElem? (i := 415) (by decide +kernel)) rfl
theorem wd_367 : (Jvm.Cond.instanceMethod ({ cls := "PipeMoments", name := "repeated", desc := "(II)I" } : Jvm.MethodName)) ∈ lw_g := gm (List.mem_of_getElem? (i := 416) (by decide +kernel)) rfl
theorem wd_368 : (Jvm.Cond.selects "PipeMoments" ({ cls := "PipeMoments", name := "repeated", desc := "(II)I" } : Jvm.MethodName) ({ cls := "PipeMoments", name := "repeated", desc := "(II)I" } : Jvm.MethodName)) ∈ lw_g := gm (List.mem_of_getElem? (i := 417) (by decide +kernel)) rfl
theorem wd_369 : (Jvm.Cond.code ({ cls := "PipeMoments", name := "repeated", desc := "(II)I" } : Jvm.MethodName) prog_1_method_13_code (3 : Nat) (Option.some Jvm.ClassFile.FieldType.int)) ∈ lw_g := gm (List.mem_of_getElem? (i := 418) (by decide +kernel)) rfl
theorem wd_370 : (Jvm.Cond.methodLink "PipeMoments" (132 : Nat) ({ cls := "PipeMoments$Stream", name := "mostRepeated", desc := "(LPipeMoments$Layout;II)I" } : Jvm.MethodName)) ∈ lw_g := gm (List.mem_of_getElem? (i := 419) (by decide +kernel)) rfl
theorem wd_371 : (Jvm.Cond.instanceMethod ({ cls := "PipeMoments$Stream", name := "mostRepeated", desc := "(LPipeMoments$Layout;II)I" } : Jvm.MethodName)) ∈ lw_g := gm (List.mem_of_getElem? (i := 420) (by decide +kernel)) rfl
theorem wd_372 : (Jvm.Cond.selects "PipeMoments$Stream" ({ cls := "PipeMoments$Stream", name := "mostRepeated", desc := "(LPipeMoments$Layout;II)I" } : Jvm.MethodName) ({ cls := "PipeMoments$Stream", name := "mostRepeated", desc := "(LPipeMoments$Layout;II)I" } : Jvm.MethodName)) ∈ lw_g := gm (List.mem_of_getElem? (i := 421) (by decide +kernel)) rfl
theorem wd_373 : (Jvm.Cond.code ({ cls := "PipeMoments$Stream", name := "mostRepeated", desc := "(LPipeMoments$Layout;II)I" } : Jvm.MethodName) prog_5_method_6_code (5 : Nat) (Option.some Jvm.ClassFile.FieldType.int)) ∈ lw_g := gm (List.mem_of_getElem? (i := 422) (by decide +kernel)) rfl
theorem wd_374 : (Jvm.Cond.methodLink "PipeMoments$Stream" (70 : Nat) ({ cls := "PipeMoments$Layout", name := "setOpening", desc := "(III)V" } : Jvm.MethodName)) ∈ lw_g := gm (List.mem_of_getElem? (i := 423) (by decide +kernel)) rfl
theorem wd_375 : (Jvm.Cond.methodLink "PipeMomentsLaw" (65 : Nat) ({ cls := "PipeMoments", name := "narrow", desc := "(I)I" } : Jvm.MethodName)) ∈ lw_g := gm (List.mem_of_getElem? (i := 424) (by decide +kernel)) rfl
theorem wd_376 : (Jvm.Cond.instanceMethod ({ cls := "PipeMoments", name := "narrow", desc := "(I)I" } : Jvm.MethodName)) ∈ lw_g := gm (List.mem_of_getElem? (i := 425) (by decide +kernel)) rfl
theorem wd_377 : (Jvm.Cond.selects "PipeMoments" ({ cls := "PipeMoments", name := "narrow", desc := "(I)I" } : Jvm.MethodName) ({ cls := "PipeMoments", name := "narrow", desc := "(I)I" } : Jvm.MethodName)) ∈ lw_g := gm (List.mem_of_getElem? (i := 426) (by decide +kernel)) rfl
theorem wd_378 : (Jvm.Cond.code ({ cls := "PipeMoments", name := "narrow", desc := "(I)I" } : Jvm.MethodName) prog_1_method_14_code (2 : Nat) (Option.some Jvm.ClassFile.FieldType.int)) ∈ lw_g := gm (List.mem_of_getElem? (i := 427) (by decide +kernel)) rfl
theorem wd_379 : (Jvm.Cond.methodLink "PipeMoments" (136 : Nat) ({ cls := "PipeMoments$Stream", name := "narrowPipes", desc := "(I)I" } : Jvm.MethodName)) ∈ lw_g := gm (List.mem_of_getElem? (i := 428) (by decide +kernel)) rfl
theorem wd_380 : (Jvm.Cond.instanceMethod ({ cls := "PipeMoments$Stream", name := "narrowPipes", desc := "(I)I" } : Jvm.MethodName)) ∈ lw_g := gm (List.mem_of_getElem? (i := 429) (by decide +kernel)) rfl
theorem wd_381 : (Jvm.Cond.selects "PipeMoments$Stream" ({ cls := "PipeMoments$Stream", name := "narrowPipes", desc := "(I)I" } : Jvm.MethodName) ({ cls := "PipeMoments$Stream", name := "narrowPipes", desc := "(I)I" } : Jvm.MethodName)) ∈ lw_g := gm (List.mem_of_getElem? (i := 430) (by decide +kernel)) rfl
theorem wd_382 : (Jvm.Cond.code ({ cls := "PipeMoments$Stream", name := "narrowPipes", desc := "(I)I" } : Jvm.MethodName) prog_5_method_11_code (4 : Nat) (Option.some Jvm.ClassFile.FieldType.int)) ∈ lw_g := gm (List.mem_of_getElem? (i := 431) (by decide +kernel)) rfl
theorem wd_383 : (Jvm.Cond.methodLink "PipeMoments$Stream" (82 : Nat) ({ cls := "PipeMoments$Stream", name := "isNarrow", desc := "(II)Z" } : Jvm.MethodName)) ∈ lw_g := gm (List.mem_of_getElem? (i := 432) (by decide +kernel)) rfl
theorem wd_385 : (Jvm.Cond.instanceMethod ({ cls := "PipeMoments$Stream", name := "isNarrow", desc := "(II)Z" } : Jvm.MethodName)) ∈ lw_g := gm (List.mem_of_getElem? (i := 434) (by decide +kernel)) rfl
theorem wd_386 : (Jvm.Cond.code ({ cls := "PipeMoments$Stream", name := "isNarrow", desc := "(II)Z" } : Jvm.MethodName) prog_5_method_12_code (8 : Nat) (Option.some Jvm.ClassFile.FieldType.boolean)) ∈ lw_g := gm (List.mem_of_getElem? (i := 435) (by decide +kernel)) rfl
theorem wd_387 : (Jvm.Cond.methodLink "PipeMoments$Stream" (89 : Nat) ({ cls := "PipeMoments$Stream", name := "isWanting", desc := "(II)Z" } : Jvm.MethodName)) ∈ lw_g := gm (List.mem_of_getElem? (i := 436) (by decide +kernel)) rfl
theorem wd_388 : (Jvm.Cond.instanceMethod ({ cls := "PipeMoments$Stream", name := "isWanting", desc := "(II)Z" } : Jvm.MethodName)) ∈ lw_g := gm (List.mem_of_getElem? (i := 437) (by decide +kernel)) rfl
theorem wd_389 : (Jvm.Cond.selects "PipeMoments$Stream" ({ cls := "PipeMoments$Stream", name := "isWanting", desc := "(II)Z" } : Jvm.MethodName) ({ cls := "PipeMoments$Stream", name := "isWanting", desc := "(II)Z" } : Jvm.MethodName)) ∈ lw_g := gm (List.mem_of_getElem? (i := 438) (by decide +kernel)) rfl
theorem wd_390 : (Jvm.Cond.code ({ cls := "PipeMoments$Stream", name := "isWanting", desc := "(II)Z" } : Jvm.MethodName) prog_5_method_10_code (3 : Nat) (Option.some Jvm.ClassFile.FieldType.boolean)) ∈ lw_g := gm (List.mem_of_getElem? (i := 439) (by decide +kernel)) rfl
theorem wd_391 : (Jvm.Cond.methodLink "PipeMomentsLaw" (69 : Nat) ({ cls := "PipeMoments", name := "wanting", desc := "(III)I" } : Jvm.MethodName)) ∈ lw_g := gm (List.mem_of_getElem? (i := 440) (by decide +kernel)) rfl
theorem wd_392 : (Jvm.Cond.instanceMethod ({ cls := "PipeMoments", name := "wanting", desc := "(III)I" } : Jvm.MethodName)) ∈ lw_g := gm (List.mem_of_getElem? (i := 441) (by decide +kernel)) rfl
theorem wd_393 : (Jvm.Cond.selects "PipeMoments" ({ cls := "PipeMoments", name := "wanting", desc := "(III)I" } : Jvm.MethodName) ({ cls := "PipeMoments", name := "wanting", desc := "(III)I" } : Jvm.MethodName)) ∈ lw_g := gm (List.mem_of_getElem? (i := 442) (by decide +kernel)) rfl
theorem wd_394 : (Jvm.Cond.code ({ cls := "PipeMoments", name := "wanting", desc := "(III)I" } : Jvm.MethodName) prog_1_method_15_code (4 : Nat) (Option.some Jvm.ClassFile.FieldType.int)) ∈ lw_g := gm (List.mem_of_getElem? (i := 443) (by decide +kernel)) rfl
theorem wd_395 : (Jvm.Cond.methodLink "PipeMoments" (140 : Nat) ({ cls := "PipeMoments$Stream", name := "isWanting", desc := "(II)Z" } : Jvm.MethodName)) ∈ lw_g := gm (List.mem_of_getElem? (i := 444) (by decide +kernel)) rfl
theorem wd_396 : (Jvm.Cond.methodLink "PipeMomentsLaw" (73 : Nat) ({ cls := "PipeMoments", name := "dearest", desc := "(II)I" } : Jvm.MethodName)) ∈ lw_g := gm (List.mem_of_getElem? (i := 445) (by decide +kernel)) rfl
theorem wd_397 : (Jvm.Cond.instanceMethod ({ cls := "PipeMoments", name := "dearest", desc := "(II)I" } : Jvm.MethodName)) ∈ lw_g := gm (List.mem_of_getElem? (i := 446) (by decide +kernel)) rfl
theorem wd_398 : (Jvm.Cond.selects "PipeMoments" ({ cls := "PipeMoments", name := "dearest", desc := "(II)I" } : Jvm.MethodName) ({ cls := "PipeMoments", name := "dearest", desc := "(II)I" } : Jvm.MethodName)) ∈ lw_g := gm (List.mem_of_getElem? (i := 447) (by decide +kernel)) rfl
theorem wd_399 : (Jvm.Cond.code ({ cls := "PipeMoments", name := "dearest", desc := "(II)I" } : Jvm.MethodName) prog_1_method_16_code (8 : Nat) (Option.some Jvm.ClassFile.FieldType.int)) ∈ lw_g := gm (List.mem_of_getElem? (i := 448) (by decide +kernel)) rfl
theorem wd_400 : (Jvm.Cond.constant "PipeMoments" (144 : Nat) (-1000004 : Int32)) ∈ lw_g := gm (List.mem_of_getElem? (i := 449) (by decide +kernel)) rfl
theorem wd_401 : (Jvm.Cond.methodLink "PipeMoments" (145 : Nat) ({ cls := "PipeMoments$Stream", name := "usedPipes", desc := "()I" } : Jvm.MethodName)) ∈ lw_g := gm (List.mem_of_getElem? (i := 450) (by decide +kernel)) rfl
theorem wd_402 : (Jvm.Cond.instanceMethod ({ cls := "PipeMoments$Stream", name := "usedPipes", desc := "()I" } : Jvm.MethodName)) ∈ lw_g := gm (List.mem_of_getElem? (i := 451) (by decide +kernel)) rfl
theorem wd_403 : (Jvm.Cond.selects "PipeMoments$Stream" ({ cls := "PipeMoments$Stream", name := "usedPipes", desc := "()I" } : Jvm.MethodName) ({ cls := "PipeMoments$Stream", name := "usedPipes", desc := "()I" } : Jvm.MethodName)) ∈ lw_g := gm (List.mem_of_getElem? (i := 452) (by decide +kernel)) rfl
theorem wd_404 : (Jvm.Cond.code ({ cls := "PipeMoments$Stream", name := "usedPipes", desc := "()I" } : Jvm.MethodName) prog_5_method_9_code (4 : Nat) (Option.some Jvm.ClassFile.FieldType.int)) ∈ lw_g := gm (List.mem_of_getElem? (i := 453) (by decide +kernel)) rfl
theorem wd_405 : (Jvm.Cond.methodLink "PipeMoments" (148 : Nat) ({ cls := "PipeMoments", name := "has", desc := "(II)Z" } : Jvm.MethodName)) ∈ lw_g := gm (List.mem_of_getElem? (i := 454) (by decide +kernel)) rfl
theorem wd_406 : (Jvm.Cond.static ({ cls := "PipeMoments", name := "has", desc := "(II)Z" } : Jvm.MethodName)) ∈ lw_g := gm (List.mem_of_getElem? (i := 455) (by decide +kernel)) rfl
theorem wd_407 : (Jvm.Cond.code ({ cls := "PipeMoments", name := "has", desc := "(II)Z" } : Jvm.MethodName) prog_1_method_27_code (2 : Nat) (Option.some Jvm.ClassFile.FieldType.boolean)) ∈ lw_g := gm (List.mem_of_getElem? (i := 456) (by decide +kernel)) rfl
theorem wd_408 : (Jvm.Cond.methodLink "PipeMoments" (151 : Nat) ({ cls := "PipeMoments$Stream", name := "mostWithout", desc := "(LPipeMoments$Layout;II)I" } : Jvm.MethodName)) ∈ lw_g := gm (List.mem_of_getElem? (i := 457) (by decide +kernel)) rfl
theorem wd_409 : (Jvm.Cond.instanceMethod ({ cls := "PipeMoments$Stream", name := "mostWithout", desc := "(LPipeMoments$Layout;II)I" } : Jvm.MethodName)) ∈ lw_g := gm (List.mem_of_getElem? (i := 458) (by decide +kernel)) rfl
theorem wd_410 : (Jvm.Cond.selects "PipeMoments$Stream" ({ cls := "PipeMoments$Stream", name := "mostWithout", desc := "(LPipeMoments$Layout;II)I" } : Jvm.MethodName) ({ cls := "PipeMoments$Stream", name := "mostWithout", desc := "(LPipeMoments$Layout;II)I" } : Jvm.MethodName)) ∈ lw_g := gm (List.mem_of_getElem? (i := 459) (by decide +kernel)) rfl
theorem wd_411 : (Jvm.Cond.code ({ cls := "PipeMoments$Stream", name := "mostWithout", desc := "(LPipeMoments$Layout;II)I" } : Jvm.MethodName) prog_5_method_3_code (4 : Nat) (Option.some Jvm.ClassFile.FieldType.int)) ∈ lw_g := gm (List.mem_of_getElem? (i := 460) (by decide +kernel)) rfl
theorem wd_412 : (Jvm.Cond.methodLink "PipeMoments$Stream" (46 : Nat) ({ cls := "PipeMoments$Layout", name := "setPart", desc := "(III)V" } : Jvm.MethodName)) ∈ lw_g := gm (List.mem_of_getElem? (i := 461) (by decide +kernel)) rfl
theorem wd_413 : (Jvm.Cond.methodLink "PipeMomentsLaw" (77 : Nat) ({ cls := "PipeMoments", name := "helpful", desc := "(II)I" } : Jvm.MethodName)) ∈ lw_g := gm (List.mem_of_getElem? (i := 462) (by decide +kernel)) rfl
theorem wd_414 : (Jvm.Cond.instanceMethod ({ cls := "PipeMoments", name := "helpful", desc := "(II)I" } : Jvm.MethodName)) ∈ lw_g := gm (List.mem_of_getElem? (i := 463) (by decide +kernel)) rfl
theorem wd_415 : (Jvm.Cond.selects "PipeMoments" ({ cls := "PipeMoments", name := "helpful", desc := "(II)I" } : Jvm.MethodName) ({ cls := "PipeMoments", name := "helpful", desc := "(II)I" } : Jvm.MethodName)) ∈ lw_g := gm (List.mem_of_getElem? (i := 464) (by decide +kernel)) rfl
theorem wd_416 : (Jvm.Cond.code ({ cls := "PipeMoments", name := "helpful", desc := "(II)I" } : Jvm.MethodName) prog_1_method_17_code (9 : Nat) (Option.some Jvm.ClassFile.FieldType.int)) ∈ lw_g := gm (List.mem_of_getElem? (i := 465) (by decide +kernel)) rfl
theorem wd_417 : (Jvm.Cond.methodLink "PipeMoments" (154 : Nat) ({ cls := "PipeMoments$Stream", name := "mostWider", desc := "(LPipeMoments$Layout;II)I" } : Jvm.MethodName)) ∈ lw_g := gm (List.mem_of_getElem? (i := 466) (by decide +kernel)) rfl
theorem wd_418 : (Jvm.Cond.instanceMethod ({ cls := "PipeMoments$Stream", name := "mostWider", desc := "(LPipeMoments$Layout;II)I" } : Jvm.MethodName)) ∈ lw_g := gm (List.mem_of_getElem? (i := 467) (by decide +kernel)) rfl
theorem wd_419 : (Jvm.Cond.selects "PipeMoments$Stream" ({ cls := "PipeMoments$Stream", name := "mostWider", desc := "(LPipeMoments$Layout;II)I" } : Jvm.MethodName) ({ cls := "PipeMoments$Stream", name := "mostWider", desc := "(LPipeMoments$Layout;II)I" } : Jvm.MethodName)) ∈ lw_g := gm (List.mem_of_getElem? (i := 468) (by decide +kernel)) rfl
theorem wd_420 : (Jvm.Cond.code ({ cls := "PipeMoments$Stream", name := "mostWider", desc := "(LPipeMoments$Layout;II)I" } : Jvm.MethodName) prog_5_method_4_code (4 : Nat) (Option.some Jvm.ClassFile.FieldType.int)) ∈ lw_g := gm (List.mem_of_getElem? (i := 469) (by decide +kernel)) rfl
theorem wd_421 : (Jvm.Cond.methodLink "PipeMomentsLaw" (81 : Nat) ({ cls := "PipeMoments", name := "withOneMore", desc := "(II)I" } : Jvm.MethodName)) ∈ lw_g := gm (List.mem_of_getElem? (i := 470) (by decide +kernel)) rfl
theorem wd_422 : (Jvm.Cond.instanceMethod ({ cls := "PipeMoments", name := "withOneMore", desc := "(II)I" } : Jvm.MethodName)) ∈ lw_g := gm (List.mem_of_getElem? (i := 471) (by decide +kernel)) rfl
theorem wd_423 : (Jvm.Cond.selects "PipeMoments" ({ cls := "PipeMoments", name := "withOneMore", desc := "(II)I" } : Jvm.MethodName) ({ cls := "PipeMoments", name := "withOneMore", desc := "(II)I" } : Jvm.MethodName)) ∈ lw_g := gm (List.mem_of_getElem? (i := 472) (by decide +kernel)) rfl
theorem wd_424 : (Jvm.Cond.code ({ cls := "PipeMoments", name := "withOneMore", desc := "(II)I" } : Jvm.MethodName) prog_1_method_18_code (3 : Nat) (Option.some Jvm.ClassFile.FieldType.int)) ∈ lw_g := gm (List.mem_of_getElem? (i := 473) (by decide +kernel)) rfl
theorem wd_425 : (Jvm.Cond.methodLink "PipeMoments" (157 : Nat) ({ cls := "PipeMoments$Stream", name := "mostWithUnit", desc := "(LPipeMoments$Layout;II)I" } : Jvm.MethodName)) ∈ lw_g := gm (List.mem_of_getElem? (i := 474) (by decide +kernel)) rfl
theorem wd_426 : (Jvm.Cond.instanceMethod ({ cls := "PipeMoments$Stream", name := "mostWithUnit", desc := "(LPipeMoments$Layout;II)I" } : Jvm.MethodName)) ∈ lw_g := gm (List.mem_of_getElem? (i := 475) (by decide +kernel)) rfl
theorem wd_427 : (Jvm.Cond.selects "PipeMoments$Stream" ({ cls := "PipeMoments$Stream", name := "mostWithUnit", desc := "(LPipeMoments$Layout;II)I" } : Jvm.MethodName) ({ cls := "PipeMoments$Stream", name := "mostWithUnit", desc := "(LPipeMoments$Layout;II)I" } : Jvm.MethodName)) ∈ lw_g := gm (List.mem_of_getElem? (i := 476) (by decide +kernel)) rfl
theorem wd_428 : (Jvm.Cond.code ({ cls := "PipeMoments$Stream", name := "mostWithUnit", desc := "(LPipeMoments$Layout;II)I" } : Jvm.MethodName) prog_5_method_5_code (4 : Nat) (Option.some Jvm.ClassFile.FieldType.int)) ∈ lw_g := gm (List.mem_of_getElem? (i := 477) (by decide +kernel)) rfl
theorem wd_429 : (Jvm.Cond.methodLink "PipeMomentsLaw" (85 : Nat) ({ cls := "PipeMoments", name := "count", desc := "(I)I" } : Jvm.MethodName)) ∈ lw_g := gm (List.mem_of_getElem? (i := 478) (by decide +kernel)) rfl
theorem wd_430 : (Jvm.Cond.instanceMethod ({ cls := "PipeMoments", name := "count", desc := "(I)I" } : Jvm.MethodName)) ∈ lw_g := gm (List.mem_of_getElem? (i := 479) (by decide +kernel)) rfl
theorem wd_431 : (Jvm.Cond.selects "PipeMoments" ({ cls := "PipeMoments", name := "count", desc := "(I)I" } : Jvm.MethodName) ({ cls := "PipeMoments", name := "count", desc := "(I)I" } : Jvm.MethodName)) ∈ lw_g := gm (List.mem_of_getElem? (i := 480) (by decide +kernel)) rfl
theorem wd_432 : (Jvm.Cond.code ({ cls := "PipeMoments", name := "count", desc := "(I)I" } : Jvm.MethodName) prog_1_method_19_code (2 : Nat) (Option.some Jvm.ClassFile.FieldType.int)) ∈ lw_g := gm (List.mem_of_getElem? (i := 481) (by decide +kernel)) rfl
theorem wd_433 : (Jvm.Cond.methodLink "PipeMoments" (163 : Nat) ({ cls := "PipeMoments$Layout", name := "allBounds", desc := "()I" } : Jvm.MethodName)) ∈ lw_g := gm (List.mem_of_getElem? (i := 482) (by decide +kernel)) rfl
theorem wd_434 : (Jvm.Cond.instanceMethod ({ cls := "PipeMoments$Layout", name := "allBounds", desc := "()I" } : Jvm.MethodName)) ∈ lw_g := gm (List.mem_of_getElem? (i := 483) (by decide +kernel)) rfl
theorem wd_435 : (Jvm.Cond.selects "PipeMoments$Layout" ({ cls := "PipeMoments$Layout", name := "allBounds", desc := "()I" } : Jvm.MethodName) ({ cls := "PipeMoments$Layout", name := "allBounds", desc := "()I" } : Jvm.MethodName)) ∈ lw_g := gm (List.mem_of_getElem? (i := 484) (by decide +kernel)) rfl
theorem wd_436 : (Jvm.Cond.code ({ cls := "PipeMoments$Layout", name := "allBounds", desc := "()I" } : Jvm.MethodName) prog_3_method_20_code (3 : Nat) (Option.some Jvm.ClassFile.FieldType.int)) ∈ lw_g := gm (List.mem_of_getElem? (i := 485) (by decide +kernel)) rfl
theorem wd_437 : (Jvm.Cond.methodLink "PipeMomentsLaw" (89 : Nat) ({ cls := "PipeMoments", name := "undo", desc := "()I" } : Jvm.MethodName)) ∈ lw_g := gm (List.mem_of_getElem? (i := 486) (by decide +kernel)) rfl
theorem wd_438 : (Jvm.Cond.instanceMethod ({ cls := "PipeMoments", name := "undo", desc := "()I" } : Jvm.MethodName)) ∈ lw_g := gm (List.mem_of_getElem? (i := 487) (by decide +kernel)) rfl
theorem wd_439 : (Jvm.Cond.selects "PipeMoments" ({ cls := "PipeMoments", name := "undo", desc := "()I" } : Jvm.MethodName) ({ cls := "PipeMoments", name := "undo", desc := "()I" } : Jvm.MethodName)) ∈ lw_g := gm (List.mem_of_getElem? (i := 488) (by decide +kernel)) rfl
theorem wd_440 : (Jvm.Cond.code ({ cls := "PipeMoments", name := "undo", desc := "()I" } : Jvm.MethodName) prog_1_method_20_code (1 : Nat) (Option.some Jvm.ClassFile.FieldType.int)) ∈ lw_g := gm (List.mem_of_getElem? (i := 489) (by decide +kernel)) rfl
theorem wd_441 : (Jvm.Cond.constant "PipeMoments" (172 : Nat) (-1000002 : Int32)) ∈ lw_g := gm (List.mem_of_getElem? (i := 490) (by decide +kernel)) rfl
theorem wd_442 : (Jvm.Cond.methodLink "PipeMoments" (173 : Nat) ({ cls := "PipeMoments$History", name := "restore", desc := "(LPipeMoments$Layout;)V" } : Jvm.MethodName)) ∈ lw_g := gm (List.mem_of_getElem? (i := 491) (by decide +kernel)) rfl
theorem wd_443 : (Jvm.Cond.instanceMethod ({ cls := "PipeMoments$History", name := "restore", desc := "(LPipeMoments$Layout;)V" } : Jvm.MethodName)) ∈ lw_g := gm (List.mem_of_getElem? (i := 492) (by decide +kernel)) rfl
theorem wd_444 : (Jvm.Cond.selects "PipeMoments$History" ({ cls := "PipeMoments$History", name := "restore", desc := "(LPipeMoments$Layout;)V" } : Jvm.MethodName) ({ cls := "PipeMoments$History", name := "restore", desc := "(LPipeMoments$Layout;)V" } : Jvm.MethodName)) ∈ lw_g := gm (List.mem_of_getElem? (i := 493) (by decide +kernel)) rfl
theorem wd_445 : (Jvm.Cond.code ({ cls := "PipeMoments$History", name := "restore", desc := "(LPipeMoments$Layout;)V" } : Jvm.MethodName) prog_2_method_3_code (2 : Nat) (Option.none : Option Jvm.ClassFile.FieldType)) ∈ lw_g := gm (List.mem_of_getElem? (i := 494) (by decide +kernel)) rfl
theorem wd_446 : (Jvm.Cond.methodLink "PipeMomentsLaw" (94 : Nat) ({ cls := "PipeMoments", name := "type", desc := "(I)I" } : Jvm.MethodName)) ∈ lw_g := gm (List.mem_of_getElem? (i := 495) (by decide +kernel)) rfl
theorem wd_447 : (Jvm.Cond.instanceMethod ({ cls := "PipeMoments", name := "type", desc := "(I)I" } : Jvm.MethodName)) ∈ lw_g := gm (List.mem_of_getElem? (i := 496) (by decide +kernel)) rfl
theorem wd_448 : (Jvm.Cond.selects "PipeMoments" ({ cls := "PipeMoments", name := "type", desc := "(I)I" } : Jvm.MethodName) ({ cls := "PipeMoments", name := "type", desc := "(I)I" } : Jvm.MethodName)) ∈ lw_g := gm (List.mem_of_getElem? (i := 497) (by decide +kernel)) rfl
theorem wd_449 : (Jvm.Cond.code ({ cls := "PipeMoments", name := "type", desc := "(I)I" } : Jvm.MethodName) prog_1_method_21_code (2 : Nat) (Option.some Jvm.ClassFile.FieldType.int)) ∈ lw_g := gm (List.mem_of_getElem? (i := 498) (by decide +kernel)) rfl
theorem wd_450 : (Jvm.Cond.methodLink "PipeMoments" (176 : Nat) ({ cls := "PipeMoments$Settings", name := "append", desc := "(C)I" } : Jvm.MethodName)) ∈ lw_g := gm (List.mem_of_getElem? (i := 499) (by decide +kernel)) rfl
theorem wd_451 : (Jvm.Cond.instanceMethod ({ cls := "PipeMoments$Settings", name := "append", desc := "(C)I" } : Jvm.MethodName)) ∈ lw_g := gm (List.mem_of_getElem? (i := 500) (by decide +kernel)) rfl
theorem wd_452 : (Jvm.Cond.selects "PipeMoments$Settings" ({ cls := "PipeMoments$Settings", name := "append", desc := "(C)I" } : Jvm.MethodName) ({ cls := "PipeMoments$Settings", name := "append", desc := "(C)I" } : Jvm.MethodName)) ∈ lw_g := gm (List.mem_of_getElem? (i := 501) (by decide +kernel)) rfl
theorem wd_453 : (Jvm.Cond.code ({ cls := "PipeMoments$Settings", name := "append", desc := "(C)I" } : Jvm.MethodName) prog_4_method_2_code (2 : Nat) (Option.some Jvm.ClassFile.FieldType.int)) ∈ lw_g := gm (List.mem_of_getElem? (i := 502) (by decide +kernel)) rfl
theorem wd_454 : (Jvm.Cond.constant "PipeMoments$Settings" (45 : Nat) (-1000003 : Int32)) ∈ lw_g := gm (List.mem_of_getElem? (i := 503) (by decide +kernel)) rfl
theorem wd_455 : (Jvm.Cond.methodLink "PipeMomentsLaw" (98 : Nat) ({ cls := "PipeMoments", name := "clearText", desc := "()I" } : Jvm.MethodName)) ∈ lw_g := gm (List.mem_of_getElem? (i := 504) (by decide +kernel)) rfl
theorem wd_456 : (Jvm.Cond.instanceMethod ({ cls := "PipeMoments", name := "clearText", desc := "()I" } : Jvm.MethodName)) ∈ lw_g := gm (List.mem_of_getElem? (i := 505) (by decide +kernel)) rfl
theorem wd_457 : (Jvm.Cond.selects "PipeMoments" ({ cls := "PipeMoments", name := "clearText", desc := "()I" } : Jvm.MethodName) ({ cls := "PipeMoments", name := "clearText", desc := "()I" } : Jvm.MethodName)) ∈ lw_g := gm (List.mem_of_getElem? (i := 506) (by decide +kernel)) rfl
theorem wd_458 : (Jvm.Cond.code ({ cls := "PipeMoments", name := "clearText", desc := "()I" } : Jvm.MethodName) prog_1_method_22_code (1 : Nat) (Option.some Jvm.ClassFile.FieldType.int)) ∈ lw_g := gm (List.mem_of_getElem? (i := 507) (by decide +kernel)) rfl
theorem wd_459 : (Jvm.Cond.methodLink "PipeMoments" (180 : Nat) ({ cls := "PipeMoments$Settings", name := "empty", desc := "()I" } : Jvm.MethodName)) ∈ lw_g := gm (List.mem_of_getElem? (i := 508) (by decide +kernel)) rfl
theorem wd_460 : (Jvm.Cond.instanceMethod ({ cls := "PipeMoments$Settings", name := "empty", desc := "()I" } : Jvm.MethodName)) ∈ lw_g := gm (List.mem_of_getElem? (i := 509) (by decide +kernel)) rfl
theorem wd_461 : (Jvm.Cond.selects "PipeMoments$Settings" ({ cls := "PipeMoments$Settings", name := "empty", desc := "()I" } : Jvm.MethodName) ({ cls := "PipeMoments$Settings", name := "empty", desc := "()I" } : Jvm.MethodName)) ∈ lw_g := gm (List.mem_of_getElem? (i := 510) (by decide +kernel)) rfl
theorem wd_462 : (Jvm.Cond.code ({ cls := "PipeMoments$Settings", name := "empty", desc := "()I" } : Jvm.MethodName) prog_4_method_3_code (2 : Nat) (Option.some Jvm.ClassFile.FieldType.int)) ∈ lw_g := gm (List.mem_of_getElem? (i := 511) (by decide +kernel)) rfl
theorem wd_463 : (Jvm.Cond.methodLink "PipeMomentsLaw" (102 : Nat) ({ cls := "PipeMoments", name := "fault", desc := "(I)I" } : Jvm.MethodName)) ∈ lw_g := gm (List.mem_of_getElem? (i := 512) (by decide +kernel)) rfl
theorem wd_464 : (Jvm.Cond.instanceMethod ({ cls := "PipeMoments", name := "fault", desc := "(I)I" } : Jvm.MethodName)) ∈ lw_g := gm (List.mem_of_getElem? (i := 513) (by decide +kernel)) rfl
theorem wd_465 : (Jvm.Cond.selects "PipeMoments" ({ cls := "PipeMoments", name := "fault", desc := "(I)I" } : Jvm.MethodName) ({ cls := "PipeMoments", name := "fault", desc := "(I)I" } : Jvm.MethodName)) ∈ lw_g := gm (List.mem_of_getElem? (i := 514) (by decide +kernel)) rfl
theorem wd_466 : (Jvm.Cond.code ({ cls := "PipeMoments", name := "fault", desc := "(I)I" } : Jvm.MethodName) prog_1_method_23_code (2 : Nat) (Option.some Jvm.ClassFile.FieldType.int)) ∈ lw_g := gm (List.mem_of_getElem? (i := 515) (by decide +kernel)) rfl
theorem wd_467 : (Jvm.Cond.methodLink "PipeMoments" (183 : Nat) ({ cls := "PipeMoments$Settings", name := "read", desc := "(LPipeMoments$Layout;)V" } : Jvm.MethodName)) ∈ lw_g := gm (List.mem_of_getElem? (i := 516) (by decide +kernel)) rfl
theorem wd_468 : (Jvm.Cond.instanceMethod ({ cls := "PipeMoments$Settings", name := "read", desc := "(LPipeMoments$Layout;)V" } : Jvm.MethodName)) ∈ lw_g := gm (List.mem_of_getElem? (i := 517) (by decide +kernel)) rfl
theorem wd_469 : (Jvm.Cond.selects "PipeMoments$Settings" ({ cls := "PipeMoments$Settings", name := "read", desc := "(LPipeMoments$Layout;)V" } : Jvm.MethodName) ({ cls := "PipeMoments$Settings", name := "read", desc := "(LPipeMoments$Layout;)V" } : Jvm.MethodName)) ∈ lw_g := gm (List.mem_of_getElem? (i := 518) (by decide +kernel)) rfl
theorem wd_470 : (Jvm.Cond.code ({ cls := "PipeMoments$Settings", name := "read", desc := "(LPipeMoments$Layout;)V" } : Jvm.MethodName) prog_4_method_5_code (3 : Nat) (Option.none : Option Jvm.ClassFile.FieldType)) ∈ lw_g := gm (List.mem_of_getElem? (i := 519) (by decide +kernel)) rfl
theorem wd_471 : (Jvm.Cond.methodLink "PipeMoments$Settings" (46 : Nat) ({ cls := "PipeMoments$Layout", name := "copyFrom", desc := "(LPipeMoments$Layout;)V" } : Jvm.MethodName)) ∈ lw_g := gm (List.mem_of_getElem? (i := 520) (by decide +kernel)) rfl
theorem wd_472 : (Jvm.Cond.methodLink "PipeMoments$Settings" (50 : Nat) ({ cls := "PipeMoments$Settings", name := "readSetting", desc := "()V" } : Jvm.MethodName)) ∈ lw_g := gm (List.mem_of_getElem? (i := 521) (by decide +kernel)) rfl
theorem wd_474 : (Jvm.Cond.instanceMethod ({ cls := "PipeMoments$Settings", name := "readSetting", desc := "()V" } : Jvm.MethodName)) ∈ lw_g := gm (List.mem_of_getElem? (i := 523) (by decide +kernel)) rfl
theorem wd_475 : (Jvm.Cond.code ({ cls := "PipeMoments$Settings", name := "readSetting", desc := "()V" } : Jvm.MethodName) prog_4_method_6_code (3 : Nat) (Option.none : Option Jvm.ClassFile.FieldType)) ∈ lw_g := gm (List.mem_of_getElem? (i := 524) (by decide +kernel)) rfl
theorem wd_476 : (Jvm.Cond.methodLink "PipeMoments$Settings" (53 : Nat) ({ cls := "PipeMoments$Settings", name := "readForm", desc := "(C)Z" } : Jvm.MethodName)) ∈ lw_g := gm (List.mem_of_getElem? (i := 525) (by decide +kernel)) rfl
theorem wd_478 : (Jvm.Cond.instanceMethod ({ cls := "PipeMoments$Settings", name := "readForm", desc := "(C)Z" } : Jvm.MethodName)) ∈ lw_g := gm (List.mem_of_getElem? (i := 527) (by decide +kernel)) rfl
theorem wd_479 : (Jvm.Cond.code ({ cls := "PipeMoments$Settings", name := "readForm", desc := "(C)Z" } : Jvm.MethodName) prog_4_method_7_code (4 : Nat) (Option.some Jvm.ClassFile.FieldType.boolean)) ∈ lw_g := gm (List.mem_of_getElem? (i := 528) (by decide +kernel)) rfl
theorem wd_480 : (Jvm.Cond.methodLink "PipeMoments$Settings" (68 : Nat) ({ cls := "PipeMoments$Settings", name := "numbersOf", desc := "(C)I" } : Jvm.MethodName)) ∈ lw_g := gm (List.mem_of_getElem? (i := 529) (by decide +kernel)) rfl
theorem wd_481 : (Jvm.Cond.static ({ cls := "PipeMoments$Settings", name := "numbersOf", desc := "(C)I" } : Jvm.MethodName)) ∈ lw_g := gm (List.mem_of_getElem? (i := 530) (by decide +kernel)) rfl
theorem wd_482 : (Jvm.Cond.code ({ cls := "PipeMoments$Settings", name := "numbersOf", desc := "(C)I" } : Jvm.MethodName) prog_4_method_8_code (1 : Nat) (Option.some Jvm.ClassFile.FieldType.int)) ∈ lw_g := gm (List.mem_of_getElem? (i := 531) (by decide +kernel)) rfl
theorem wd_483 : (Jvm.Cond.methodLink "PipeMoments$Settings" (71 : Nat) ({ cls := "PipeMoments$Settings", name := "readNumber", desc := "(I)Z" } : Jvm.MethodName)) ∈ lw_g := gm (List.mem_of_getElem? (i := 532) (by decide +kernel)) rfl
theorem wd_485 : (Jvm.Cond.instanceMethod ({ cls := "PipeMoments$Settings", name := "readNumber", desc := "(I)Z" } : Jvm.MethodName)) ∈ lw_g := gm (List.mem_of_getElem? (i := 534) (by decide +kernel)) rfl
theorem wd_486 : (Jvm.Cond.code ({ cls := "PipeMoments$Settings", name := "readNumber", desc := "(I)Z" } : Jvm.MethodName) prog_4_method_9_code (2 : Nat) (Option.some Jvm.ClassFile.FieldType.boolean)) ∈ lw_g := gm (List.mem_of_getElem? (i := 535) (by decide +kernel)) rfl
theorem wd_487 : (Jvm.Cond.methodLink "PipeMoments$Settings" (78 : Nat) ({ cls := "PipeMoments$Settings", name := "isDigitNext", desc := "()Z" } : Jvm.MethodName)) ∈ lw_g := gm (List.mem_of_getElem? (i := 536) (by decide +kernel)) rfl
theorem wd_489 : (Jvm.Cond.instanceMethod ({ cls := "PipeMoments$Settings", name := "isDigitNext", desc := "()Z" } : Jvm.MethodName)) ∈ lw_g := gm (List.mem_of_getElem? (i := 538) (by decide +kernel)) rfl
theorem wd_490 : (Jvm.Cond.code ({ cls := "PipeMoments$Settings", name := "isDigitNext", desc := "()Z" } : Jvm.MethodName) prog_4_method_10_code (1 : Nat) (Option.some Jvm.ClassFile.FieldType.boolean)) ∈ lw_g := gm (List.mem_of_getElem? (i := 539) (by decide +kernel)) rfl
theorem wd_491 : (Jvm.Cond.methodLinkNest "PipeMoments$Settings" (82 : Nat) ({ cls := "PipeMoments", name := "within", desc := "(III)Z" } : Jvm.MethodName) "PipeMoments") ∈ lw_tbl := List.mem_of_getElem? (i := 540) (by decide +kernel)
theorem wd_492 : (Jvm.Cond.methodLink "PipeMoments$Settings" (75 : Nat) ({ cls := "PipeMoments$Settings", name := "readSign", desc := "(C)Z" } : Jvm.MethodName)) ∈ lw_g := gm (List.mem_of_getElem? (i := 541) (by decide +kernel)) rfl
theorem wd_494 : (Jvm.Cond.instanceMethod ({ cls := "PipeMoments$Settings", name := "readSign", desc := "(C)Z" } : Jvm.MethodName)) ∈ lw_g := gm (List.mem_of_getElem? (i := 543) (by decide +kernel)) rfl
theorem wd_495 : (Jvm.Cond.code ({ cls := "PipeMoments$Settings", name := "readSign", desc := "(C)Z" } : Jvm.MethodName) prog_4_method_11_code (2 : Nat) (Option.some Jvm.ClassFile.FieldType.boolean)) ∈ lw_g := gm (List.mem_of_getElem? (i := 544) (by decide +kernel)) rfl
theorem wd_496 : (Jvm.Cond.methodLink "PipeMoments$Settings" (57 : Nat) ({ cls := "PipeMoments$Settings", name := "badNumber", desc := "(C)I" } : Jvm.MethodName)) ∈ lw_g := gm (List.mem_of_getElem? (i := 545) (by decide +kernel)) rfl
theorem wd_498 : (Jvm.Cond.instanceMethod ({ cls := "PipeMoments$Settings", name := "badNumber", desc := "(C)I" } : Jvm.MethodName)) ∈ lw_g := gm (List.mem_of_getElem? (i := 547) (by decide +kernel)) rfl
theorem wd_499 : (Jvm.Cond.code ({ cls := "PipeMoments$Settings", name := "badNumber", desc := "(C)I" } : Jvm.MethodName) prog_4_method_12_code (2 : Nat) (Option.some Jvm.ClassFile.FieldType.int)) ∈ lw_g := gm (List.mem_of_getElem? (i := 548) (by decide +kernel)) rfl
theorem wd_500 : (Jvm.Cond.methodLink "PipeMoments$Settings" (86 : Nat) ({ cls := "PipeMoments$Layout", name := "badOfPlace", desc := "(II)I" } : Jvm.MethodName)) ∈ lw_g := gm (List.mem_of_getElem? (i := 549) (by decide +kernel)) rfl
theorem wd_501 : (Jvm.Cond.methodLink "PipeMoments$Settings" (90 : Nat) ({ cls := "PipeMoments$Layout", name := "badOfPipe", desc := "(IIII)I" } : Jvm.MethodName)) ∈ lw_g := gm (List.mem_of_getElem? (i := 550) (by decide +kernel)) rfl
theorem wd_502 : (Jvm.Cond.methodLink "PipeMoments$Settings" (94 : Nat) ({ cls := "PipeMoments$Layout", name := "badOfOpening", desc := "(III)I" } : Jvm.MethodName)) ∈ lw_g := gm (List.mem_of_getElem? (i := 551) (by decide +kernel)) rfl
theorem wd_503 : (Jvm.Cond.methodLink "PipeMoments$Settings" (98 : Nat) ({ cls := "PipeMoments$Layout", name := "badOfUnits", desc := "(II)I" } : Jvm.MethodName)) ∈ lw_g := gm (List.mem_of_getElem? (i := 552) (by decide +kernel)) rfl
theorem wd_504 : (Jvm.Cond.methodLink "PipeMoments$Settings" (61 : Nat) ({ cls := "PipeMoments$Settings", name := "isBeyondLimit", desc := "(C)Z" } : Jvm.MethodName)) ∈ lw_g := gm (List.mem_of_getElem? (i := 553) (by decide +kernel)) rfl
theorem wd_506 : (Jvm.Cond.instanceMethod ({ cls := "PipeMoments$Settings", name := "isBeyondLimit", desc := "(C)Z" } : Jvm.MethodName)) ∈ lw_g := gm (List.mem_of_getElem? (i := 555) (by decide +kernel)) rfl
theorem wd_507 : (Jvm.Cond.code ({ cls := "PipeMoments$Settings", name := "isBeyondLimit", desc := "(C)Z" } : Jvm.MethodName) prog_4_method_13_code (2 : Nat) (Option.some Jvm.ClassFile.FieldType.boolean)) ∈ lw_g := gm (List.mem_of_getElem? (i := 556) (by decide +kernel)) rfl
theorem wd_508 : (Jvm.Cond.methodLink "PipeMoments$Settings" (101 : Nat) ({ cls := "PipeMoments$Layout", name := "placesAreFull", desc := "()Z" } : Jvm.MethodName)) ∈ lw_g := gm (List.mem_of_getElem? (i := 557) (by decide +kernel)) rfl
theorem wd_509 : (Jvm.Cond.methodLink "PipeMoments$Settings" (104 : Nat) ({ cls := "PipeMoments$Layout", name := "pipesAreFull", desc := "()Z" } : Jvm.MethodName)) ∈ lw_g := gm (List.mem_of_getElem? (i := 558) (by decide +kernel)) rfl
theorem wd_510 : (Jvm.Cond.methodLink "PipeMoments$Settings" (64 : Nat) ({ cls := "PipeMoments$Settings", name := "settle", desc := "(C)V" } : Jvm.MethodName)) ∈ lw_g := gm (List.mem_of_getElem? (i := 559) (by decide +kernel)) rfl
theorem wd_512 : (Jvm.Cond.instanceMethod ({ cls := "PipeMoments$Settings", name := "settle", desc := "(C)V" } : Jvm.MethodName)) ∈ lw_g := gm (List.mem_of_getElem? (i := 561) (by decide +kernel)) rfl
theorem wd_513 : (Jvm.Cond.code ({ cls := "PipeMoments$Settings", name := "settle", desc := "(C)V" } : Jvm.MethodName) prog_4_method_14_code (2 : Nat) (Option.none : Option Jvm.ClassFile.FieldType)) ∈ lw_g := gm (List.mem_of_getElem? (i := 562) (by decide +kernel)) rfl
theorem wd_514 : (Jvm.Cond.methodLink "PipeMoments$Settings" (107 : Nat) ({ cls := "PipeMoments$Layout", name := "addPlace", desc := "(II)I" } : Jvm.MethodName)) ∈ lw_g := gm (List.mem_of_getElem? (i := 563) (by decide +kernel)) rfl
theorem wd_515 : (Jvm.Cond.methodLink "PipeMoments$Settings" (110 : Nat) ({ cls := "PipeMoments$Layout", name := "addPipe", desc := "(IIII)I" } : Jvm.MethodName)) ∈ lw_g := gm (List.mem_of_getElem? (i := 564) (by decide +kernel)) rfl
theorem wd_516 : (Jvm.Cond.methodLink "PipeMoments$Settings" (113 : Nat) ({ cls := "PipeMoments$Layout", name := "setOpening", desc := "(III)V" } : Jvm.MethodName)) ∈ lw_g := gm (List.mem_of_getElem? (i := 565) (by decide +kernel)) rfl
theorem wd_517 : (Jvm.Cond.methodLink "PipeMoments" (189 : Nat) ({ cls := "PipeMoments$Settings", name := "faultPart", desc := "(I)I" } : Jvm.MethodName)) ∈ lw_g := gm (List.mem_of_getElem? (i := 566) (by decide +kernel)) rfl
theorem wd_518 : (Jvm.Cond.instanceMethod ({ cls := "PipeMoments$Settings", name := "faultPart", desc := "(I)I" } : Jvm.MethodName)) ∈ lw_g := gm (List.mem_of_getElem? (i := 567) (by decide +kernel)) rfl
theorem wd_519 : (Jvm.Cond.selects "PipeMoments$Settings" ({ cls := "PipeMoments$Settings", name := "faultPart", desc := "(I)I" } : Jvm.MethodName) ({ cls := "PipeMoments$Settings", name := "faultPart", desc := "(I)I" } : Jvm.MethodName)) ∈ lw_g := gm (List.mem_of_getElem? (i := 568) (by decide +kernel)) rfl
theorem wd_520 : (Jvm.Cond.code ({ cls := "PipeMoments$Settings", name := "faultPart", desc := "(I)I" } : Jvm.MethodName) prog_4_method_4_code (2 : Nat) (Option.some Jvm.ClassFile.FieldType.int)) ∈ lw_g := gm (List.mem_of_getElem? (i := 569) (by decide +kernel)) rfl
theorem wd_521 : (Jvm.Cond.methodLink "PipeMomentsLaw" (106 : Nat) ({ cls := "PipeMoments", name := "play", desc := "()I" } : Jvm.MethodName)) ∈ lw_g := gm (List.mem_of_getElem? (i := 570) (by decide +kernel)) rfl
theorem wd_522 : (Jvm.Cond.instanceMethod ({ cls := "PipeMoments", name := "play", desc := "()I" } : Jvm.MethodName)) ∈ lw_g := gm (List.mem_of_getElem? (i := 571) (by decide +kernel)) rfl
theorem wd_523 : (Jvm.Cond.selects "PipeMoments" ({ cls := "PipeMoments", name := "play", desc := "()I" } : Jvm.MethodName) ({ cls := "PipeMoments", name := "play", desc := "()I" } : Jvm.MethodName)) ∈ lw_g := gm (List.mem_of_getElem? (i := 572) (by decide +kernel)) rfl
theorem wd_524 : (Jvm.Cond.code ({ cls := "PipeMoments", name := "play", desc := "()I" } : Jvm.MethodName) prog_1_method_24_code (1 : Nat) (Option.some Jvm.ClassFile.FieldType.int)) ∈ lw_g := gm (List.mem_of_getElem? (i := 573) (by decide +kernel)) rfl
theorem wd_525 : (Jvm.Cond.methodLink "PipeMoments" (195 : Nat) ({ cls := "PipeMoments$Layout", name := "copyFrom", desc := "(LPipeMoments$Layout;)V" } : Jvm.MethodName)) ∈ lw_g := gm (List.mem_of_getElem? (i := 574) (by decide +kernel)) rfl
theorem wd_526 : (Jvm.Cond.classLink "PipeMomentsLaw" (10 : Nat) "PipeMomentsModel") ∈ lw_g := gm (List.mem_of_getElem? (i := 575) (by decide +kernel)) rfl
theorem wd_527 : (Jvm.Cond.instantiable "PipeMomentsModel" (23 : Nat)) ∈ lw_g := gm (List.mem_of_getElem? (i := 576) (by decide +kernel)) rfl
theorem wd_528 : (Jvm.Cond.methodLink "PipeMomentsLaw" (12 : Nat) ({ cls := "PipeMomentsModel", name := "<init>", desc := "()V" } : Jvm.MethodName)) ∈ lw_g := gm (List.mem_of_getElem? (i := 577) (by decide +kernel)) rfl
theorem wd_529 : (Jvm.Cond.instanceMethod ({ cls := "PipeMomentsModel", name := "<init>", desc := "()V" } : Jvm.MethodName)) ∈ lw_g := gm (List.mem_of_getElem? (i := 578) (by decide +kernel)) rfl
theorem wd_530 : (Jvm.Cond.code ({ cls := "PipeMomentsModel", name := "<init>", desc := "()V" } : Jvm.MethodName) prog_7_method_1_code (1 : Nat) (Option.none : Option Jvm.ClassFile.FieldType)) ∈ lw_g := gm (List.mem_of_getElem? (i := 579) (by decide +kernel)) rfl
theorem wd_531 : (Jvm.Cond.methodLink "PipeMomentsModel" (1 : Nat) ({ cls := "java/lang/Object", name := "<init>", desc := "()V" } : Jvm.MethodName)) ∈ lw_g := gm (List.mem_of_getElem? (i := 580) (by decide +kernel)) rfl
theorem wd_532 : (Jvm.Cond.methodLink "PipeMomentsModel" (47 : Nat) ({ cls := "PipeMomentsModel", name := "asIs", desc := "()V" } : Jvm.MethodName)) ∈ lw_g := gm (List.mem_of_getElem? (i := 581) (by decide +kernel)) rfl
theorem wd_534 : (Jvm.Cond.instanceMethod ({ cls := "PipeMomentsModel", name := "asIs", desc := "()V" } : Jvm.MethodName)) ∈ lw_g := gm (List.mem_of_getElem? (i := 583) (by decide +kernel)) rfl
theorem wd_535 : (Jvm.Cond.code ({ cls := "PipeMomentsModel", name := "asIs", desc := "()V" } : Jvm.MethodName) prog_7_method_3_code (1 : Nat) (Option.none : Option Jvm.ClassFile.FieldType)) ∈ lw_g := gm (List.mem_of_getElem? (i := 584) (by decide +kernel)) rfl
theorem wd_536 : (Jvm.Cond.fieldLink "PipeMomentsModel" (7 : Nat) "PipeMomentsModel" "s" "[I") ∈ lw_g := gm (List.mem_of_getElem? (i := 585) (by decide +kernel)) rfl
theorem wd_537 : (Jvm.Cond.fieldLink "PipeMomentsModel" (13 : Nat) "PipeMomentsModel" "was" "[I") ∈ lw_g := gm (List.mem_of_getElem? (i := 586) (by decide +kernel)) rfl
theorem wd_538 : (Jvm.Cond.fieldLink "PipeMomentsModel" (16 : Nat) "PipeMomentsModel" "begun" "[I") ∈ lw_g := gm (List.mem_of_getElem? (i := 587) (by decide +kernel)) rfl
theorem wd_539 : (Jvm.Cond.fieldLink "PipeMomentsModel" (19 : Nat) "PipeMomentsModel" "aside" "[I") ∈ lw_g := gm (List.mem_of_getElem? (i := 588) (by decide +kernel)) rfl
theorem wd_540 : (Jvm.Cond.fieldLink "PipeMomentsModel" (68 : Nat) "PipeMomentsModel" "states" "I") ∈ lw_g := gm (List.mem_of_getElem? (i := 589) (by decide +kernel)) rfl
theorem wd_541 : (Jvm.Cond.fieldLink "PipeMomentsModel" (22 : Nat) "PipeMomentsModel" "text" "[C") ∈ lw_g := gm (List.mem_of_getElem? (i := 590) (by decide +kernel)) rfl
theorem wd_542 : (Jvm.Cond.fieldLink "PipeMomentsModel" (156 : Nat) "PipeMomentsModel" "typed" "I") ∈ lw_g := gm (List.mem_of_getElem? (i := 591) (by decide +kernel)) rfl
theorem wd_543 : (Jvm.Cond.fieldLink "PipeMomentsModel" (160 : Nat) "PipeMomentsModel" "at" "I") ∈ lw_g := gm (List.mem_of_getElem? (i := 592) (by decide +kernel)) rfl
theorem wd_544 : (Jvm.Cond.fieldLink "PipeMomentsModel" (184 : Nat) "PipeMomentsModel" "reason" "I") ∈ lw_g := gm (List.mem_of_getElem? (i := 593) (by decide +kernel)) rfl
theorem wd_545 : (Jvm.Cond.fieldLink "PipeMomentsModel" (172 : Nat) "PipeMomentsModel" "cause" "I") ∈ lw_g := gm (List.mem_of_getElem? (i := 594) (by decide +kernel)) rfl
theorem wd_546 : (Jvm.Cond.fieldLink "PipeMomentsModel" (26 : Nat) "PipeMomentsModel" "number" "[I") ∈ lw_g := gm (List.mem_of_getElem? (i := 595) (by decide +kernel)) rfl
theorem wd_547 : (Jvm.Cond.fieldLink "PipeMomentsModel" (29 : Nat) "PipeMomentsModel" "out" "[I") ∈ lw_g := gm (List.mem_of_getElem? (i := 596) (by decide +kernel)) rfl
theorem wd_548 : (Jvm.Cond.fieldLink "PipeMomentsModel" (32 : Nat) "PipeMomentsModel" "wait" "[I") ∈ lw_g := gm (List.mem_of_getElem? (i := 597) (by decide +kernel)) rfl
theorem wd_549 : (Jvm.Cond.fieldLink "PipeMomentsModel" (35 : Nat) "PipeMomentsModel" "enter" "[I") ∈ lw_g := gm (List.mem_of_getElem? (i := 598) (by decide +kernel)) rfl
theorem wd_550 : (Jvm.Cond.fieldLink "PipeMomentsModel" (38 : Nat) "PipeMomentsModel" "back" "[I") ∈ lw_g := gm (List.mem_of_getElem? (i := 599) (by decide +kernel)) rfl
theorem wd_551 : (Jvm.Cond.fieldLink "PipeMomentsModel" (41 : Nat) "PipeMomentsModel" "by" "[I") ∈ lw_g := gm (List.mem_of_getElem? (i := 600) (by decide +kernel)) rfl
theorem wd_552 : (Jvm.Cond.fieldLink "PipeMomentsModel" (44 : Nat) "PipeMomentsModel" "row" "[I") ∈ lw_g := gm (List.mem_of_getElem? (i := 601) (by decide +kernel)) rfl
theorem wd_553 : (Jvm.Cond.fieldLink "PipeMomentsModel" (112 : Nat) "PipeMomentsModel" "end" "I") ∈ lw_g := gm (List.mem_of_getElem? (i := 602) (by decide +kernel)) rfl
theorem wd_554 : (Jvm.Cond.fieldLink "PipeMomentsModel" (115 : Nat) "PipeMomentsModel" "many" "I") ∈ lw_g := gm (List.mem_of_getElem? (i := 603) (by decide +kernel)) rfl
theorem wd_555 : (Jvm.Cond.fieldLink "PipeMomentsModel" (50 : Nat) "PipeMomentsModel" "without" "I") ∈ lw_g := gm (List.mem_of_getElem? (i := 604) (by decide +kernel)) rfl
theorem wd_556 : (Jvm.Cond.fieldLink "PipeMomentsModel" (54 : Nat) "PipeMomentsModel" "wider" "I") ∈ lw_g := gm (List.mem_of_getElem? (i := 605) (by decide +kernel)) rfl
theorem wd_557 : (Jvm.Cond.fieldLink "PipeMomentsModel" (57 : Nat) "PipeMomentsModel" "more" "I") ∈ lw_g := gm (List.mem_of_getElem? (i := 606) (by decide +kernel)) rfl
theorem wd_558 : (Jvm.Cond.fieldLink "PipeMomentsModel" (60 : Nat) "PipeMomentsModel" "endless" "I") ∈ lw_g := gm (List.mem_of_getElem? (i := 607) (by decide +kernel)) rfl
theorem wd_606 : (Jvm.Cond.methodLink "PipeMomentsLaw" (17 : Nat) ({ cls := "PipeMomentsModel", name := "place", desc := "(II)I" } : Jvm.MethodName)) ∈ lw_g := gm (List.mem_of_getElem? (i := 655) (by decide +kernel)) rfl
theorem wd_607 : (Jvm.Cond.instanceMethod ({ cls := "PipeMomentsModel", name := "place", desc := "(II)I" } : Jvm.MethodName)) ∈ lw_g := gm (List.mem_of_getElem? (i := 656) (by decide +kernel)) rfl
theorem wd_608 : (Jvm.Cond.selects "PipeMomentsModel" ({ cls := "PipeMomentsModel", name := "place", desc := "(II)I" } : Jvm.MethodName) ({ cls := "PipeMomentsModel", name := "place", desc := "(II)I" } : Jvm.MethodName)) ∈ lw_g := gm (List.mem_of_getElem? (i := 657) (by decide +kernel)) rfl
theorem wd_609 : (Jvm.Cond.code ({ cls := "PipeMomentsModel", name := "place", desc := "(II)I" } : Jvm.MethodName) prog_7_method_10_code (3 : Nat) (Option.some Jvm.ClassFile.FieldType.int)) ∈ lw_g := gm (List.mem_of_getElem? (i := 658) (by decide +kernel)) rfl
theorem wd_610 : (Jvm.Cond.methodLink "PipeMomentsModel" (63 : Nat) ({ cls := "PipeMomentsModel", name := "in", desc := "(III)Z" } : Jvm.MethodName)) ∈ lw_g := gm (List.mem_of_getElem? (i := 659) (by decide +kernel)) rfl
theorem wd_611 : (Jvm.Cond.static ({ cls := "PipeMomentsModel", name := "in", desc := "(III)Z" } : Jvm.MethodName)) ∈ lw_g := gm (List.mem_of_getElem? (i := 660) (by decide +kernel)) rfl
theorem wd_612 : (Jvm.Cond.code ({ cls := "PipeMomentsModel", name := "in", desc := "(III)Z" } : Jvm.MethodName) prog_7_method_2_code (3 : Nat) (Option.some Jvm.ClassFile.FieldType.boolean)) ∈ lw_g := gm (List.mem_of_getElem? (i := 661) (by decide +kernel)) rfl
theorem wd_613 : (Jvm.Cond.constant "PipeMomentsModel" (67 : Nat) (-1000001 : Int32)) ∈ lw_g := gm (List.mem_of_getElem? (i := 662) (by decide +kernel)) rfl
theorem wd_614 : (Jvm.Cond.methodLink "PipeMomentsModel" (72 : Nat) ({ cls := "PipeMomentsModel", name := "keeps", desc := "()V" } : Jvm.MethodName)) ∈ lw_g := gm (List.mem_of_getElem? (i := 663) (by decide +kernel)) rfl
theorem wd_616 : (Jvm.Cond.instanceMethod ({ cls := "PipeMomentsModel", name := "keeps", desc := "()V" } : Jvm.MethodName)) ∈ lw_g := gm (List.mem_of_getElem? (i := 665) (by decide +kernel)) rfl
theorem wd_617 : (Jvm.Cond.code ({ cls := "PipeMomentsModel", name := "keeps", desc := "()V" } : Jvm.MethodName) prog_7_method_7_code (2 : Nat) (Option.none : Option Jvm.ClassFile.FieldType)) ∈ lw_g := gm (List.mem_of_getElem? (i := 666) (by decide +kernel)) rfl
theorem wd_618 : (Jvm.Cond.methodLink "PipeMomentsModel" (75 : Nat) ({ cls := "PipeMomentsModel", name := "adds", desc := "(II)I" } : Jvm.MethodName)) ∈ lw_g := gm (List.mem_of_getElem? (i := 667) (by decide +kernel)) rfl
theorem wd_620 : (Jvm.Cond.instanceMethod ({ cls := "PipeMomentsModel", name := "adds", desc := "(II)I" } : Jvm.MethodName)) ∈ lw_g := gm (List.mem_of_getElem? (i := 669) (by decide +kernel)) rfl
theorem wd_621 : (Jvm.Cond.code ({ cls := "PipeMomentsModel", name := "adds", desc := "(II)I" } : Jvm.MethodName) prog_7_method_9_code (3 : Nat) (Option.some Jvm.ClassFile.FieldType.int)) ∈ lw_g := gm (List.mem_of_getElem? (i := 670) (by decide +kernel)) rfl
theorem wd_622 : (Jvm.Cond.constant "PipeMomentsModel" (71 : Nat) (-1000003 : Int32)) ∈ lw_g := gm (List.mem_of_getElem? (i := 671) (by decide +kernel)) rfl
theorem wd_623 : (Jvm.Cond.methodLink "PipeMomentsModel" (79 : Nat) ({ cls := "PipeMomentsModel", name := "acted", desc := "(I)I" } : Jvm.MethodName)) ∈ lw_g := gm (List.mem_of_getElem? (i := 672) (by decide +kernel)) rfl
theorem wd_625 : (Jvm.Cond.instanceMethod ({ cls := "PipeMomentsModel", name := "acted", desc := "(I)I" } : Jvm.MethodName)) ∈ lw_g := gm (List.mem_of_getElem? (i := 674) (by decide +kernel)) rfl
theorem wd_626 : (Jvm.Cond.code ({ cls := "PipeMomentsModel", name := "acted", desc := "(I)I" } : Jvm.MethodName) prog_7_method_8_code (3 : Nat) (Option.some Jvm.ClassFile.FieldType.int)) ∈ lw_g := gm (List.mem_of_getElem? (i := 675) (by decide +kernel)) rfl
theorem wd_627 : (Jvm.Cond.methodLink "PipeMomentsLaw" (22 : Nat) ({ cls := "PipeMomentsModel", name := "pipe", desc := "(IIII)I" } : Jvm.MethodName)) ∈ lw_g := gm (List.mem_of_getElem? (i := 676) (by decide +kernel)) rfl
theorem wd_628 : (Jvm.Cond.instanceMethod ({ cls := "PipeMomentsModel", name := "pipe", desc := "(IIII)I" } : Jvm.MethodName)) ∈ lw_g := gm (List.mem_of_getElem? (i := 677) (by decide +kernel)) rfl
theorem wd_629 : (Jvm.Cond.selects "PipeMomentsModel" ({ cls := "PipeMomentsModel", name := "pipe", desc := "(IIII)I" } : Jvm.MethodName) ({ cls := "PipeMomentsModel", name := "pipe", desc := "(IIII)I" } : Jvm.MethodName)) ∈ lw_g := gm (List.mem_of_getElem? (i := 678) (by decide +kernel)) rfl
theorem wd_630 : (Jvm.Cond.code ({ cls := "PipeMomentsModel", name := "pipe", desc := "(IIII)I" } : Jvm.MethodName) prog_7_method_12_code (5 : Nat) (Option.some Jvm.ClassFile.FieldType.int)) ∈ lw_g := gm (List.mem_of_getElem? (i := 679) (by decide +kernel)) rfl
theorem wd_631 : (Jvm.Cond.methodLink "PipeMomentsModel" (83 : Nat) ({ cls := "PipeMomentsModel", name := "isPlace", desc := "(I)Z" } : Jvm.MethodName)) ∈ lw_g := gm (List.mem_of_getElem? (i := 680) (by decide +kernel)) rfl
theorem wd_633 : (Jvm.Cond.instanceMethod ({ cls := "PipeMomentsModel", name := "isPlace", desc := "(I)Z" } : Jvm.MethodName)) ∈ lw_g := gm (List.mem_of_getElem? (i := 682) (by decide +kernel)) rfl
theorem wd_634 : (Jvm.Cond.code ({ cls := "PipeMomentsModel", name := "isPlace", desc := "(I)Z" } : Jvm.MethodName) prog_7_method_4_code (2 : Nat) (Option.some Jvm.ClassFile.FieldType.boolean)) ∈ lw_g := gm (List.mem_of_getElem? (i := 683) (by decide +kernel)) rfl
theorem wd_635 : (Jvm.Cond.methodLink "PipeMomentsModel" (87 : Nat) ({ cls := "PipeMomentsModel", name := "lays", desc := "(IIII)I" } : Jvm.MethodName)) ∈ lw_g := gm (List.mem_of_getElem? (i := 684) (by decide +kernel)) rfl
theorem wd_637 : (Jvm.Cond.instanceMethod ({ cls := "PipeMomentsModel", name := "lays", desc := "(IIII)I" } : Jvm.MethodName)) ∈ lw_g := gm (List.mem_of_getElem? (i := 686) (by decide +kernel)) rfl
theorem wd_638 : (Jvm.Cond.code ({ cls := "PipeMomentsModel", name := "lays", desc := "(IIII)I" } : Jvm.MethodName) prog_7_method_11_code (6 : Nat) (Option.some Jvm.ClassFile.FieldType.int)) ∈ lw_g := gm (List.mem_of_getElem? (i := 687) (by decide +kernel)) rfl
theorem wd_639 : (Jvm.Cond.methodLink "PipeMomentsLaw" (27 : Nat) ({ cls := "PipeMomentsModel", name := "dropPipe", desc := "(I)I" } : Jvm.MethodName)) ∈ lw_g := gm (List.mem_of_getElem? (i := 688) (by decide +kernel)) rfl
theorem wd_640 : (Jvm.Cond.instanceMethod ({ cls := "PipeMomentsModel", name := "dropPipe", desc := "(I)I" } : Jvm.MethodName)) ∈ lw_g := gm (List.mem_of_getElem? (i := 689) (by decide +kernel)) rfl
theorem wd_641 : (Jvm.Cond.selects "PipeMomentsModel" ({ cls := "PipeMomentsModel", name := "dropPipe", desc := "(I)I" } : Jvm.MethodName) ({ cls := "PipeMomentsModel", name := "dropPipe", desc := "(I)I" } : Jvm.MethodName)) ∈ lw_g := gm (List.mem_of_getElem? (i := 690) (by decide +kernel)) rfl
theorem wd_642 : (Jvm.Cond.code ({ cls := "PipeMomentsModel", name := "dropPipe", desc := "(I)I" } : Jvm.MethodName) prog_7_method_13_code (3 : Nat) (Option.some Jvm.ClassFile.FieldType.int)) ∈ lw_g := gm (List.mem_of_getElem? (i := 691) (by decide +kernel)) rfl
theorem wd_643 : (Jvm.Cond.methodLink "PipeMomentsModel" (91 : Nat) ({ cls := "PipeMomentsModel", name := "isPipe", desc := "(I)Z" } : Jvm.MethodName)) ∈ lw_g := gm (List.mem_of_getElem? (i := 692) (by decide +kernel)) rfl
theorem wd_645 : (Jvm.Cond.instanceMethod ({ cls := "PipeMomentsModel", name := "isPipe", desc := "(I)Z" } : Jvm.MethodName)) ∈ lw_g := gm (List.mem_of_getElem? (i := 694) (by decide +kernel)) rfl
theorem wd_646 : (Jvm.Cond.code ({ cls := "PipeMomentsModel", name := "isPipe", desc := "(I)Z" } : Jvm.MethodName) prog_7_method_5_code (2 : Nat) (Option.some Jvm.ClassFile.FieldType.boolean)) ∈ lw_g := gm (List.mem_of_getElem? (i := 695) (by decide +kernel)) rfl
theorem wd_647 : (Jvm.Cond.methodLink "PipeMomentsLaw" (32 : Nat) ({ cls := "PipeMomentsModel", name := "open", desc := "(III)I" } : Jvm.MethodName)) ∈ lw_g := gm (List.mem_of_getElem? (i := 696) (by decide +kernel)) rfl
theorem wd_648 : (Jvm.Cond.instanceMethod ({ cls := "PipeMomentsModel", name := "open", desc := "(III)I" } : Jvm.MethodName)) ∈ lw_g := gm (List.mem_of_getElem? (i := 697) (by decide +kernel)) rfl
theorem wd_649 : (Jvm.Cond.selects "PipeMomentsModel" ({ cls := "PipeMomentsModel", name := "open", desc := "(III)I" } : Jvm.MethodName) ({ cls := "PipeMomentsModel", name := "open", desc := "(III)I" } : Jvm.MethodName)) ∈ lw_g := gm (List.mem_of_getElem? (i := 698) (by decide +kernel)) rfl
theorem wd_650 : (Jvm.Cond.code ({ cls := "PipeMomentsModel", name := "open", desc := "(III)I" } : Jvm.MethodName) prog_7_method_15_code (4 : Nat) (Option.some Jvm.ClassFile.FieldType.int)) ∈ lw_g := gm (List.mem_of_getElem? (i := 699) (by decide +kernel)) rfl
theorem wd_651 : (Jvm.Cond.methodLink "PipeMomentsModel" (94 : Nat) ({ cls := "PipeMomentsModel", name := "opens", desc := "(III)I" } : Jvm.MethodName)) ∈ lw_g := gm (List.mem_of_getElem? (i := 700) (by decide +kernel)) rfl
theorem wd_653 : (Jvm.Cond.instanceMethod ({ cls := "PipeMomentsModel", name := "opens", desc := "(III)I" } : Jvm.MethodName)) ∈ lw_g := gm (List.mem_of_getElem? (i := 702) (by decide +kernel)) rfl
theorem wd_654 : (Jvm.Cond.code ({ cls := "PipeMomentsModel", name := "opens", desc := "(III)I" } : Jvm.MethodName) prog_7_method_14_code (4 : Nat) (Option.some Jvm.ClassFile.FieldType.int)) ∈ lw_g := gm (List.mem_of_getElem? (i := 703) (by decide +kernel)) rfl
theorem wd_655 : (Jvm.Cond.methodLink "PipeMomentsLaw" (36 : Nat) ({ cls := "PipeMomentsModel", name := "widen", desc := "(II)I" } : Jvm.MethodName)) ∈ lw_g := gm (List.mem_of_getElem? (i := 704) (by decide +kernel)) rfl
theorem wd_656 : (Jvm.Cond.instanceMethod ({ cls := "PipeMomentsModel", name := "widen", desc := "(II)I" } : Jvm.MethodName)) ∈ lw_g := gm (List.mem_of_getElem? (i := 705) (by decide +kernel)) rfl
theorem wd_657 : (Jvm.Cond.selects "PipeMomentsModel" ({ cls := "PipeMomentsModel", name := "widen", desc := "(II)I" } : Jvm.MethodName) ({ cls := "PipeMomentsModel", name := "widen", desc := "(II)I" } : Jvm.MethodName)) ∈ lw_g := gm (List.mem_of_getElem? (i := 706) (by decide +kernel)) rfl
theorem wd_658 : (Jvm.Cond.code ({ cls := "PipeMomentsModel", name := "widen", desc := "(II)I" } : Jvm.MethodName) prog_7_method_17_code (3 : Nat) (Option.some Jvm.ClassFile.FieldType.int)) ∈ lw_g := gm (List.mem_of_getElem? (i := 707) (by decide +kernel)) rfl
theorem wd_659 : (Jvm.Cond.methodLink "PipeMomentsModel" (98 : Nat) ({ cls := "PipeMomentsModel", name := "becomes", desc := "(II)I" } : Jvm.MethodName)) ∈ lw_g := gm (List.mem_of_getElem? (i := 708) (by decide +kernel)) rfl
theorem wd_661 : (Jvm.Cond.instanceMethod ({ cls := "PipeMomentsModel", name := "becomes", desc := "(II)I" } : Jvm.MethodName)) ∈ lw_g := gm (List.mem_of_getElem? (i := 710) (by decide +kernel)) rfl
theorem wd_662 : (Jvm.Cond.code ({ cls := "PipeMomentsModel", name := "becomes", desc := "(II)I" } : Jvm.MethodName) prog_7_method_16_code (4 : Nat) (Option.some Jvm.ClassFile.FieldType.int)) ∈ lw_g := gm (List.mem_of_getElem? (i := 711) (by decide +kernel)) rfl
theorem wd_663 : (Jvm.Cond.methodLink "PipeMomentsLaw" (40 : Nat) ({ cls := "PipeMomentsModel", name := "units", desc := "(II)I" } : Jvm.MethodName)) ∈ lw_g := gm (List.mem_of_getElem? (i := 712) (by decide +kernel)) rfl
theorem wd_664 : (Jvm.Cond.instanceMethod ({ cls := "PipeMomentsModel", name := "units", desc := "(II)I" } : Jvm.MethodName)) ∈ lw_g := gm (List.mem_of_getElem? (i := 713) (by decide +kernel)) rfl
theorem wd_665 : (Jvm.Cond.selects "PipeMomentsModel" ({ cls := "PipeMomentsModel", name := "units", desc := "(II)I" } : Jvm.MethodName) ({ cls := "PipeMomentsModel", name := "units", desc := "(II)I" } : Jvm.MethodName)) ∈ lw_g := gm (List.mem_of_getElem? (i := 714) (by decide +kernel)) rfl
theorem wd_666 : (Jvm.Cond.code ({ cls := "PipeMomentsModel", name := "units", desc := "(II)I" } : Jvm.MethodName) prog_7_method_18_code (3 : Nat) (Option.some Jvm.ClassFile.FieldType.int)) ∈ lw_g := gm (List.mem_of_getElem? (i := 715) (by decide +kernel)) rfl
theorem wd_667 : (Jvm.Cond.methodLink "PipeMomentsLaw" (44 : Nat) ({ cls := "PipeMomentsModel", name := "room", desc := "(II)I" } : Jvm.MethodName)) ∈ lw_g := gm (List.mem_of_getElem? (i := 716) (by decide +kernel)) rfl
theorem wd_668 : (Jvm.Cond.instanceMethod ({ cls := "PipeMomentsModel", name := "room", desc := "(II)I" } : Jvm.MethodName)) ∈ lw_g := gm (List.mem_of_getElem? (i := 717) (by decide +kernel)) rfl
theorem wd_669 : (Jvm.Cond.selects "PipeMomentsModel" ({ cls := "PipeMomentsModel", name := "room", desc := "(II)I" } : Jvm.MethodName) ({ cls := "PipeMomentsModel", name := "room", desc := "(II)I" } : Jvm.MethodName)) ∈ lw_g := gm (List.mem_of_getElem? (i := 718) (by decide +kernel)) rfl
theorem wd_670 : (Jvm.Cond.code ({ cls := "PipeMomentsModel", name := "room", desc := "(II)I" } : Jvm.MethodName) prog_7_method_19_code (3 : Nat) (Option.some Jvm.ClassFile.FieldType.int)) ∈ lw_g := gm (List.mem_of_getElem? (i := 719) (by decide +kernel)) rfl
theorem wd_671 : (Jvm.Cond.methodLink "PipeMomentsLaw" (48 : Nat) ({ cls := "PipeMomentsModel", name := "pipeOf", desc := "(II)I" } : Jvm.MethodName)) ∈ lw_g := gm (List.mem_of_getElem? (i := 720) (by decide +kernel)) rfl
theorem wd_672 : (Jvm.Cond.instanceMethod ({ cls := "PipeMomentsModel", name := "pipeOf", desc := "(II)I" } : Jvm.MethodName)) ∈ lw_g := gm (List.mem_of_getElem? (i := 721) (by decide +kernel)) rfl
theorem wd_673 : (Jvm.Cond.selects "PipeMomentsModel" ({ cls := "PipeMomentsModel", name := "pipeOf", desc := "(II)I" } : Jvm.MethodName) ({ cls := "PipeMomentsModel", name := "pipeOf", desc := "(II)I" } : Jvm.MethodName)) ∈ lw_g := gm (List.mem_of_getElem? (i := 722) (by decide +kernel)) rfl
theorem wd_674 : (Jvm.Cond.code ({ cls := "PipeMomentsModel", name := "pipeOf", desc := "(II)I" } : Jvm.MethodName) prog_7_method_20_code (3 : Nat) (Option.some Jvm.ClassFile.FieldType.int)) ∈ lw_g := gm (List.mem_of_getElem? (i := 723) (by decide +kernel)) rfl
theorem wd_675 : (Jvm.Cond.methodLink "PipeMomentsModel" (101 : Nat) ({ cls := "PipeMomentsModel", name := "pi", desc := "(II)I" } : Jvm.MethodName)) ∈ lw_g := gm (List.mem_of_getElem? (i := 724) (by decide +kernel)) rfl
theorem wd_677 : (Jvm.Cond.instanceMethod ({ cls := "PipeMomentsModel", name := "pi", desc := "(II)I" } : Jvm.MethodName)) ∈ lw_g := gm (List.mem_of_getElem? (i := 726) (by decide +kernel)) rfl
theorem wd_678 : (Jvm.Cond.code ({ cls := "PipeMomentsModel", name := "pi", desc := "(II)I" } : Jvm.MethodName) prog_7_method_6_code (3 : Nat) (Option.some Jvm.ClassFile.FieldType.int)) ∈ lw_g := gm (List.mem_of_getElem? (i := 727) (by decide +kernel)) rfl
theorem wd_679 : (Jvm.Cond.methodLink "PipeMomentsLaw" (52 : Nat) ({ cls := "PipeMomentsModel", name := "placeOf", desc := "(II)I" } : Jvm.MethodName)) ∈ lw_g := gm (List.mem_of_getElem? (i := 728) (by decide +kernel)) rfl
theorem wd_680 : (Jvm.Cond.instanceMethod ({ cls := "PipeMomentsModel", name := "placeOf", desc := "(II)I" } : Jvm.MethodName)) ∈ lw_g := gm (List.mem_of_getElem? (i := 729) (by decide +kernel)) rfl
theorem wd_681 : (Jvm.Cond.selects "PipeMomentsModel" ({ cls := "PipeMomentsModel", name := "placeOf", desc := "(II)I" } : Jvm.MethodName) ({ cls := "PipeMomentsModel", name := "placeOf", desc := "(II)I" } : Jvm.MethodName)) ∈ lw_g := gm (List.mem_of_getElem? (i := 730) (by decide +kernel)) rfl
theorem wd_682 : (Jvm.Cond.code ({ cls := "PipeMomentsModel", name := "placeOf", desc := "(II)I" } : Jvm.MethodName) prog_7_method_23_code (3 : Nat) (Option.some Jvm.ClassFile.FieldType.int)) ∈ lw_g := gm (List.mem_of_getElem? (i := 731) (by decide +kernel)) rfl
theorem wd_683 : (Jvm.Cond.methodLink "PipeMomentsModel" (105 : Nat) ({ cls := "PipeMomentsModel", name := "pipesOf", desc := "(II)I" } : Jvm.MethodName)) ∈ lw_g := gm (List.mem_of_getElem? (i := 732) (by decide +kernel)) rfl
theorem wd_685 : (Jvm.Cond.instanceMethod ({ cls := "PipeMomentsModel", name := "pipesOf", desc := "(II)I" } : Jvm.MethodName)) ∈ lw_g := gm (List.mem_of_getElem? (i := 734) (by decide +kernel)) rfl
theorem wd_686 : (Jvm.Cond.code ({ cls := "PipeMomentsModel", name := "pipesOf", desc := "(II)I" } : Jvm.MethodName) prog_7_method_21_code (5 : Nat) (Option.some Jvm.ClassFile.FieldType.int)) ∈ lw_g := gm (List.mem_of_getElem? (i := 735) (by decide +kernel)) rfl
theorem wd_687 : (Jvm.Cond.methodLink "PipeMomentsModel" (108 : Nat) ({ cls := "PipeMomentsModel", name := "alone", desc := "(I)I" } : Jvm.MethodName)) ∈ lw_g := gm (List.mem_of_getElem? (i := 736) (by decide +kernel)) rfl
theorem wd_689 : (Jvm.Cond.instanceMethod ({ cls := "PipeMomentsModel", name := "alone", desc := "(I)I" } : Jvm.MethodName)) ∈ lw_g := gm (List.mem_of_getElem? (i := 738) (by decide +kernel)) rfl
theorem wd_690 : (Jvm.Cond.code ({ cls := "PipeMomentsModel", name := "alone", desc := "(I)I" } : Jvm.MethodName) prog_7_method_22_code (6 : Nat) (Option.some Jvm.ClassFile.FieldType.int)) ∈ lw_g := gm (List.mem_of_getElem? (i := 739) (by decide +kernel)) rfl
theorem wd_691 : (Jvm.Cond.constant "PipeMomentsModel" (104 : Nat) (-1000004 : Int32)) ∈ lw_g := gm (List.mem_of_getElem? (i := 740) (by decide +kernel)) rfl
theorem wd_692 : (Jvm.Cond.methodLink "PipeMomentsLaw" (56 : Nat) ({ cls := "PipeMomentsModel", name := "come", desc := "(I)I" } : Jvm.MethodName)) ∈ lw_g := gm (List.mem_of_getElem? (i := 741) (by decide +kernel)) rfl
theorem wd_693 : (Jvm.Cond.instanceMethod ({ cls := "PipeMomentsModel", name := "come", desc := "(I)I" } : Jvm.MethodName)) ∈ lw_g := gm (List.mem_of_getElem? (i := 742) (by decide +kernel)) rfl
theorem wd_694 : (Jvm.Cond.selects "PipeMomentsModel" ({ cls := "PipeMomentsModel", name := "come", desc := "(I)I" } : Jvm.MethodName) ({ cls := "PipeMomentsModel", name := "come", desc := "(I)I" } : Jvm.MethodName)) ∈ lw_g := gm (List.mem_of_getElem? (i := 743) (by decide +kernel)) rfl
theorem wd_695 : (Jvm.Cond.code ({ cls := "PipeMomentsModel", name := "come", desc := "(I)I" } : Jvm.MethodName) prog_7_method_32_code (2 : Nat) (Option.some Jvm.ClassFile.FieldType.int)) ∈ lw_g := gm (List.mem_of_getElem? (i := 744) (by decide +kernel)) rfl
theorem wd_696 : (Jvm.Cond.methodLink "PipeMomentsModel" (143 : Nat) ({ cls := "PipeMomentsModel", name := "comes", desc := "(I)I" } : Jvm.MethodName)) ∈ lw_g := gm (List.mem_of_getElem? (i := 745) (by decide +kernel)) rfl
theorem wd_698 : (Jvm.Cond.instanceMethod ({ cls := "PipeMomentsModel", name := "comes", desc := "(I)I" } : Jvm.MethodName)) ∈ lw_g := gm (List.mem_of_getElem? (i := 747) (by decide +kernel)) rfl
theorem wd_699 : (Jvm.Cond.code ({ cls := "PipeMomentsModel", name := "comes", desc := "(I)I" } : Jvm.MethodName) prog_7_method_31_code (3 : Nat) (Option.some Jvm.ClassFile.FieldType.int)) ∈ lw_g := gm (List.mem_of_getElem? (i := 748) (by decide +kernel)) rfl
theorem wd_700 : (Jvm.Cond.methodLink "PipeMomentsModel" (136 : Nat) ({ cls := "PipeMomentsModel", name := "finds", desc := "()Z" } : Jvm.MethodName)) ∈ lw_g := gm (List.mem_of_getElem? (i := 749) (by decide +kernel)) rfl
theorem wd_702 : (Jvm.Cond.instanceMethod ({ cls := "PipeMomentsModel", name := "finds", desc := "()Z" } : Jvm.MethodName)) ∈ lw_g := gm (List.mem_of_getElem? (i := 751) (by decide +kernel)) rfl
theorem wd_703 : (Jvm.Cond.code ({ cls := "PipeMomentsModel", name := "finds", desc := "()Z" } : Jvm.MethodName) prog_7_method_29_code (2 : Nat) (Option.some Jvm.ClassFile.FieldType.boolean)) ∈ lw_g := gm (List.mem_of_getElem? (i := 752) (by decide +kernel)) rfl
theorem wd_704 : (Jvm.Cond.methodLink "PipeMomentsModel" (129 : Nat) ({ cls := "PipeMomentsModel", name := "unitsOf", desc := "(I)I" } : Jvm.MethodName)) ∈ lw_g := gm (List.mem_of_getElem? (i := 753) (by decide +kernel)) rfl
theorem wd_706 : (Jvm.Cond.instanceMethod ({ cls := "PipeMomentsModel", name := "unitsOf", desc := "(I)I" } : Jvm.MethodName)) ∈ lw_g := gm (List.mem_of_getElem? (i := 755) (by decide +kernel)) rfl
theorem wd_707 : (Jvm.Cond.code ({ cls := "PipeMomentsModel", name := "unitsOf", desc := "(I)I" } : Jvm.MethodName) prog_7_method_24_code (2 : Nat) (Option.some Jvm.ClassFile.FieldType.int)) ∈ lw_g := gm (List.mem_of_getElem? (i := 756) (by decide +kernel)) rfl
theorem wd_708 : (Jvm.Cond.constant "PipeMomentsModel" (111 : Nat) (1000000 : Int32)) ∈ lw_g := gm (List.mem_of_getElem? (i := 757) (by decide +kernel)) rfl
theorem wd_709 : (Jvm.Cond.methodLink "PipeMomentsModel" (121 : Nat) ({ cls := "PipeMomentsModel", name := "reaches", desc := "(III)V" } : Jvm.MethodName)) ∈ lw_g := gm (List.mem_of_getElem? (i := 758) (by decide +kernel)) rfl
theorem wd_711 : (Jvm.Cond.instanceMethod ({ cls := "PipeMomentsModel", name := "reaches", desc := "(III)V" } : Jvm.MethodName)) ∈ lw_g := gm (List.mem_of_getElem? (i := 760) (by decide +kernel)) rfl
theorem wd_712 : (Jvm.Cond.code ({ cls := "PipeMomentsModel", name := "reaches", desc := "(III)V" } : Jvm.MethodName) prog_7_method_27_code (4 : Nat) (Option.none : Option Jvm.ClassFile.FieldType)) ∈ lw_g := gm (List.mem_of_getElem? (i := 761) (by decide +kernel)) rfl
theorem wd_713 : (Jvm.Cond.methodLink "PipeMomentsModel" (132 : Nat) ({ cls := "PipeMomentsModel", name := "looks", desc := "(I)V" } : Jvm.MethodName)) ∈ lw_g := gm (List.mem_of_getElem? (i := 762) (by decide +kernel)) rfl
theorem wd_715 : (Jvm.Cond.instanceMethod ({ cls := "PipeMomentsModel", name := "looks", desc := "(I)V" } : Jvm.MethodName)) ∈ lw_g := gm (List.mem_of_getElem? (i := 764) (by decide +kernel)) rfl
theorem wd_716 : (Jvm.Cond.code ({ cls := "PipeMomentsModel", name := "looks", desc := "(I)V" } : Jvm.MethodName) prog_7_method_28_code (7 : Nat) (Option.none : Option Jvm.ClassFile.FieldType)) ∈ lw_g := gm (List.mem_of_getElem? (i := 765) (by decide +kernel)) rfl
theorem wd_717 : (Jvm.Cond.methodLink "PipeMomentsModel" (118 : Nat) ({ cls := "PipeMomentsModel", name := "roomOf", desc := "(I)I" } : Jvm.MethodName)) ∈ lw_g := gm (List.mem_of_getElem? (i := 766) (by decide +kernel)) rfl
theorem wd_719 : (Jvm.Cond.instanceMethod ({ cls := "PipeMomentsModel", name := "roomOf", desc := "(I)I" } : Jvm.MethodName)) ∈ lw_g := gm (List.mem_of_getElem? (i := 768) (by decide +kernel)) rfl
theorem wd_720 : (Jvm.Cond.code ({ cls := "PipeMomentsModel", name := "roomOf", desc := "(I)I" } : Jvm.MethodName) prog_7_method_25_code (2 : Nat) (Option.some Jvm.ClassFile.FieldType.int)) ∈ lw_g := gm (List.mem_of_getElem? (i := 769) (by decide +kernel)) rfl
theorem wd_721 : (Jvm.Cond.methodLink "PipeMomentsModel" (125 : Nat) ({ cls := "PipeMomentsModel", name := "isOpen", desc := "(II)Z" } : Jvm.MethodName)) ∈ lw_g := gm (List.mem_of_getElem? (i := 770) (by decide +kernel)) rfl
theorem wd_723 : (Jvm.Cond.instanceMethod ({ cls := "PipeMomentsModel", name := "isOpen", desc := "(II)Z" } : Jvm.MethodName)) ∈ lw_g := gm (List.mem_of_getElem? (i := 772) (by decide +kernel)) rfl
theorem wd_724 : (Jvm.Cond.code ({ cls := "PipeMomentsModel", name := "isOpen", desc := "(II)Z" } : Jvm.MethodName) prog_7_method_26_code (4 : Nat) (Option.some Jvm.ClassFile.FieldType.boolean)) ∈ lw_g := gm (List.mem_of_getElem? (i := 773) (by decide +kernel)) rfl
theorem wd_725 : (Jvm.Cond.methodLink "PipeMomentsModel" (140 : Nat) ({ cls := "PipeMomentsModel", name := "goes", desc := "()V" } : Jvm.MethodName)) ∈ lw_g := gm (List.mem_of_getElem? (i := 774) (by decide +kernel)) rfl
theorem wd_727 : (Jvm.Cond.instanceMethod ({ cls := "PipeMomentsModel", name := "goes", desc := "()V" } : Jvm.MethodName)) ∈ lw_g := gm (List.mem_of_getElem? (i := 776) (by decide +kernel)) rfl
theorem wd_728 : (Jvm.Cond.code ({ cls := "PipeMomentsModel", name := "goes", desc := "()V" } : Jvm.MethodName) prog_7_method_30_code (4 : Nat) (Option.none : Option Jvm.ClassFile.FieldType)) ∈ lw_g := gm (List.mem_of_getElem? (i := 777) (by decide +kernel)) rfl
theorem wd_729 : (Jvm.Cond.methodLink "PipeMomentsLaw" (60 : Nat) ({ cls := "PipeMomentsModel", name := "earliest", desc := "(I)I" } : Jvm.MethodName)) ∈ lw_g := gm (List.mem_of_getElem? (i := 778) (by decide +kernel)) rfl
theorem wd_730 : (Jvm.Cond.instanceMethod ({ cls := "PipeMomentsModel", name := "earliest", desc := "(I)I" } : Jvm.MethodName)) ∈ lw_g := gm (List.mem_of_getElem? (i := 779) (by decide +kernel)) rfl
theorem wd_731 : (Jvm.Cond.selects "PipeMomentsModel" ({ cls := "PipeMomentsModel", name := "earliest", desc := "(I)I" } : Jvm.MethodName) ({ cls := "PipeMomentsModel", name := "earliest", desc := "(I)I" } : Jvm.MethodName)) ∈ lw_g := gm (List.mem_of_getElem? (i := 780) (by decide +kernel)) rfl
theorem wd_732 : (Jvm.Cond.code ({ cls := "PipeMomentsModel", name := "earliest", desc := "(I)I" } : Jvm.MethodName) prog_7_method_34_code (4 : Nat) (Option.some Jvm.ClassFile.FieldType.int)) ∈ lw_g := gm (List.mem_of_getElem? (i := 781) (by decide +kernel)) rfl
theorem wd_733 : (Jvm.Cond.methodLink "PipeMomentsModel" (146 : Nat) ({ cls := "PipeMomentsModel", name := "all", desc := "()I" } : Jvm.MethodName)) ∈ lw_g := gm (List.mem_of_getElem? (i := 782) (by decide +kernel)) rfl
theorem wd_735 : (Jvm.Cond.instanceMethod ({ cls := "PipeMomentsModel", name := "all", desc := "()I" } : Jvm.MethodName)) ∈ lw_g := gm (List.mem_of_getElem? (i := 784) (by decide +kernel)) rfl
theorem wd_736 : (Jvm.Cond.code ({ cls := "PipeMomentsModel", name := "all", desc := "()I" } : Jvm.MethodName) prog_7_method_33_code (3 : Nat) (Option.some Jvm.ClassFile.FieldType.int)) ∈ lw_g := gm (List.mem_of_getElem? (i := 785) (by decide +kernel)) rfl
theorem wd_737 : (Jvm.Cond.methodLink "PipeMomentsLaw" (64 : Nat) ({ cls := "PipeMomentsModel", name := "repeated", desc := "(II)I" } : Jvm.MethodName)) ∈ lw_g := gm (List.mem_of_getElem? (i := 786) (by decide +kernel)) rfl
theorem wd_738 : (Jvm.Cond.instanceMethod ({ cls := "PipeMomentsModel", name := "repeated", desc := "(II)I" } : Jvm.MethodName)) ∈ lw_g := gm (List.mem_of_getElem? (i := 787) (by decide +kernel)) rfl
theorem wd_739 : (Jvm.Cond.selects "PipeMomentsModel" ({ cls := "PipeMomentsModel", name := "repeated", desc := "(II)I" } : Jvm.MethodName) ({ cls := "PipeMomentsModel", name := "repeated", desc := "(II)I" } : Jvm.MethodName)) ∈ lw_g := gm (List.mem_of_getElem? (i := 788) (by decide +kernel)) rfl
theorem wd_740 : (Jvm.Cond.code ({ cls := "PipeMomentsModel", name := "repeated", desc := "(II)I" } : Jvm.MethodName) prog_7_method_35_code (4 : Nat) (Option.some Jvm.ClassFile.FieldType.int)) ∈ lw_g := gm (List.mem_of_getElem? (i := 789) (by decide +kernel)) rfl
theorem wd_741 : (Jvm.Cond.methodLink "PipeMomentsLaw" (68 : Nat) ({ cls := "PipeMomentsModel", name := "narrow", desc := "(I)I" } : Jvm.MethodName)) ∈ lw_g := gm (List.mem_of_getElem? (i := 790) (by decide +kernel)) rfl
theorem wd_742 : (Jvm.Cond.instanceMethod ({ cls := "PipeMomentsModel", name := "narrow", desc := "(I)I" } : Jvm.MethodName)) ∈ lw_g := gm (List.mem_of_getElem? (i := 791) (by decide +kernel)) rfl
theorem wd_743 : (Jvm.Cond.selects "PipeMomentsModel" ({ cls := "PipeMomentsModel", name := "narrow", desc := "(I)I" } : Jvm.MethodName) ({ cls := "PipeMomentsModel", name := "narrow", desc := "(I)I" } : Jvm.MethodName)) ∈ lw_g := gm (List.mem_of_getElem? (i := 792) (by decide +kernel)) rfl
theorem wd_744 : (Jvm.Cond.code ({ cls := "PipeMomentsModel", name := "narrow", desc := "(I)I" } : Jvm.MethodName) prog_7_method_37_code (4 : Nat) (Option.some Jvm.ClassFile.FieldType.int)) ∈ lw_g := gm (List.mem_of_getElem? (i := 793) (by decide +kernel)) rfl
theorem wd_745 : (Jvm.Cond.methodLink "PipeMomentsModel" (150 : Nat) ({ cls := "PipeMomentsModel", name := "isNarrow", desc := "(I)Z" } : Jvm.MethodName)) ∈ lw_g := gm (List.mem_of_getElem? (i := 794) (by decide +kernel)) rfl
theorem wd_747 : (Jvm.Cond.instanceMethod ({ cls := "PipeMomentsModel", name := "isNarrow", desc := "(I)Z" } : Jvm.MethodName)) ∈ lw_g := gm (List.mem_of_getElem? (i := 796) (by decide +kernel)) rfl
theorem wd_748 : (Jvm.Cond.code ({ cls := "PipeMomentsModel", name := "isNarrow", desc := "(I)Z" } : Jvm.MethodName) prog_7_method_36_code (5 : Nat) (Option.some Jvm.ClassFile.FieldType.boolean)) ∈ lw_g := gm (List.mem_of_getElem? (i := 797) (by decide +kernel)) rfl
theorem wd_749 : (Jvm.Cond.methodLink "PipeMomentsLaw" (72 : Nat) ({ cls := "PipeMomentsModel", name := "wanting", desc := "(III)I" } : Jvm.MethodName)) ∈ lw_g := gm (List.mem_of_getElem? (i := 798) (by decide +kernel)) rfl
theorem wd_750 : (Jvm.Cond.instanceMethod ({ cls := "PipeMomentsModel", name := "wanting", desc := "(III)I" } : Jvm.MethodName)) ∈ lw_g := gm (List.mem_of_getElem? (i := 799) (by decide +kernel)) rfl
theorem wd_751 : (Jvm.Cond.selects "PipeMomentsModel" ({ cls := "PipeMomentsModel", name := "wanting", desc := "(III)I" } : Jvm.MethodName) ({ cls := "PipeMomentsModel", name := "wanting", desc := "(III)I" } : Jvm.MethodName)) ∈ lw_g := gm (List.mem_of_getElem? (i := 800) (by decide +kernel)) rfl
theorem wd_752 : (Jvm.Cond.code ({ cls := "PipeMomentsModel", name := "wanting", desc := "(III)I" } : Jvm.MethodName) prog_7_method_38_code (4 : Nat) (Option.some Jvm.ClassFile.FieldType.int)) ∈ lw_g := gm (List.mem_of_getElem? (i := 801) (by decide +kernel)) rfl
theorem wd_753 : (Jvm.Cond.methodLink "PipeMomentsLaw" (76 : Nat) ({ cls := "PipeMomentsModel", name := "dearest", desc := "(II)I" } : Jvm.MethodName)) ∈ lw_g := gm (List.mem_of_getElem? (i := 802) (by decide +kernel)) rfl
theorem wd_754 : (Jvm.Cond.instanceMethod ({ cls := "PipeMomentsModel", name := "dearest", desc := "(II)I" } : Jvm.MethodName)) ∈ lw_g := gm (List.mem_of_getElem? (i := 803) (by decide +kernel)) rfl
theorem wd_755 : (Jvm.Cond.selects "PipeMomentsModel" ({ cls := "PipeMomentsModel", name := "dearest", desc := "(II)I" } : Jvm.MethodName) ({ cls := "PipeMomentsModel", name := "dearest", desc := "(II)I" } : Jvm.MethodName)) ∈ lw_g := gm (List.mem_of_getElem? (i := 804) (by decide +kernel)) rfl
theorem wd_756 : (Jvm.Cond.code ({ cls := "PipeMomentsModel", name := "dearest", desc := "(II)I" } : Jvm.MethodName) prog_7_method_39_code (8 : Nat) (Option.some Jvm.ClassFile.FieldType.int)) ∈ lw_g := gm (List.mem_of_getElem? (i := 805) (by decide +kernel)) rfl
theorem wd_757 : (Jvm.Cond.methodLink "PipeMomentsLaw" (80 : Nat) ({ cls := "PipeMomentsModel", name := "helpful", desc := "(II)I" } : Jvm.MethodName)) ∈ lw_g := gm (List.mem_of_getElem? (i := 806) (by decide +kernel)) rfl
theorem wd_758 : (Jvm.Cond.instanceMethod ({ cls := "PipeMomentsModel", name := "helpful", desc := "(II)I" } : Jvm.MethodName)) ∈ lw_g := gm (List.mem_of_getElem? (i := 807) (by decide +kernel)) rfl
theorem wd_759 : (Jvm.Cond.selects "PipeMomentsModel" ({ cls := "PipeMomentsModel", name := "helpful", desc := "(II)I" } : Jvm.MethodName) ({ cls := "PipeMomentsModel", name := "helpful", desc := "(II)I" } : Jvm.MethodName)) ∈ lw_g := gm (List.mem_of_getElem? (i := 808) (by decide +kernel)) rfl
theorem wd_760 : (Jvm.Cond.code ({ cls := "PipeMomentsModel", name := "helpful", desc := "(II)I" } : Jvm.MethodName) prog_7_method_40_code (8 : Nat) (Option.some Jvm.ClassFile.FieldType.int)) ∈ lw_g := gm (List.mem_of_getElem? (i := 809) (by decide +kernel)) rfl
theorem wd_761 : (Jvm.Cond.methodLink "PipeMomentsLaw" (84 : Nat) ({ cls := "PipeMomentsModel", name := "withOneMore", desc := "(II)I" } : Jvm.MethodName)) ∈ lw_g := gm (List.mem_of_getElem? (i := 810) (by decide +kernel)) rfl
theorem wd_762 : (Jvm.Cond.instanceMethod ({ cls := "PipeMomentsModel", name := "withOneMore", desc := "(II)I" } : Jvm.MethodName)) ∈ lw_g := gm (List.mem_of_getElem? (i := 811) (by decide +kernel)) rfl
theorem wd_763 : (Jvm.Cond.selects "PipeMomentsModel" ({ cls := "PipeMomentsModel", name := "withOneMore", desc := "(II)I" } : Jvm.MethodName) ({ cls := "PipeMomentsModel", name := "withOneMore", desc := "(II)I" } : Jvm.MethodName)) ∈ lw_g := gm (List.mem_of_getElem? (i := 812) (by decide +kernel)) rfl
theorem wd_764 : (Jvm.Cond.code ({ cls := "PipeMomentsModel", name := "withOneMore", desc := "(II)I" } : Jvm.MethodName) prog_7_method_41_code (4 : Nat) (Option.some Jvm.ClassFile.FieldType.int)) ∈ lw_g := gm (List.mem_of_getElem? (i := 813) (by decide +kernel)) rfl
theorem wd_765 : (Jvm.Cond.methodLink "PipeMomentsLaw" (88 : Nat) ({ cls := "PipeMomentsModel", name := "count", desc := "(I)I" } : Jvm.MethodName)) ∈ lw_g := gm (List.mem_of_getElem? (i := 814) (by decide +kernel)) rfl
theorem wd_766 : (Jvm.Cond.instanceMethod ({ cls := "PipeMomentsModel", name := "count", desc := "(I)I" } : Jvm.MethodName)) ∈ lw_g := gm (List.mem_of_getElem? (i := 815) (by decide +kernel)) rfl
theorem wd_767 : (Jvm.Cond.selects "PipeMomentsModel" ({ cls := "PipeMomentsModel", name := "count", desc := "(I)I" } : Jvm.MethodName) ({ cls := "PipeMomentsModel", name := "count", desc := "(I)I" } : Jvm.MethodName)) ∈ lw_g := gm (List.mem_of_getElem? (i := 816) (by decide +kernel)) rfl
theorem wd_768 : (Jvm.Cond.code ({ cls := "PipeMomentsModel", name := "count", desc := "(I)I" } : Jvm.MethodName) prog_7_method_43_code (2 : Nat) (Option.some Jvm.ClassFile.FieldType.int)) ∈ lw_g := gm (List.mem_of_getElem? (i := 817) (by decide +kernel)) rfl
theorem wd_769 : (Jvm.Cond.methodLink "PipeMomentsModel" (153 : Nat) ({ cls := "PipeMomentsModel", name := "bounds", desc := "()I" } : Jvm.MethodName)) ∈ lw_g := gm (List.mem_of_getElem? (i := 818) (by decide +kernel)) rfl
theorem wd_771 : (Jvm.Cond.instanceMethod ({ cls := "PipeMomentsModel", name := "bounds", desc := "()I" } : Jvm.MethodName)) ∈ lw_g := gm (List.mem_of_getElem? (i := 820) (by decide +kernel)) rfl
theorem wd_772 : (Jvm.Cond.code ({ cls := "PipeMomentsModel", name := "bounds", desc := "()I" } : Jvm.MethodName) prog_7_method_42_code (3 : Nat) (Option.some Jvm.ClassFile.FieldType.int)) ∈ lw_g := gm (List.mem_of_getElem? (i := 821) (by decide +kernel)) rfl
theorem wd_773 : (Jvm.Cond.methodLink "PipeMomentsLaw" (93 : Nat) ({ cls := "PipeMomentsModel", name := "undo", desc := "()I" } : Jvm.MethodName)) ∈ lw_g := gm (List.mem_of_getElem? (i := 822) (by decide +kernel)) rfl
theorem wd_774 : (Jvm.Cond.instanceMethod ({ cls := "PipeMomentsModel", name := "undo", desc := "()I" } : Jvm.MethodName)) ∈ lw_g := gm (List.mem_of_getElem? (i := 823) (by decide +kernel)) rfl
theorem wd_775 : (Jvm.Cond.selects "PipeMomentsModel" ({ cls := "PipeMomentsModel", name := "undo", desc := "()I" } : Jvm.MethodName) ({ cls := "PipeMomentsModel", name := "undo", desc := "()I" } : Jvm.MethodName)) ∈ lw_g := gm (List.mem_of_getElem? (i := 824) (by decide +kernel)) rfl
theorem wd_776 : (Jvm.Cond.code ({ cls := "PipeMomentsModel", name := "undo", desc := "()I" } : Jvm.MethodName) prog_7_method_44_code (2 : Nat) (Option.some Jvm.ClassFile.FieldType.int)) ∈ lw_g := gm (List.mem_of_getElem? (i := 825) (by decide +kernel)) rfl
theorem wd_777 : (Jvm.Cond.constant "PipeMomentsModel" (159 : Nat) (-1000002 : Int32)) ∈ lw_g := gm (List.mem_of_getElem? (i := 826) (by decide +kernel)) rfl
theorem wd_778 : (Jvm.Cond.methodLink "PipeMomentsLaw" (97 : Nat) ({ cls := "PipeMomentsModel", name := "type", desc := "(I)I" } : Jvm.MethodName)) ∈ lw_g := gm (List.mem_of_getElem? (i := 827) (by decide +kernel)) rfl
theorem wd_779 : (Jvm.Cond.instanceMethod ({ cls := "PipeMomentsModel", name := "type", desc := "(I)I" } : Jvm.MethodName)) ∈ lw_g := gm (List.mem_of_getElem? (i := 828) (by decide +kernel)) rfl
theorem wd_780 : (Jvm.Cond.selects "PipeMomentsModel" ({ cls := "PipeMomentsModel", name := "type", desc := "(I)I" } : Jvm.MethodName) ({ cls := "PipeMomentsModel", name := "type", desc := "(I)I" } : Jvm.MethodName)) ∈ lw_g := gm (List.mem_of_getElem? (i := 829) (by decide +kernel)) rfl
theorem wd_781 : (Jvm.Cond.code ({ cls := "PipeMomentsModel", name := "type", desc := "(I)I" } : Jvm.MethodName) prog_7_method_45_code (2 : Nat) (Option.some Jvm.ClassFile.FieldType.int)) ∈ lw_g := gm (List.mem_of_getElem? (i := 830) (by decide +kernel)) rfl
theorem wd_782 : (Jvm.Cond.methodLink "PipeMomentsLaw" (101 : Nat) ({ cls := "PipeMomentsModel", name := "clearText", desc := "()I" } : Jvm.MethodName)) ∈ lw_g := gm (List.mem_of_getElem? (i := 831) (by decide +kernel)) rfl
theorem wd_783 : (Jvm.Cond.instanceMethod ({ cls := "PipeMomentsModel", name := "clearText", desc := "()I" } : Jvm.MethodName)) ∈ lw_g := gm (List.mem_of_getElem? (i := 832) (by decide +kernel)) rfl
theorem wd_784 : (Jvm.Cond.selects "PipeMomentsModel" ({ cls := "PipeMomentsModel", name := "clearText", desc := "()I" } : Jvm.MethodName) ({ cls := "PipeMomentsModel", name := "clearText", desc := "()I" } : Jvm.MethodName)) ∈ lw_g := gm (List.mem_of_getElem? (i := 833) (by decide +kernel)) rfl
theorem wd_785 : (Jvm.Cond.code ({ cls := "PipeMomentsModel", name := "clearText", desc := "()I" } : Jvm.MethodName) prog_7_method_46_code (2 : Nat) (Option.some Jvm.ClassFile.FieldType.int)) ∈ lw_g := gm (List.mem_of_getElem? (i := 834) (by decide +kernel)) rfl
theorem wd_786 : (Jvm.Cond.methodLink "PipeMomentsLaw" (105 : Nat) ({ cls := "PipeMomentsModel", name := "fault", desc := "(I)I" } : Jvm.MethodName)) ∈ lw_g := gm (List.mem_of_getElem? (i := 835) (by decide +kernel)) rfl
theorem wd_787 : (Jvm.Cond.instanceMethod ({ cls := "PipeMomentsModel", name := "fault", desc := "(I)I" } : Jvm.MethodName)) ∈ lw_g := gm (List.mem_of_getElem? (i := 836) (by decide +kernel)) rfl
theorem wd_788 : (Jvm.Cond.selects "PipeMomentsModel" ({ cls := "PipeMomentsModel", name := "fault", desc := "(I)I" } : Jvm.MethodName) ({ cls := "PipeMomentsModel", name := "fault", desc := "(I)I" } : Jvm.MethodName)) ∈ lw_g := gm (List.mem_of_getElem? (i := 837) (by decide +kernel)) rfl
theorem wd_789 : (Jvm.Cond.code ({ cls := "PipeMomentsModel", name := "fault", desc := "(I)I" } : Jvm.MethodName) prog_7_method_54_code (3 : Nat) (Option.some Jvm.ClassFile.FieldType.int)) ∈ lw_g := gm (List.mem_of_getElem? (i := 838) (by decide +kernel)) rfl
theorem wd_790 : (Jvm.Cond.methodLink "PipeMomentsModel" (187 : Nat) ({ cls := "PipeMomentsModel", name := "faulty", desc := "()I" } : Jvm.MethodName)) ∈ lw_g := gm (List.mem_of_getElem? (i := 839) (by decide +kernel)) rfl
theorem wd_792 : (Jvm.Cond.instanceMethod ({ cls := "PipeMomentsModel", name := "faulty", desc := "()I" } : Jvm.MethodName)) ∈ lw_g := gm (List.mem_of_getElem? (i := 841) (by decide +kernel)) rfl
theorem wd_793 : (Jvm.Cond.code ({ cls := "PipeMomentsModel", name := "faulty", desc := "()I" } : Jvm.MethodName) prog_7_method_53_code (3 : Nat) (Option.some Jvm.ClassFile.FieldType.int)) ∈ lw_g := gm (List.mem_of_getElem? (i := 842) (by decide +kernel)) rfl
theorem wd_794 : (Jvm.Cond.methodLink "PipeMomentsModel" (181 : Nat) ({ cls := "PipeMomentsModel", name := "doesNext", desc := "()I" } : Jvm.MethodName)) ∈ lw_g := gm (List.mem_of_getElem? (i := 843) (by decide +kernel)) rfl
theorem wd_796 : (Jvm.Cond.instanceMethod ({ cls := "PipeMomentsModel", name := "doesNext", desc := "()I" } : Jvm.MethodName)) ∈ lw_g := gm (List.mem_of_getElem? (i := 845) (by decide +kernel)) rfl
theorem wd_797 : (Jvm.Cond.code ({ cls := "PipeMomentsModel", name := "doesNext", desc := "()I" } : Jvm.MethodName) prog_7_method_52_code (5 : Nat) (Option.some Jvm.ClassFile.FieldType.int)) ∈ lw_g := gm (List.mem_of_getElem? (i := 846) (by decide +kernel)) rfl
theorem wd_798 : (Jvm.Cond.methodLink "PipeMomentsModel" (163 : Nat) ({ cls := "PipeMomentsModel", name := "sign", desc := "()I" } : Jvm.MethodName)) ∈ lw_g := gm (List.mem_of_getElem? (i := 847) (by decide +kernel)) rfl
theorem wd_800 : (Jvm.Cond.instanceMethod ({ cls := "PipeMomentsModel", name := "sign", desc := "()I" } : Jvm.MethodName)) ∈ lw_g := gm (List.mem_of_getElem? (i := 849) (by decide +kernel)) rfl
theorem wd_801 : (Jvm.Cond.code ({ cls := "PipeMomentsModel", name := "sign", desc := "()I" } : Jvm.MethodName) prog_7_method_47_code (1 : Nat) (Option.some Jvm.ClassFile.FieldType.int)) ∈ lw_g := gm (List.mem_of_getElem? (i := 850) (by decide +kernel)) rfl
theorem wd_802 : (Jvm.Cond.methodLink "PipeMomentsModel" (169 : Nat) ({ cls := "PipeMomentsModel", name := "reads", desc := "(I)Z" } : Jvm.MethodName)) ∈ lw_g := gm (List.mem_of_getElem? (i := 851) (by decide +kernel)) rfl
theorem wd_804 : (Jvm.Cond.instanceMethod ({ cls := "PipeMomentsModel", name := "reads", desc := "(I)Z" } : Jvm.MethodName)) ∈ lw_g := gm (List.mem_of_getElem? (i := 853) (by decide +kernel)) rfl
theorem wd_805 : (Jvm.Cond.code ({ cls := "PipeMomentsModel", name := "reads", desc := "(I)Z" } : Jvm.MethodName) prog_7_method_49_code (3 : Nat) (Option.some Jvm.ClassFile.FieldType.boolean)) ∈ lw_g := gm (List.mem_of_getElem? (i := 854) (by decide +kernel)) rfl
theorem wd_806 : (Jvm.Cond.methodLink "PipeMomentsModel" (166 : Nat) ({ cls := "PipeMomentsModel", name := "readsNumber", desc := "(I)Z" } : Jvm.MethodName)) ∈ lw_g := gm (List.mem_of_getElem? (i := 855) (by decide +kernel)) rfl
theorem wd_808 : (Jvm.Cond.instanceMethod ({ cls := "PipeMomentsModel", name := "readsNumber", desc := "(I)Z" } : Jvm.MethodName)) ∈ lw_g := gm (List.mem_of_getElem? (i := 857) (by decide +kernel)) rfl
theorem wd_809 : (Jvm.Cond.code ({ cls := "PipeMomentsModel", name := "readsNumber", desc := "(I)Z" } : Jvm.MethodName) prog_7_method_48_code (3 : Nat) (Option.some Jvm.ClassFile.FieldType.boolean)) ∈ lw_g := gm (List.mem_of_getElem? (i := 858) (by decide +kernel)) rfl
theorem wd_810 : (Jvm.Cond.methodLink "PipeMomentsModel" (175 : Nat) ({ cls := "PipeMomentsModel", name := "isRight", desc := "(II)Z" } : Jvm.MethodName)) ∈ lw_g := gm (List.mem_of_getElem? (i := 859) (by decide +kernel)) rfl
theorem wd_812 : (Jvm.Cond.instanceMethod ({ cls := "PipeMomentsModel", name := "isRight", desc := "(II)Z" } : Jvm.MethodName)) ∈ lw_g := gm (List.mem_of_getElem? (i := 861) (by decide +kernel)) rfl
theorem wd_813 : (Jvm.Cond.code ({ cls := "PipeMomentsModel", name := "isRight", desc := "(II)Z" } : Jvm.MethodName) prog_7_method_50_code (4 : Nat) (Option.some Jvm.ClassFile.FieldType.boolean)) ∈ lw_g := gm (List.mem_of_getElem? (i := 862) (by decide +kernel)) rfl
theorem wd_814 : (Jvm.Cond.methodLink "PipeMomentsModel" (178 : Nat) ({ cls := "PipeMomentsModel", name := "does", desc := "(I)I" } : Jvm.MethodName)) ∈ lw_g := gm (List.mem_of_getElem? (i := 863) (by decide +kernel)) rfl
theorem wd_816 : (Jvm.Cond.instanceMethod ({ cls := "PipeMomentsModel", name := "does", desc := "(I)I" } : Jvm.MethodName)) ∈ lw_g := gm (List.mem_of_getElem? (i := 865) (by decide +kernel)) rfl
theorem wd_817 : (Jvm.Cond.code ({ cls := "PipeMomentsModel", name := "does", desc := "(I)I" } : Jvm.MethodName) prog_7_method_51_code (2 : Nat) (Option.some Jvm.ClassFile.FieldType.int)) ∈ lw_g := gm (List.mem_of_getElem? (i := 866) (by decide +kernel)) rfl
theorem wd_818 : (Jvm.Cond.methodLink "PipeMomentsLaw" (109 : Nat) ({ cls := "PipeMomentsModel", name := "play", desc := "()I" } : Jvm.MethodName)) ∈ lw_g := gm (List.mem_of_getElem? (i := 867) (by decide +kernel)) rfl
theorem wd_819 : (Jvm.Cond.instanceMethod ({ cls := "PipeMomentsModel", name := "play", desc := "()I" } : Jvm.MethodName)) ∈ lw_g := gm (List.mem_of_getElem? (i := 868) (by decide +kernel)) rfl
theorem wd_820 : (Jvm.Cond.selects "PipeMomentsModel" ({ cls := "PipeMomentsModel", name := "play", desc := "()I" } : Jvm.MethodName) ({ cls := "PipeMomentsModel", name := "play", desc := "()I" } : Jvm.MethodName)) ∈ lw_g := gm (List.mem_of_getElem? (i := 869) (by decide +kernel)) rfl
theorem wd_821 : (Jvm.Cond.code ({ cls := "PipeMomentsModel", name := "play", desc := "()I" } : Jvm.MethodName) prog_7_method_55_code (2 : Nat) (Option.some Jvm.ClassFile.FieldType.int)) ∈ lw_g := gm (List.mem_of_getElem? (i := 870) (by decide +kernel)) rfl
theorem ws_0 : Cond.selects "PipeMoments$History" ⟨"PipeMoments$History", "dropOldest", "()V"⟩ ⟨"PipeMoments$History", "dropOldest", "()V"⟩ ∈ lw_g := gm (List.mem_of_getElem? (i := 0) (by decide +kernel)) rfl
theorem ws_1 : Cond.selects "PipeMoments$Stream" ⟨"PipeMoments$Stream", "leastTickFor", "(I)I"⟩ ⟨"PipeMoments$Stream", "leastTickFor", "(I)I"⟩ ∈ lw_g := gm (List.mem_of_getElem? (i := 1) (by decide +kernel)) rfl
theorem ws_2 : Cond.selects "PipeMoments$Stream" ⟨"PipeMoments$Stream", "begin", "()V"⟩ ⟨"PipeMoments$Stream", "begin", "()V"⟩ ∈ lw_g := gm (List.mem_of_getElem? (i := 2) (by decide +kernel)) rfl
theorem ws_3 : Cond.selects "PipeMoments$Stream" ⟨"PipeMoments$Stream", "bind", "(II)V"⟩ ⟨"PipeMoments$Stream", "bind", "(II)V"⟩ ∈ lw_g := gm (List.mem_of_getElem? (i := 3) (by decide +kernel)) rfl
theorem ws_4 : Cond.selects "PipeMoments$Stream" ⟨"PipeMoments$Stream", "moreBy", "(I)I"⟩ ⟨"PipeMoments$Stream", "moreBy", "(I)I"⟩ ∈ lw_g := gm (List.mem_of_getElem? (i := 4) (by decide +kernel)) rfl
theorem ws_5 : Cond.selects "PipeMoments$Stream" ⟨"PipeMoments$Stream", "search", "(I)V"⟩ ⟨"PipeMoments$Stream", "search", "(I)V"⟩ ∈ lw_g := gm (List.mem_of_getElem? (i := 5) (by decide +kernel)) rfl
theorem ws_6 : Cond.selects "PipeMoments$Stream" ⟨"PipeMoments$Stream", "tryWay", "(III)V"⟩ ⟨"PipeMoments$Stream", "tryWay", "(III)V"⟩ ∈ lw_g := gm (List.mem_of_getElem? (i := 6) (by decide +kernel)) rfl
theorem ws_7 : Cond.selects "PipeMoments$Stream" ⟨"PipeMoments$Stream", "spread", "(II)V"⟩ ⟨"PipeMoments$Stream", "spread", "(II)V"⟩ ∈ lw_g := gm (List.mem_of_getElem? (i := 7) (by decide +kernel)) rfl
theorem ws_8 : Cond.selects "PipeMoments$Stream" ⟨"PipeMoments$Stream", "carryToArrival", "()I"⟩ ⟨"PipeMoments$Stream", "carryToArrival", "()I"⟩ ∈ lw_g := gm (List.mem_of_getElem? (i := 8) (by decide +kernel)) rfl
theorem ws_9 : Cond.selects "PipeMoments$Stream" ⟨"PipeMoments$Stream", "mostBy", "(I)I"⟩ ⟨"PipeMoments$Stream", "mostBy", "(I)I"⟩ ∈ lw_g := gm (List.mem_of_getElem? (i := 9) (by decide +kernel)) rfl
theorem ws_10 : Cond.selects "PipeMoments$Stream" ⟨"PipeMoments$Stream", "isNarrow", "(II)Z"⟩ ⟨"PipeMoments$Stream", "isNarrow", "(II)Z"⟩ ∈ lw_g := gm (List.mem_of_getElem? (i := 10) (by decide +kernel)) rfl
theorem ws_11 : Cond.selects "PipeMoments$Settings" ⟨"PipeMoments$Settings", "readSetting", "()V"⟩ ⟨"PipeMoments$Settings", "readSetting", "()V"⟩ ∈ lw_g := gm (List.mem_of_getElem? (i := 11) (by decide +kernel)) rfl
theorem ws_12 : Cond.selects "PipeMoments$Settings" ⟨"PipeMoments$Settings", "readForm", "(C)Z"⟩ ⟨"PipeMoments$Settings", "readForm", "(C)Z"⟩ ∈ lw_g := gm (List.mem_of_getElem? (i := 12) (by decide +kernel)) rfl
theorem ws_13 : Cond.selects "PipeMoments$Settings" ⟨"PipeMoments$Settings", "readNumber", "(I)Z"⟩ ⟨"PipeMoments$Settings", "readNumber", "(I)Z"⟩ ∈ lw_g := gm (List.mem_of_getElem? (i := 13) (by decide +kernel)) rfl
theorem ws_14 : Cond.selects "PipeMoments$Settings" ⟨"PipeMoments$Settings", "isDigitNext", "()Z"⟩ ⟨"PipeMoments$Settings", "isDigitNext", "()Z"⟩ ∈ lw_g := gm (List.mem_of_getElem? (i := 14) (by decide +kernel)) rfl
theorem ws_15 : Cond.selects "PipeMoments$Settings" ⟨"PipeMoments$Settings", "readSign", "(C)Z"⟩ ⟨"PipeMoments$Settings", "readSign", "(C)Z"⟩ ∈ lw_g := gm (List.mem_of_getElem? (i := 15) (by decide +kernel)) rfl
theorem ws_16 : Cond.selects "PipeMoments$Settings" ⟨"PipeMoments$Settings", "badNumber", "(C)I"⟩ ⟨"PipeMoments$Settings", "badNumber", "(C)I"⟩ ∈ lw_g := gm (List.mem_of_getElem? (i := 16) (by decide +kernel)) rfl
theorem ws_17 : Cond.selects "PipeMoments$Settings" ⟨"PipeMoments$Settings", "isBeyondLimit", "(C)Z"⟩ ⟨"PipeMoments$Settings", "isBeyondLimit", "(C)Z"⟩ ∈ lw_g := gm (List.mem_of_getElem? (i := 17) (by decide +kernel)) rfl
theorem ws_18 : Cond.selects "PipeMoments$Settings" ⟨"PipeMoments$Settings", "settle", "(C)V"⟩ ⟨"PipeMoments$Settings", "settle", "(C)V"⟩ ∈ lw_g := gm (List.mem_of_getElem? (i := 18) (by decide +kernel)) rfl
theorem ws_19 : Cond.selects "PipeMomentsModel" ⟨"PipeMomentsModel", "asIs", "()V"⟩ ⟨"PipeMomentsModel", "asIs", "()V"⟩ ∈ lw_g := gm (List.mem_of_getElem? (i := 19) (by decide +kernel)) rfl
theorem ws_20 : Cond.selects "PipeMomentsModel" ⟨"PipeMomentsModel", "keeps", "()V"⟩ ⟨"PipeMomentsModel", "keeps", "()V"⟩ ∈ lw_g := gm (List.mem_of_getElem? (i := 20) (by decide +kernel)) rfl
theorem ws_21 : Cond.selects "PipeMomentsModel" ⟨"PipeMomentsModel", "adds", "(II)I"⟩ ⟨"PipeMomentsModel", "adds", "(II)I"⟩ ∈ lw_g := gm (List.mem_of_getElem? (i := 21) (by decide +kernel)) rfl
theorem ws_22 : Cond.selects "PipeMomentsModel" ⟨"PipeMomentsModel", "acted", "(I)I"⟩ ⟨"PipeMomentsModel", "acted", "(I)I"⟩ ∈ lw_g := gm (List.mem_of_getElem? (i := 22) (by decide +kernel)) rfl
theorem ws_23 : Cond.selects "PipeMomentsModel" ⟨"PipeMomentsModel", "isPlace", "(I)Z"⟩ ⟨"PipeMomentsModel", "isPlace", "(I)Z"⟩ ∈ lw_g := gm (List.mem_of_getElem? (i := 23) (by decide +kernel)) rfl
theorem ws_24 : Cond.selects "PipeMomentsModel" ⟨"PipeMomentsModel", "lays", "(IIII)I"⟩ ⟨"PipeMomentsModel", "lays", "(IIII)I"⟩ ∈ lw_g := gm (List.mem_of_getElem? (i := 24) (by decide +kernel)) rfl
theorem ws_25 : Cond.selects "PipeMomentsModel" ⟨"PipeMomentsModel", "isPipe", "(I)Z"⟩ ⟨"PipeMomentsModel", "isPipe", "(I)Z"⟩ ∈ lw_g := gm (List.mem_of_getElem? (i := 25) (by decide +kernel)) rfl
theorem ws_26 : Cond.selects "PipeMomentsModel" ⟨"PipeMomentsModel", "opens", "(III)I"⟩ ⟨"PipeMomentsModel", "opens", "(III)I"⟩ ∈ lw_g := gm (List.mem_of_getElem? (i := 26) (by decide +kernel)) rfl
theorem ws_27 : Cond.selects "PipeMomentsModel" ⟨"PipeMomentsModel", "becomes", "(II)I"⟩ ⟨"PipeMomentsModel", "becomes", "(II)I"⟩ ∈ lw_g := gm (List.mem_of_getElem? (i := 27) (by decide +kernel)) rfl
theorem ws_28 : Cond.selects "PipeMomentsModel" ⟨"PipeMomentsModel", "pi", "(II)I"⟩ ⟨"PipeMomentsModel", "pi", "(II)I"⟩ ∈ lw_g := gm (List.mem_of_getElem? (i := 28) (by decide +kernel)) rfl
theorem ws_29 : Cond.selects "PipeMomentsModel" ⟨"PipeMomentsModel", "pipesOf", "(II)I"⟩ ⟨"PipeMomentsModel", "pipesOf", "(II)I"⟩ ∈ lw_g := gm (List.mem_of_getElem? (i := 29) (by decide +kernel)) rfl
theorem ws_30 : Cond.selects "PipeMomentsModel" ⟨"PipeMomentsModel", "alone", "(I)I"⟩ ⟨"PipeMomentsModel", "alone", "(I)I"⟩ ∈ lw_g := gm (List.mem_of_getElem? (i := 30) (by decide +kernel)) rfl
theorem ws_31 : Cond.selects "PipeMomentsModel" ⟨"PipeMomentsModel", "comes", "(I)I"⟩ ⟨"PipeMomentsModel", "comes", "(I)I"⟩ ∈ lw_g := gm (List.mem_of_getElem? (i := 31) (by decide +kernel)) rfl
theorem ws_32 : Cond.selects "PipeMomentsModel" ⟨"PipeMomentsModel", "finds", "()Z"⟩ ⟨"PipeMomentsModel", "finds", "()Z"⟩ ∈ lw_g := gm (List.mem_of_getElem? (i := 32) (by decide +kernel)) rfl
theorem ws_33 : Cond.selects "PipeMomentsModel" ⟨"PipeMomentsModel", "unitsOf", "(I)I"⟩ ⟨"PipeMomentsModel", "unitsOf", "(I)I"⟩ ∈ lw_g := gm (List.mem_of_getElem? (i := 33) (by decide +kernel)) rfl
theorem ws_34 : Cond.selects "PipeMomentsModel" ⟨"PipeMomentsModel", "reaches", "(III)V"⟩ ⟨"PipeMomentsModel", "reaches", "(III)V"⟩ ∈ lw_g := gm (List.mem_of_getElem? (i := 34) (by decide +kernel)) rfl
theorem ws_35 : Cond.selects "PipeMomentsModel" ⟨"PipeMomentsModel", "looks", "(I)V"⟩ ⟨"PipeMomentsModel", "looks", "(I)V"⟩ ∈ lw_g := gm (List.mem_of_getElem? (i := 35) (by decide +kernel)) rfl
theorem ws_36 : Cond.selects "PipeMomentsModel" ⟨"PipeMomentsModel", "roomOf", "(I)I"⟩ ⟨"PipeMomentsModel", "roomOf", "(I)I"⟩ ∈ lw_g := gm (List.mem_of_getElem? (i := 36) (by decide +kernel)) rfl
theorem ws_37 : Cond.selects "PipeMomentsModel" ⟨"PipeMomentsModel", "isOpen", "(II)Z"⟩ ⟨"PipeMomentsModel", "isOpen", "(II)Z"⟩ ∈ lw_g := gm (List.mem_of_getElem? (i := 37) (by decide +kernel)) rfl
theorem ws_38 : Cond.selects "PipeMomentsModel" ⟨"PipeMomentsModel", "goes", "()V"⟩ ⟨"PipeMomentsModel", "goes", "()V"⟩ ∈ lw_g := gm (List.mem_of_getElem? (i := 38) (by decide +kernel)) rfl
theorem ws_39 : Cond.selects "PipeMomentsModel" ⟨"PipeMomentsModel", "all", "()I"⟩ ⟨"PipeMomentsModel", "all", "()I"⟩ ∈ lw_g := gm (List.mem_of_getElem? (i := 39) (by decide +kernel)) rfl
theorem ws_40 : Cond.selects "PipeMomentsModel" ⟨"PipeMomentsModel", "isNarrow", "(I)Z"⟩ ⟨"PipeMomentsModel", "isNarrow", "(I)Z"⟩ ∈ lw_g := gm (List.mem_of_getElem? (i := 40) (by decide +kernel)) rfl
theorem ws_41 : Cond.selects "PipeMomentsModel" ⟨"PipeMomentsModel", "bounds", "()I"⟩ ⟨"PipeMomentsModel", "bounds", "()I"⟩ ∈ lw_g := gm (List.mem_of_getElem? (i := 41) (by decide +kernel)) rfl
theorem ws_42 : Cond.selects "PipeMomentsModel" ⟨"PipeMomentsModel", "faulty", "()I"⟩ ⟨"PipeMomentsModel", "faulty", "()I"⟩ ∈ lw_g := gm (List.mem_of_getElem? (i := 42) (by decide +kernel)) rfl
theorem ws_43 : Cond.selects "PipeMomentsModel" ⟨"PipeMomentsModel", "doesNext", "()I"⟩ ⟨"PipeMomentsModel", "doesNext", "()I"⟩ ∈ lw_g := gm (List.mem_of_getElem? (i := 43) (by decide +kernel)) rfl
theorem ws_44 : Cond.selects "PipeMomentsModel" ⟨"PipeMomentsModel", "sign", "()I"⟩ ⟨"PipeMomentsModel", "sign", "()I"⟩ ∈ lw_g := gm (List.mem_of_getElem? (i := 44) (by decide +kernel)) rfl
theorem ws_45 : Cond.selects "PipeMomentsModel" ⟨"PipeMomentsModel", "reads", "(I)Z"⟩ ⟨"PipeMomentsModel", "reads", "(I)Z"⟩ ∈ lw_g := gm (List.mem_of_getElem? (i := 45) (by decide +kernel)) rfl
theorem ws_46 : Cond.selects "PipeMomentsModel" ⟨"PipeMomentsModel", "readsNumber", "(I)Z"⟩ ⟨"PipeMomentsModel", "readsNumber", "(I)Z"⟩ ∈ lw_g := gm (List.mem_of_getElem? (i := 46) (by decide +kernel)) rfl
theorem ws_47 : Cond.selects "PipeMomentsModel" ⟨"PipeMomentsModel", "isRight", "(II)Z"⟩ ⟨"PipeMomentsModel", "isRight", "(II)Z"⟩ ∈ lw_g := gm (List.mem_of_getElem? (i := 47) (by decide +kernel)) rfl
theorem ws_48 : Cond.selects "PipeMomentsModel" ⟨"PipeMomentsModel", "does", "(I)I"⟩ ⟨"PipeMomentsModel", "does", "(I)I"⟩ ∈ lw_g := gm (List.mem_of_getElem? (i := 48) (by decide +kernel)) rfl
end
